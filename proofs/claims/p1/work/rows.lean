section
-- ===== PART A: goes FIRST, ahead of the names: the tables' words, and 'selects' of the private methods out of them =====
/-- a private method of a class that the tables say can be made, by its rows of tables_1 -/
def lw_okq (q : MethodName × Nat) : Prop := (q.1.cls ≠ "java/lang/invoke/MethodHandle" ∧ q.1.cls ≠ "java/lang/invoke/VarHandle") ∧ Cond.instantiable q.1.cls q.2 ∈ tables_1 ∧ Cond.privateMethod q.1 ∈ tables_1 ∧ Cond.instanceMethod q.1 ∈ tables_1
theorem lw_p0 : lw_okq (⟨"FoxHoles$Law", "pop", "()I"⟩, 10) := ⟨⟨by decide +kernel, by decide +kernel⟩, List.mem_of_getElem? (i := 26) (by decide +kernel), List.mem_of_getElem? (i := 423) (by decide +kernel), List.mem_of_getElem? (i := 424) (by decide +kernel)⟩
theorem lw_p1 : lw_okq (⟨"FoxHoles$Law", "behindLine", "(I)I"⟩, 10) := ⟨⟨by decide +kernel, by decide +kernel⟩, List.mem_of_getElem? (i := 26) (by decide +kernel), List.mem_of_getElem? (i := 427) (by decide +kernel), List.mem_of_getElem? (i := 428) (by decide +kernel)⟩
theorem lw_p2 : lw_okq (⟨"FoxHoles$Law", "push", "(I)V"⟩, 10) := ⟨⟨by decide +kernel, by decide +kernel⟩, List.mem_of_getElem? (i := 26) (by decide +kernel), List.mem_of_getElem? (i := 434) (by decide +kernel), List.mem_of_getElem? (i := 435) (by decide +kernel)⟩
theorem lw_p3 : lw_okq (⟨"FoxHoles$Law", "apply", "(I)V"⟩, 10) := ⟨⟨by decide +kernel, by decide +kernel⟩, List.mem_of_getElem? (i := 26) (by decide +kernel), List.mem_of_getElem? (i := 444) (by decide +kernel), List.mem_of_getElem? (i := 445) (by decide +kernel)⟩
theorem lw_p4 : lw_okq (⟨"FoxHoles", "shelfAt", "(I)LFoxHoles$Shelf;"⟩, 13) := ⟨⟨by decide +kernel, by decide +kernel⟩, List.mem_of_getElem? (i := 18) (by decide +kernel), List.mem_of_getElem? (i := 458) (by decide +kernel), List.mem_of_getElem? (i := 459) (by decide +kernel)⟩
theorem lw_p5 : lw_okq (⟨"FoxHoles", "areTwoHoles", "(I)Z"⟩, 13) := ⟨⟨by decide +kernel, by decide +kernel⟩, List.mem_of_getElem? (i := 18) (by decide +kernel), List.mem_of_getElem? (i := 489) (by decide +kernel), List.mem_of_getElem? (i := 490) (by decide +kernel)⟩
theorem lw_p6 : lw_okq (⟨"FoxHoles$Changes", "dropOldest", "()V"⟩, 7) := ⟨⟨by decide +kernel, by decide +kernel⟩, List.mem_of_getElem? (i := 116) (by decide +kernel), List.mem_of_getElem? (i := 528) (by decide +kernel), List.mem_of_getElem? (i := 529) (by decide +kernel)⟩
theorem lw_p7 : lw_okq (⟨"FoxHoles", "ofHole", "(II)I"⟩, 13) := ⟨⟨by decide +kernel, by decide +kernel⟩, List.mem_of_getElem? (i := 18) (by decide +kernel), List.mem_of_getElem? (i := 541) (by decide +kernel), List.mem_of_getElem? (i := 542) (by decide +kernel)⟩
theorem lw_p8 : lw_okq (⟨"FoxHoles", "ofAll", "(I)I"⟩, 13) := ⟨⟨by decide +kernel, by decide +kernel⟩, List.mem_of_getElem? (i := 18) (by decide +kernel), List.mem_of_getElem? (i := 567) (by decide +kernel), List.mem_of_getElem? (i := 568) (by decide +kernel)⟩
theorem lw_p9 : lw_okq (⟨"FoxHoles$Law", "readLines", "()V"⟩, 10) := ⟨⟨by decide +kernel, by decide +kernel⟩, List.mem_of_getElem? (i := 26) (by decide +kernel), List.mem_of_getElem? (i := 587) (by decide +kernel), List.mem_of_getElem? (i := 588) (by decide +kernel)⟩
theorem lw_p10 : lw_okq (⟨"FoxHoles$Law", "readLine", "()V"⟩, 10) := ⟨⟨by decide +kernel, by decide +kernel⟩, List.mem_of_getElem? (i := 26) (by decide +kernel), List.mem_of_getElem? (i := 591) (by decide +kernel), List.mem_of_getElem? (i := 592) (by decide +kernel)⟩
theorem lw_p11 : lw_okq (⟨"FoxHoles$Law", "readChain", "(II)V"⟩, 10) := ⟨⟨by decide +kernel, by decide +kernel⟩, List.mem_of_getElem? (i := 26) (by decide +kernel), List.mem_of_getElem? (i := 595) (by decide +kernel), List.mem_of_getElem? (i := 596) (by decide +kernel)⟩
theorem lw_p12 : lw_okq (⟨"FoxHoles$Law", "readOperand", "(I)V"⟩, 10) := ⟨⟨by decide +kernel, by decide +kernel⟩, List.mem_of_getElem? (i := 26) (by decide +kernel), List.mem_of_getElem? (i := 599) (by decide +kernel), List.mem_of_getElem? (i := 600) (by decide +kernel)⟩
theorem lw_p13 : lw_okq (⟨"FoxHoles$Law", "here", "()I"⟩, 10) := ⟨⟨by decide +kernel, by decide +kernel⟩, List.mem_of_getElem? (i := 26) (by decide +kernel), List.mem_of_getElem? (i := 603) (by decide +kernel), List.mem_of_getElem? (i := 604) (by decide +kernel)⟩
theorem lw_p14 : lw_okq (⟨"FoxHoles$Law", "readNumber", "()V"⟩, 10) := ⟨⟨by decide +kernel, by decide +kernel⟩, List.mem_of_getElem? (i := 26) (by decide +kernel), List.mem_of_getElem? (i := 610) (by decide +kernel), List.mem_of_getElem? (i := 611) (by decide +kernel)⟩
theorem lw_p15 : lw_okq (⟨"FoxHoles$Law", "emit", "(I)V"⟩, 10) := ⟨⟨by decide +kernel, by decide +kernel⟩, List.mem_of_getElem? (i := 26) (by decide +kernel), List.mem_of_getElem? (i := 614) (by decide +kernel), List.mem_of_getElem? (i := 615) (by decide +kernel)⟩
def lw_privs_1 : List (MethodName × Nat) := [(⟨"FoxHoles$Law", "pop", "()I"⟩, 10), (⟨"FoxHoles$Law", "behindLine", "(I)I"⟩, 10), (⟨"FoxHoles$Law", "push", "(I)V"⟩, 10), (⟨"FoxHoles$Law", "apply", "(I)V"⟩, 10), (⟨"FoxHoles", "shelfAt", "(I)LFoxHoles$Shelf;"⟩, 13), (⟨"FoxHoles", "areTwoHoles", "(I)Z"⟩, 13), (⟨"FoxHoles$Changes", "dropOldest", "()V"⟩, 7), (⟨"FoxHoles", "ofHole", "(II)I"⟩, 13), (⟨"FoxHoles", "ofAll", "(I)I"⟩, 13), (⟨"FoxHoles$Law", "readLines", "()V"⟩, 10), (⟨"FoxHoles$Law", "readLine", "()V"⟩, 10), (⟨"FoxHoles$Law", "readChain", "(II)V"⟩, 10), (⟨"FoxHoles$Law", "readOperand", "(I)V"⟩, 10), (⟨"FoxHoles$Law", "here", "()I"⟩, 10), (⟨"FoxHoles$Law", "readNumber", "()V"⟩, 10), (⟨"FoxHoles$Law", "emit", "(I)V"⟩, 10)]
theorem lw_r1 : ∀ q ∈ lw_privs_1, lw_okq q := List.forall_mem_cons.mpr ⟨lw_p0, List.forall_mem_cons.mpr ⟨lw_p1, List.forall_mem_cons.mpr ⟨lw_p2, List.forall_mem_cons.mpr ⟨lw_p3, List.forall_mem_cons.mpr ⟨lw_p4, List.forall_mem_cons.mpr ⟨lw_p5, List.forall_mem_cons.mpr ⟨lw_p6, List.forall_mem_cons.mpr ⟨lw_p7, List.forall_mem_cons.mpr ⟨lw_p8, List.forall_mem_cons.mpr ⟨lw_p9, List.forall_mem_cons.mpr ⟨lw_p10, List.forall_mem_cons.mpr ⟨lw_p11, List.forall_mem_cons.mpr ⟨lw_p12, List.forall_mem_cons.mpr ⟨lw_p13, List.forall_mem_cons.mpr ⟨lw_p14, List.forall_mem_cons.mpr ⟨lw_p15, fun _ h => absurd h List.not_mem_nil⟩⟩⟩⟩⟩⟩⟩⟩⟩⟩⟩⟩⟩⟩⟩⟩
theorem lw_p16 : lw_okq (⟨"FoxHoles$Law", "expect", "(I)V"⟩, 10) := ⟨⟨by decide +kernel, by decide +kernel⟩, List.mem_of_getElem? (i := 26) (by decide +kernel), List.mem_of_getElem? (i := 618) (by decide +kernel), List.mem_of_getElem? (i := 619) (by decide +kernel)⟩
theorem lw_p17 : lw_okq (⟨"FoxHoles$Looks", "holeAt", "(LFoxHoles$Shelf;I)I"⟩, 2) := ⟨⟨by decide +kernel, by decide +kernel⟩, List.mem_of_getElem? (i := 145) (by decide +kernel), List.mem_of_getElem? (i := 667) (by decide +kernel), List.mem_of_getElem? (i := 668) (by decide +kernel)⟩
theorem lw_p18 : lw_okq (⟨"FoxHoles", "refusalOfPrints", "(III)I"⟩, 13) := ⟨⟨by decide +kernel, by decide +kernel⟩, List.mem_of_getElem? (i := 18) (by decide +kernel), List.mem_of_getElem? (i := 685) (by decide +kernel), List.mem_of_getElem? (i := 686) (by decide +kernel)⟩
theorem lw_p19 : lw_okq (⟨"FoxHoles$Hunt", "layOut", "(I)V"⟩, 11) := ⟨⟨by decide +kernel, by decide +kernel⟩, List.mem_of_getElem? (i := 158) (by decide +kernel), List.mem_of_getElem? (i := 727) (by decide +kernel), List.mem_of_getElem? (i := 728) (by decide +kernel)⟩
theorem lw_p20 : lw_okq (⟨"FoxHoles$Hunt", "nextOf", "(I)I"⟩, 11) := ⟨⟨by decide +kernel, by decide +kernel⟩, List.mem_of_getElem? (i := 158) (by decide +kernel), List.mem_of_getElem? (i := 735) (by decide +kernel), List.mem_of_getElem? (i := 736) (by decide +kernel)⟩
theorem lw_p21 : lw_okq (⟨"FoxHoles$Hunt", "search", "(III)I"⟩, 11) := ⟨⟨by decide +kernel, by decide +kernel⟩, List.mem_of_getElem? (i := 158) (by decide +kernel), List.mem_of_getElem? (i := 740) (by decide +kernel), List.mem_of_getElem? (i := 741) (by decide +kernel)⟩
theorem lw_p22 : lw_okq (⟨"FoxHoles$Hunt", "weekday", "(I)I"⟩, 11) := ⟨⟨by decide +kernel, by decide +kernel⟩, List.mem_of_getElem? (i := 158) (by decide +kernel), List.mem_of_getElem? (i := 744) (by decide +kernel), List.mem_of_getElem? (i := 745) (by decide +kernel)⟩
theorem lw_p23 : lw_okq (⟨"FoxHoles$Hunt", "reach", "(II)V"⟩, 11) := ⟨⟨by decide +kernel, by decide +kernel⟩, List.mem_of_getElem? (i := 158) (by decide +kernel), List.mem_of_getElem? (i := 748) (by decide +kernel), List.mem_of_getElem? (i := 749) (by decide +kernel)⟩
theorem lw_p24 : lw_okq (⟨"FoxHoles$Hunt", "goOnFrom", "(I)Z"⟩, 11) := ⟨⟨by decide +kernel, by decide +kernel⟩, List.mem_of_getElem? (i := 158) (by decide +kernel), List.mem_of_getElem? (i := 752) (by decide +kernel), List.mem_of_getElem? (i := 753) (by decide +kernel)⟩
theorem lw_p25 : lw_okq (⟨"FoxHoles$Hunt", "tryLooks", "(III)Z"⟩, 11) := ⟨⟨by decide +kernel, by decide +kernel⟩, List.mem_of_getElem? (i := 158) (by decide +kernel), List.mem_of_getElem? (i := 757) (by decide +kernel), List.mem_of_getElem? (i := 758) (by decide +kernel)⟩
theorem lw_p26 : lw_okq (⟨"FoxHoles$Hunt", "trySecond", "(IIII)Z"⟩, 11) := ⟨⟨by decide +kernel, by decide +kernel⟩, List.mem_of_getElem? (i := 158) (by decide +kernel), List.mem_of_getElem? (i := 761) (by decide +kernel), List.mem_of_getElem? (i := 762) (by decide +kernel)⟩
theorem lw_p27 : lw_okq (⟨"FoxHoles$Hunt", "stepInto", "(I)I"⟩, 11) := ⟨⟨by decide +kernel, by decide +kernel⟩, List.mem_of_getElem? (i := 158) (by decide +kernel), List.mem_of_getElem? (i := 769) (by decide +kernel), List.mem_of_getElem? (i := 770) (by decide +kernel)⟩
theorem lw_p28 : lw_okq (⟨"FoxHoles$Ground", "hasArms", "(IIII)Z"⟩, 1) := ⟨⟨by decide +kernel, by decide +kernel⟩, List.mem_of_getElem? (i := 198) (by decide +kernel), List.mem_of_getElem? (i := 809) (by decide +kernel), List.mem_of_getElem? (i := 810) (by decide +kernel)⟩
theorem lw_p29 : lw_okq (⟨"FoxHoles$Ground", "hasArmBy", "(IIII)Z"⟩, 1) := ⟨⟨by decide +kernel, by decide +kernel⟩, List.mem_of_getElem? (i := 198) (by decide +kernel), List.mem_of_getElem? (i := 813) (by decide +kernel), List.mem_of_getElem? (i := 814) (by decide +kernel)⟩
theorem lw_p30 : lw_okq (⟨"FoxHoles$Hunt", "looksWithin", "(I)I"⟩, 11) := ⟨⟨by decide +kernel, by decide +kernel⟩, List.mem_of_getElem? (i := 158) (by decide +kernel), List.mem_of_getElem? (i := 825) (by decide +kernel), List.mem_of_getElem? (i := 826) (by decide +kernel)⟩
theorem lw_p31 : lw_okq (⟨"FoxHoles$Hunt", "foxesApart", "()I"⟩, 11) := ⟨⟨by decide +kernel, by decide +kernel⟩, List.mem_of_getElem? (i := 158) (by decide +kernel), List.mem_of_getElem? (i := 829) (by decide +kernel), List.mem_of_getElem? (i := 830) (by decide +kernel)⟩
def lw_privs_2 : List (MethodName × Nat) := [(⟨"FoxHoles$Law", "expect", "(I)V"⟩, 10), (⟨"FoxHoles$Looks", "holeAt", "(LFoxHoles$Shelf;I)I"⟩, 2), (⟨"FoxHoles", "refusalOfPrints", "(III)I"⟩, 13), (⟨"FoxHoles$Hunt", "layOut", "(I)V"⟩, 11), (⟨"FoxHoles$Hunt", "nextOf", "(I)I"⟩, 11), (⟨"FoxHoles$Hunt", "search", "(III)I"⟩, 11), (⟨"FoxHoles$Hunt", "weekday", "(I)I"⟩, 11), (⟨"FoxHoles$Hunt", "reach", "(II)V"⟩, 11), (⟨"FoxHoles$Hunt", "goOnFrom", "(I)Z"⟩, 11), (⟨"FoxHoles$Hunt", "tryLooks", "(III)Z"⟩, 11), (⟨"FoxHoles$Hunt", "trySecond", "(IIII)Z"⟩, 11), (⟨"FoxHoles$Hunt", "stepInto", "(I)I"⟩, 11), (⟨"FoxHoles$Ground", "hasArms", "(IIII)Z"⟩, 1), (⟨"FoxHoles$Ground", "hasArmBy", "(IIII)Z"⟩, 1), (⟨"FoxHoles$Hunt", "looksWithin", "(I)I"⟩, 11), (⟨"FoxHoles$Hunt", "foxesApart", "()I"⟩, 11)]
theorem lw_r2 : ∀ q ∈ lw_privs_2, lw_okq q := List.forall_mem_cons.mpr ⟨lw_p16, List.forall_mem_cons.mpr ⟨lw_p17, List.forall_mem_cons.mpr ⟨lw_p18, List.forall_mem_cons.mpr ⟨lw_p19, List.forall_mem_cons.mpr ⟨lw_p20, List.forall_mem_cons.mpr ⟨lw_p21, List.forall_mem_cons.mpr ⟨lw_p22, List.forall_mem_cons.mpr ⟨lw_p23, List.forall_mem_cons.mpr ⟨lw_p24, List.forall_mem_cons.mpr ⟨lw_p25, List.forall_mem_cons.mpr ⟨lw_p26, List.forall_mem_cons.mpr ⟨lw_p27, List.forall_mem_cons.mpr ⟨lw_p28, List.forall_mem_cons.mpr ⟨lw_p29, List.forall_mem_cons.mpr ⟨lw_p30, List.forall_mem_cons.mpr ⟨lw_p31, fun _ h => absurd h List.not_mem_nil⟩⟩⟩⟩⟩⟩⟩⟩⟩⟩⟩⟩⟩⟩⟩⟩
theorem lw_p32 : lw_okq (⟨"FoxHoles", "mayFollow", "(III)Z"⟩, 13) := ⟨⟨by decide +kernel, by decide +kernel⟩, List.mem_of_getElem? (i := 18) (by decide +kernel), List.mem_of_getElem? (i := 855) (by decide +kernel), List.mem_of_getElem? (i := 856) (by decide +kernel)⟩
theorem lw_p33 : lw_okq (⟨"FoxHoles$Chance", "begin", "([J)J"⟩, 14) := ⟨⟨by decide +kernel, by decide +kernel⟩, List.mem_of_getElem? (i := 208) (by decide +kernel), List.mem_of_getElem? (i := 864) (by decide +kernel), List.mem_of_getElem? (i := 865) (by decide +kernel)⟩
theorem lw_p34 : lw_okq (⟨"FoxHoles$Chance", "goOn", "()V"⟩, 14) := ⟨⟨by decide +kernel, by decide +kernel⟩, List.mem_of_getElem? (i := 208) (by decide +kernel), List.mem_of_getElem? (i := 873) (by decide +kernel), List.mem_of_getElem? (i := 874) (by decide +kernel)⟩
theorem lw_p35 : lw_okq (⟨"FoxHoles$Chance", "spread", "([J[J)V"⟩, 14) := ⟨⟨by decide +kernel, by decide +kernel⟩, List.mem_of_getElem? (i := 208) (by decide +kernel), List.mem_of_getElem? (i := 877) (by decide +kernel), List.mem_of_getElem? (i := 878) (by decide +kernel)⟩
theorem lw_p36 : lw_okq (⟨"FoxHoles$Chance", "take", "(II)V"⟩, 14) := ⟨⟨by decide +kernel, by decide +kernel⟩, List.mem_of_getElem? (i := 208) (by decide +kernel), List.mem_of_getElem? (i := 884) (by decide +kernel), List.mem_of_getElem? (i := 885) (by decide +kernel)⟩
theorem lw_p37 : lw_okq (⟨"FoxHoles$Chance", "seek", "(IIJ)V"⟩, 14) := ⟨⟨by decide +kernel, by decide +kernel⟩, List.mem_of_getElem? (i := 208) (by decide +kernel), List.mem_of_getElem? (i := 928) (by decide +kernel), List.mem_of_getElem? (i := 929) (by decide +kernel)⟩
theorem lw_p38 : lw_okq (⟨"FoxHoles$Chance", "offer", "(J)V"⟩, 14) := ⟨⟨by decide +kernel, by decide +kernel⟩, List.mem_of_getElem? (i := 208) (by decide +kernel), List.mem_of_getElem? (i := 935) (by decide +kernel), List.mem_of_getElem? (i := 936) (by decide +kernel)⟩
theorem lw_p39 : lw_okq (⟨"FoxHoles", "isDrawing", "(I)Z"⟩, 13) := ⟨⟨by decide +kernel, by decide +kernel⟩, List.mem_of_getElem? (i := 18) (by decide +kernel), List.mem_of_getElem? (i := 944) (by decide +kernel), List.mem_of_getElem? (i := 945) (by decide +kernel)⟩
theorem lw_p40 : lw_okq (⟨"FoxHoles", "drawFoxes", "(LFoxHoles$Shelf;III)I"⟩, 13) := ⟨⟨by decide +kernel, by decide +kernel⟩, List.mem_of_getElem? (i := 18) (by decide +kernel), List.mem_of_getElem? (i := 953) (by decide +kernel), List.mem_of_getElem? (i := 954) (by decide +kernel)⟩
theorem lw_p41 : lw_okq (⟨"FoxHoles", "drawFox", "(LFoxHoles$Shelf;I)I"⟩, 13) := ⟨⟨by decide +kernel, by decide +kernel⟩, List.mem_of_getElem? (i := 18) (by decide +kernel), List.mem_of_getElem? (i := 957) (by decide +kernel), List.mem_of_getElem? (i := 958) (by decide +kernel)⟩
theorem lw_p42 : lw_okq (⟨"FoxHoles$Dice", "below", "(I)I"⟩, 2) := ⟨⟨by decide +kernel, by decide +kernel⟩, List.mem_of_getElem? (i := 260) (by decide +kernel), List.mem_of_getElem? (i := 966) (by decide +kernel), List.mem_of_getElem? (i := 967) (by decide +kernel)⟩
theorem lw_p43 : lw_okq (⟨"FoxHoles$Deed", "countVain", "(I)V"⟩, 8) := ⟨⟨by decide +kernel, by decide +kernel⟩, List.mem_of_getElem? (i := 274) (by decide +kernel), List.mem_of_getElem? (i := 999) (by decide +kernel), List.mem_of_getElem? (i := 1000) (by decide +kernel)⟩
theorem lw_p44 : lw_okq (⟨"FoxHoles$Bodies", "run", "(IIIII)I"⟩, 4) := ⟨⟨by decide +kernel, by decide +kernel⟩, List.mem_of_getElem? (i := 311) (by decide +kernel), List.mem_of_getElem? (i := 1063) (by decide +kernel), List.mem_of_getElem? (i := 1064) (by decide +kernel)⟩
theorem lw_p45 : lw_okq (⟨"FoxHoles$Bodies", "ownerOf", "(II)I"⟩, 4) := ⟨⟨by decide +kernel, by decide +kernel⟩, List.mem_of_getElem? (i := 311) (by decide +kernel), List.mem_of_getElem? (i := 1067) (by decide +kernel), List.mem_of_getElem? (i := 1068) (by decide +kernel)⟩
theorem lw_p46 : lw_okq (⟨"FoxHoles$Bodies", "note", "(I)V"⟩, 4) := ⟨⟨by decide +kernel, by decide +kernel⟩, List.mem_of_getElem? (i := 311) (by decide +kernel), List.mem_of_getElem? (i := 1077) (by decide +kernel), List.mem_of_getElem? (i := 1078) (by decide +kernel)⟩
theorem lw_p47 : lw_okq (⟨"FoxHoles$Shelf", "cut", "(J)J"⟩, 5) := ⟨⟨by decide +kernel, by decide +kernel⟩, List.mem_of_getElem? (i := 333) (by decide +kernel), List.mem_of_getElem? (i := 1126) (by decide +kernel), List.mem_of_getElem? (i := 1127) (by decide +kernel)⟩
def lw_privs_3 : List (MethodName × Nat) := [(⟨"FoxHoles", "mayFollow", "(III)Z"⟩, 13), (⟨"FoxHoles$Chance", "begin", "([J)J"⟩, 14), (⟨"FoxHoles$Chance", "goOn", "()V"⟩, 14), (⟨"FoxHoles$Chance", "spread", "([J[J)V"⟩, 14), (⟨"FoxHoles$Chance", "take", "(II)V"⟩, 14), (⟨"FoxHoles$Chance", "seek", "(IIJ)V"⟩, 14), (⟨"FoxHoles$Chance", "offer", "(J)V"⟩, 14), (⟨"FoxHoles", "isDrawing", "(I)Z"⟩, 13), (⟨"FoxHoles", "drawFoxes", "(LFoxHoles$Shelf;III)I"⟩, 13), (⟨"FoxHoles", "drawFox", "(LFoxHoles$Shelf;I)I"⟩, 13), (⟨"FoxHoles$Dice", "below", "(I)I"⟩, 2), (⟨"FoxHoles$Deed", "countVain", "(I)V"⟩, 8), (⟨"FoxHoles$Bodies", "run", "(IIIII)I"⟩, 4), (⟨"FoxHoles$Bodies", "ownerOf", "(II)I"⟩, 4), (⟨"FoxHoles$Bodies", "note", "(I)V"⟩, 4), (⟨"FoxHoles$Shelf", "cut", "(J)J"⟩, 5)]
theorem lw_r3 : ∀ q ∈ lw_privs_3, lw_okq q := List.forall_mem_cons.mpr ⟨lw_p32, List.forall_mem_cons.mpr ⟨lw_p33, List.forall_mem_cons.mpr ⟨lw_p34, List.forall_mem_cons.mpr ⟨lw_p35, List.forall_mem_cons.mpr ⟨lw_p36, List.forall_mem_cons.mpr ⟨lw_p37, List.forall_mem_cons.mpr ⟨lw_p38, List.forall_mem_cons.mpr ⟨lw_p39, List.forall_mem_cons.mpr ⟨lw_p40, List.forall_mem_cons.mpr ⟨lw_p41, List.forall_mem_cons.mpr ⟨lw_p42, List.forall_mem_cons.mpr ⟨lw_p43, List.forall_mem_cons.mpr ⟨lw_p44, List.forall_mem_cons.mpr ⟨lw_p45, List.forall_mem_cons.mpr ⟨lw_p46, List.forall_mem_cons.mpr ⟨lw_p47, fun _ h => absurd h List.not_mem_nil⟩⟩⟩⟩⟩⟩⟩⟩⟩⟩⟩⟩⟩⟩⟩⟩
theorem lw_p48 : lw_okq (⟨"FoxHolesModel", "isAb", "(I)Z"⟩, 50) := ⟨⟨by decide +kernel, by decide +kernel⟩, List.mem_of_getElem? (i := 1159) (by decide +kernel), List.mem_of_getElem? (i := 1345) (by decide +kernel), List.mem_of_getElem? (i := 1346) (by decide +kernel)⟩
theorem lw_p49 : lw_okq (⟨"FoxHolesModel", "isHole", "(J)Z"⟩, 50) := ⟨⟨by decide +kernel, by decide +kernel⟩, List.mem_of_getElem? (i := 1159) (by decide +kernel), List.mem_of_getElem? (i := 1349) (by decide +kernel), List.mem_of_getElem? (i := 1350) (by decide +kernel)⟩
theorem lw_p50 : lw_okq (⟨"FoxHolesModel", "becomes", "(II)I"⟩, 50) := ⟨⟨by decide +kernel, by decide +kernel⟩, List.mem_of_getElem? (i := 1159) (by decide +kernel), List.mem_of_getElem? (i := 1363) (by decide +kernel), List.mem_of_getElem? (i := 1364) (by decide +kernel)⟩
theorem lw_p51 : lw_okq (⟨"FoxHolesModel", "ofHole", "(II)I"⟩, 50) := ⟨⟨by decide +kernel, by decide +kernel⟩, List.mem_of_getElem? (i := 1159) (by decide +kernel), List.mem_of_getElem? (i := 1374) (by decide +kernel), List.mem_of_getElem? (i := 1375) (by decide +kernel)⟩
theorem lw_p52 : lw_okq (⟨"FoxHolesModel", "asksLaw", "()V"⟩, 50) := ⟨⟨by decide +kernel, by decide +kernel⟩, List.mem_of_getElem? (i := 1159) (by decide +kernel), List.mem_of_getElem? (i := 1378) (by decide +kernel), List.mem_of_getElem? (i := 1379) (by decide +kernel)⟩
theorem lw_p53 : lw_okq (⟨"FoxHolesModel", "mayGo", "(II)Z"⟩, 50) := ⟨⟨by decide +kernel, by decide +kernel⟩, List.mem_of_getElem? (i := 1159) (by decide +kernel), List.mem_of_getElem? (i := 1382) (by decide +kernel), List.mem_of_getElem? (i := 1383) (by decide +kernel)⟩
theorem lw_p54 : lw_okq (⟨"FoxHolesModel", "isOpen", "(J)Z"⟩, 50) := ⟨⟨by decide +kernel, by decide +kernel⟩, List.mem_of_getElem? (i := 1159) (by decide +kernel), List.mem_of_getElem? (i := 1386) (by decide +kernel), List.mem_of_getElem? (i := 1387) (by decide +kernel)⟩
theorem lw_p55 : lw_okq (⟨"FoxHolesModel", "workOut", "(II)I"⟩, 50) := ⟨⟨by decide +kernel, by decide +kernel⟩, List.mem_of_getElem? (i := 1159) (by decide +kernel), List.mem_of_getElem? (i := 1390) (by decide +kernel), List.mem_of_getElem? (i := 1391) (by decide +kernel)⟩
theorem lw_p56 : lw_okq (⟨"FoxHolesModel", "either", "()I"⟩, 50) := ⟨⟨by decide +kernel, by decide +kernel⟩, List.mem_of_getElem? (i := 1159) (by decide +kernel), List.mem_of_getElem? (i := 1394) (by decide +kernel), List.mem_of_getElem? (i := 1395) (by decide +kernel)⟩
theorem lw_p57 : lw_okq (⟨"FoxHolesModel", "both", "()I"⟩, 50) := ⟨⟨by decide +kernel, by decide +kernel⟩, List.mem_of_getElem? (i := 1159) (by decide +kernel), List.mem_of_getElem? (i := 1398) (by decide +kernel), List.mem_of_getElem? (i := 1399) (by decide +kernel)⟩
theorem lw_p58 : lw_okq (⟨"FoxHolesModel", "compared", "()I"⟩, 50) := ⟨⟨by decide +kernel, by decide +kernel⟩, List.mem_of_getElem? (i := 1159) (by decide +kernel), List.mem_of_getElem? (i := 1402) (by decide +kernel), List.mem_of_getElem? (i := 1403) (by decide +kernel)⟩
theorem lw_p59 : lw_okq (⟨"FoxHolesModel", "sums", "()I"⟩, 50) := ⟨⟨by decide +kernel, by decide +kernel⟩, List.mem_of_getElem? (i := 1159) (by decide +kernel), List.mem_of_getElem? (i := 1406) (by decide +kernel), List.mem_of_getElem? (i := 1407) (by decide +kernel)⟩
theorem lw_p60 : lw_okq (⟨"FoxHolesModel", "product", "()I"⟩, 50) := ⟨⟨by decide +kernel, by decide +kernel⟩, List.mem_of_getElem? (i := 1159) (by decide +kernel), List.mem_of_getElem? (i := 1410) (by decide +kernel), List.mem_of_getElem? (i := 1411) (by decide +kernel)⟩
theorem lw_p61 : lw_okq (⟨"FoxHolesModel", "one", "()I"⟩, 50) := ⟨⟨by decide +kernel, by decide +kernel⟩, List.mem_of_getElem? (i := 1159) (by decide +kernel), List.mem_of_getElem? (i := 1414) (by decide +kernel), List.mem_of_getElem? (i := 1415) (by decide +kernel)⟩
theorem lw_p62 : lw_okq (⟨"FoxHolesModel", "byteAt", "()I"⟩, 50) := ⟨⟨by decide +kernel, by decide +kernel⟩, List.mem_of_getElem? (i := 1159) (by decide +kernel), List.mem_of_getElem? (i := 1418) (by decide +kernel), List.mem_of_getElem? (i := 1419) (by decide +kernel)⟩
theorem lw_p63 : lw_okq (⟨"FoxHolesModel", "wrong", "()I"⟩, 50) := ⟨⟨by decide +kernel, by decide +kernel⟩, List.mem_of_getElem? (i := 1159) (by decide +kernel), List.mem_of_getElem? (i := 1422) (by decide +kernel), List.mem_of_getElem? (i := 1423) (by decide +kernel)⟩
def lw_privs_4 : List (MethodName × Nat) := [(⟨"FoxHolesModel", "isAb", "(I)Z"⟩, 50), (⟨"FoxHolesModel", "isHole", "(J)Z"⟩, 50), (⟨"FoxHolesModel", "becomes", "(II)I"⟩, 50), (⟨"FoxHolesModel", "ofHole", "(II)I"⟩, 50), (⟨"FoxHolesModel", "asksLaw", "()V"⟩, 50), (⟨"FoxHolesModel", "mayGo", "(II)Z"⟩, 50), (⟨"FoxHolesModel", "isOpen", "(J)Z"⟩, 50), (⟨"FoxHolesModel", "workOut", "(II)I"⟩, 50), (⟨"FoxHolesModel", "either", "()I"⟩, 50), (⟨"FoxHolesModel", "both", "()I"⟩, 50), (⟨"FoxHolesModel", "compared", "()I"⟩, 50), (⟨"FoxHolesModel", "sums", "()I"⟩, 50), (⟨"FoxHolesModel", "product", "()I"⟩, 50), (⟨"FoxHolesModel", "one", "()I"⟩, 50), (⟨"FoxHolesModel", "byteAt", "()I"⟩, 50), (⟨"FoxHolesModel", "wrong", "()I"⟩, 50)]
theorem lw_r4 : ∀ q ∈ lw_privs_4, lw_okq q := List.forall_mem_cons.mpr ⟨lw_p48, List.forall_mem_cons.mpr ⟨lw_p49, List.forall_mem_cons.mpr ⟨lw_p50, List.forall_mem_cons.mpr ⟨lw_p51, List.forall_mem_cons.mpr ⟨lw_p52, List.forall_mem_cons.mpr ⟨lw_p53, List.forall_mem_cons.mpr ⟨lw_p54, List.forall_mem_cons.mpr ⟨lw_p55, List.forall_mem_cons.mpr ⟨lw_p56, List.forall_mem_cons.mpr ⟨lw_p57, List.forall_mem_cons.mpr ⟨lw_p58, List.forall_mem_cons.mpr ⟨lw_p59, List.forall_mem_cons.mpr ⟨lw_p60, List.forall_mem_cons.mpr ⟨lw_p61, List.forall_mem_cons.mpr ⟨lw_p62, List.forall_mem_cons.mpr ⟨lw_p63, fun _ h => absurd h List.not_mem_nil⟩⟩⟩⟩⟩⟩⟩⟩⟩⟩⟩⟩⟩⟩⟩⟩
theorem lw_p64 : lw_okq (⟨"FoxHolesModel", "takes", "(I)Z"⟩, 50) := ⟨⟨by decide +kernel, by decide +kernel⟩, List.mem_of_getElem? (i := 1159) (by decide +kernel), List.mem_of_getElem? (i := 1426) (by decide +kernel), List.mem_of_getElem? (i := 1427) (by decide +kernel)⟩
theorem lw_p65 : lw_okq (⟨"FoxHolesModel", "ofAll", "(I)I"⟩, 50) := ⟨⟨by decide +kernel, by decide +kernel⟩, List.mem_of_getElem? (i := 1159) (by decide +kernel), List.mem_of_getElem? (i := 1435) (by decide +kernel), List.mem_of_getElem? (i := 1436) (by decide +kernel)⟩
theorem lw_p66 : lw_okq (⟨"FoxHolesModel", "bytesIs", "(I)I"⟩, 50) := ⟨⟨by decide +kernel, by decide +kernel⟩, List.mem_of_getElem? (i := 1159) (by decide +kernel), List.mem_of_getElem? (i := 1452) (by decide +kernel), List.mem_of_getElem? (i := 1453) (by decide +kernel)⟩
theorem lw_p67 : lw_okq (⟨"FoxHolesModel", "morningsOf", "(I)I"⟩, 50) := ⟨⟨by decide +kernel, by decide +kernel⟩, List.mem_of_getElem? (i := 1159) (by decide +kernel), List.mem_of_getElem? (i := 1456) (by decide +kernel), List.mem_of_getElem? (i := 1457) (by decide +kernel)⟩
theorem lw_p68 : lw_okq (⟨"FoxHolesModel", "canBe", "(III)I"⟩, 50) := ⟨⟨by decide +kernel, by decide +kernel⟩, List.mem_of_getElem? (i := 1159) (by decide +kernel), List.mem_of_getElem? (i := 1460) (by decide +kernel), List.mem_of_getElem? (i := 1461) (by decide +kernel)⟩
theorem lw_p69 : lw_okq (⟨"FoxHolesModel", "openSet", "()I"⟩, 50) := ⟨⟨by decide +kernel, by decide +kernel⟩, List.mem_of_getElem? (i := 1159) (by decide +kernel), List.mem_of_getElem? (i := 1464) (by decide +kernel), List.mem_of_getElem? (i := 1465) (by decide +kernel)⟩
theorem lw_p70 : lw_okq (⟨"FoxHolesModel", "nightOf", "(I)I"⟩, 50) := ⟨⟨by decide +kernel, by decide +kernel⟩, List.mem_of_getElem? (i := 1159) (by decide +kernel), List.mem_of_getElem? (i := 1468) (by decide +kernel), List.mem_of_getElem? (i := 1469) (by decide +kernel)⟩
theorem lw_p71 : lw_okq (⟨"FoxHolesModel", "printOf", "(II)I"⟩, 50) := ⟨⟨by decide +kernel, by decide +kernel⟩, List.mem_of_getElem? (i := 1159) (by decide +kernel), List.mem_of_getElem? (i := 1472) (by decide +kernel), List.mem_of_getElem? (i := 1473) (by decide +kernel)⟩
theorem lw_p72 : lw_okq (⟨"FoxHolesModel", "lookedAt", "(II)I"⟩, 50) := ⟨⟨by decide +kernel, by decide +kernel⟩, List.mem_of_getElem? (i := 1159) (by decide +kernel), List.mem_of_getElem? (i := 1476) (by decide +kernel), List.mem_of_getElem? (i := 1477) (by decide +kernel)⟩
theorem lw_p73 : lw_okq (⟨"FoxHolesModel", "sleeps", "(I)Z"⟩, 50) := ⟨⟨by decide +kernel, by decide +kernel⟩, List.mem_of_getElem? (i := 1159) (by decide +kernel), List.mem_of_getElem? (i := 1480) (by decide +kernel), List.mem_of_getElem? (i := 1481) (by decide +kernel)⟩
theorem lw_p74 : lw_okq (⟨"FoxHolesModel", "bothIs", "(I)I"⟩, 50) := ⟨⟨by decide +kernel, by decide +kernel⟩, List.mem_of_getElem? (i := 1159) (by decide +kernel), List.mem_of_getElem? (i := 1492) (by decide +kernel), List.mem_of_getElem? (i := 1493) (by decide +kernel)⟩
theorem lw_p75 : lw_okq (⟨"FoxHolesModel", "asksSure", "()V"⟩, 50) := ⟨⟨by decide +kernel, by decide +kernel⟩, List.mem_of_getElem? (i := 1159) (by decide +kernel), List.mem_of_getElem? (i := 1509) (by decide +kernel), List.mem_of_getElem? (i := 1510) (by decide +kernel)⟩
theorem lw_p76 : lw_okq (⟨"FoxHolesModel", "bestOf", "(II)I"⟩, 50) := ⟨⟨by decide +kernel, by decide +kernel⟩, List.mem_of_getElem? (i := 1159) (by decide +kernel), List.mem_of_getElem? (i := 1514) (by decide +kernel), List.mem_of_getElem? (i := 1515) (by decide +kernel)⟩
theorem lw_p77 : lw_okq (⟨"FoxHolesModel", "sureBy", "(III)I"⟩, 50) := ⟨⟨by decide +kernel, by decide +kernel⟩, List.mem_of_getElem? (i := 1159) (by decide +kernel), List.mem_of_getElem? (i := 1518) (by decide +kernel), List.mem_of_getElem? (i := 1519) (by decide +kernel)⟩
theorem lw_p78 : lw_okq (⟨"FoxHolesModel", "behindLook", "(II)I"⟩, 50) := ⟨⟨by decide +kernel, by decide +kernel⟩, List.mem_of_getElem? (i := 1159) (by decide +kernel), List.mem_of_getElem? (i := 1522) (by decide +kernel), List.mem_of_getElem? (i := 1523) (by decide +kernel)⟩
theorem lw_p79 : lw_okq (⟨"FoxHolesModel", "soonest", "(II)I"⟩, 50) := ⟨⟨by decide +kernel, by decide +kernel⟩, List.mem_of_getElem? (i := 1159) (by decide +kernel), List.mem_of_getElem? (i := 1526) (by decide +kernel), List.mem_of_getElem? (i := 1527) (by decide +kernel)⟩
def lw_privs_5 : List (MethodName × Nat) := [(⟨"FoxHolesModel", "takes", "(I)Z"⟩, 50), (⟨"FoxHolesModel", "ofAll", "(I)I"⟩, 50), (⟨"FoxHolesModel", "bytesIs", "(I)I"⟩, 50), (⟨"FoxHolesModel", "morningsOf", "(I)I"⟩, 50), (⟨"FoxHolesModel", "canBe", "(III)I"⟩, 50), (⟨"FoxHolesModel", "openSet", "()I"⟩, 50), (⟨"FoxHolesModel", "nightOf", "(I)I"⟩, 50), (⟨"FoxHolesModel", "printOf", "(II)I"⟩, 50), (⟨"FoxHolesModel", "lookedAt", "(II)I"⟩, 50), (⟨"FoxHolesModel", "sleeps", "(I)Z"⟩, 50), (⟨"FoxHolesModel", "bothIs", "(I)I"⟩, 50), (⟨"FoxHolesModel", "asksSure", "()V"⟩, 50), (⟨"FoxHolesModel", "bestOf", "(II)I"⟩, 50), (⟨"FoxHolesModel", "sureBy", "(III)I"⟩, 50), (⟨"FoxHolesModel", "behindLook", "(II)I"⟩, 50), (⟨"FoxHolesModel", "soonest", "(II)I"⟩, 50)]
theorem lw_r5 : ∀ q ∈ lw_privs_5, lw_okq q := List.forall_mem_cons.mpr ⟨lw_p64, List.forall_mem_cons.mpr ⟨lw_p65, List.forall_mem_cons.mpr ⟨lw_p66, List.forall_mem_cons.mpr ⟨lw_p67, List.forall_mem_cons.mpr ⟨lw_p68, List.forall_mem_cons.mpr ⟨lw_p69, List.forall_mem_cons.mpr ⟨lw_p70, List.forall_mem_cons.mpr ⟨lw_p71, List.forall_mem_cons.mpr ⟨lw_p72, List.forall_mem_cons.mpr ⟨lw_p73, List.forall_mem_cons.mpr ⟨lw_p74, List.forall_mem_cons.mpr ⟨lw_p75, List.forall_mem_cons.mpr ⟨lw_p76, List.forall_mem_cons.mpr ⟨lw_p77, List.forall_mem_cons.mpr ⟨lw_p78, List.forall_mem_cons.mpr ⟨lw_p79, fun _ h => absurd h List.not_mem_nil⟩⟩⟩⟩⟩⟩⟩⟩⟩⟩⟩⟩⟩⟩⟩⟩
theorem lw_p80 : lw_okq (⟨"FoxHolesModel", "firstLook", "(II)I"⟩, 50) := ⟨⟨by decide +kernel, by decide +kernel⟩, List.mem_of_getElem? (i := 1159) (by decide +kernel), List.mem_of_getElem? (i := 1534) (by decide +kernel), List.mem_of_getElem? (i := 1535) (by decide +kernel)⟩
theorem lw_p81 : lw_okq (⟨"FoxHolesModel", "armsFrom", "(IIII)Z"⟩, 50) := ⟨⟨by decide +kernel, by decide +kernel⟩, List.mem_of_getElem? (i := 1159) (by decide +kernel), List.mem_of_getElem? (i := 1546) (by decide +kernel), List.mem_of_getElem? (i := 1547) (by decide +kernel)⟩
theorem lw_p82 : lw_okq (⟨"FoxHolesModel", "isSureWith", "(II)Z"⟩, 50) := ⟨⟨by decide +kernel, by decide +kernel⟩, List.mem_of_getElem? (i := 1159) (by decide +kernel), List.mem_of_getElem? (i := 1555) (by decide +kernel), List.mem_of_getElem? (i := 1556) (by decide +kernel)⟩
theorem lw_p83 : lw_okq (⟨"FoxHolesModel", "areMornings", "(II)Z"⟩, 50) := ⟨⟨by decide +kernel, by decide +kernel⟩, List.mem_of_getElem? (i := 1159) (by decide +kernel), List.mem_of_getElem? (i := 1571) (by decide +kernel), List.mem_of_getElem? (i := 1572) (by decide +kernel)⟩
theorem lw_p84 : lw_okq (⟨"FoxHolesModel", "beginsWays", "()V"⟩, 50) := ⟨⟨by decide +kernel, by decide +kernel⟩, List.mem_of_getElem? (i := 1159) (by decide +kernel), List.mem_of_getElem? (i := 1577) (by decide +kernel), List.mem_of_getElem? (i := 1578) (by decide +kernel)⟩
theorem lw_p85 : lw_okq (⟨"FoxHolesModel", "nightOfWays", "()V"⟩, 50) := ⟨⟨by decide +kernel, by decide +kernel⟩, List.mem_of_getElem? (i := 1159) (by decide +kernel), List.mem_of_getElem? (i := 1581) (by decide +kernel), List.mem_of_getElem? (i := 1582) (by decide +kernel)⟩
theorem lw_p86 : lw_okq (⟨"FoxHolesModel", "takesOut", "(I)J"⟩, 50) := ⟨⟨by decide +kernel, by decide +kernel⟩, List.mem_of_getElem? (i := 1159) (by decide +kernel), List.mem_of_getElem? (i := 1585) (by decide +kernel), List.mem_of_getElem? (i := 1586) (by decide +kernel)⟩
theorem lw_p87 : lw_okq (⟨"FoxHolesModel", "allWays", "()J"⟩, 50) := ⟨⟨by decide +kernel, by decide +kernel⟩, List.mem_of_getElem? (i := 1159) (by decide +kernel), List.mem_of_getElem? (i := 1589) (by decide +kernel), List.mem_of_getElem? (i := 1590) (by decide +kernel)⟩
theorem lw_p88 : lw_okq (⟨"FoxHolesModel", "goesThrough", "(II)V"⟩, 50) := ⟨⟨by decide +kernel, by decide +kernel⟩, List.mem_of_getElem? (i := 1159) (by decide +kernel), List.mem_of_getElem? (i := 1604) (by decide +kernel), List.mem_of_getElem? (i := 1605) (by decide +kernel)⟩
theorem lw_p89 : lw_okq (⟨"FoxHolesModel", "looksOn", "(IIJ)V"⟩, 50) := ⟨⟨by decide +kernel, by decide +kernel⟩, List.mem_of_getElem? (i := 1159) (by decide +kernel), List.mem_of_getElem? (i := 1617) (by decide +kernel), List.mem_of_getElem? (i := 1618) (by decide +kernel)⟩
theorem lw_p90 : lw_okq (⟨"FoxHolesModel", "openWeights", "()I"⟩, 50) := ⟨⟨by decide +kernel, by decide +kernel⟩, List.mem_of_getElem? (i := 1159) (by decide +kernel), List.mem_of_getElem? (i := 1627) (by decide +kernel), List.mem_of_getElem? (i := 1628) (by decide +kernel)⟩
theorem lw_p91 : lw_okq (⟨"FoxHolesModel", "drawnHole", "()I"⟩, 50) := ⟨⟨by decide +kernel, by decide +kernel⟩, List.mem_of_getElem? (i := 1159) (by decide +kernel), List.mem_of_getElem? (i := 1631) (by decide +kernel), List.mem_of_getElem? (i := 1632) (by decide +kernel)⟩
theorem lw_p92 : lw_okq (⟨"FoxHolesModel", "draws", "(I)I"⟩, 50) := ⟨⟨by decide +kernel, by decide +kernel⟩, List.mem_of_getElem? (i := 1159) (by decide +kernel), List.mem_of_getElem? (i := 1635) (by decide +kernel), List.mem_of_getElem? (i := 1636) (by decide +kernel)⟩
theorem lw_p93 : lw_okq (⟨"FoxHolesModel", "drawnNight", "(I)I"⟩, 50) := ⟨⟨by decide +kernel, by decide +kernel⟩, List.mem_of_getElem? (i := 1159) (by decide +kernel), List.mem_of_getElem? (i := 1640) (by decide +kernel), List.mem_of_getElem? (i := 1641) (by decide +kernel)⟩
theorem lw_p94 : lw_okq (⟨"FoxHolesModel", "isBody", "(I)Z"⟩, 50) := ⟨⟨by decide +kernel, by decide +kernel⟩, List.mem_of_getElem? (i := 1159) (by decide +kernel), List.mem_of_getElem? (i := 1669) (by decide +kernel), List.mem_of_getElem? (i := 1670) (by decide +kernel)⟩
theorem lw_p95 : lw_okq (⟨"FoxHolesModel", "hidesAs", "(II)I"⟩, 50) := ⟨⟨by decide +kernel, by decide +kernel⟩, List.mem_of_getElem? (i := 1159) (by decide +kernel), List.mem_of_getElem? (i := 1673) (by decide +kernel), List.mem_of_getElem? (i := 1674) (by decide +kernel)⟩
def lw_privs_6 : List (MethodName × Nat) := [(⟨"FoxHolesModel", "firstLook", "(II)I"⟩, 50), (⟨"FoxHolesModel", "armsFrom", "(IIII)Z"⟩, 50), (⟨"FoxHolesModel", "isSureWith", "(II)Z"⟩, 50), (⟨"FoxHolesModel", "areMornings", "(II)Z"⟩, 50), (⟨"FoxHolesModel", "beginsWays", "()V"⟩, 50), (⟨"FoxHolesModel", "nightOfWays", "()V"⟩, 50), (⟨"FoxHolesModel", "takesOut", "(I)J"⟩, 50), (⟨"FoxHolesModel", "allWays", "()J"⟩, 50), (⟨"FoxHolesModel", "goesThrough", "(II)V"⟩, 50), (⟨"FoxHolesModel", "looksOn", "(IIJ)V"⟩, 50), (⟨"FoxHolesModel", "openWeights", "()I"⟩, 50), (⟨"FoxHolesModel", "drawnHole", "()I"⟩, 50), (⟨"FoxHolesModel", "draws", "(I)I"⟩, 50), (⟨"FoxHolesModel", "drawnNight", "(I)I"⟩, 50), (⟨"FoxHolesModel", "isBody", "(I)Z"⟩, 50), (⟨"FoxHolesModel", "hidesAs", "(II)I"⟩, 50)]
theorem lw_r6 : ∀ q ∈ lw_privs_6, lw_okq q := List.forall_mem_cons.mpr ⟨lw_p80, List.forall_mem_cons.mpr ⟨lw_p81, List.forall_mem_cons.mpr ⟨lw_p82, List.forall_mem_cons.mpr ⟨lw_p83, List.forall_mem_cons.mpr ⟨lw_p84, List.forall_mem_cons.mpr ⟨lw_p85, List.forall_mem_cons.mpr ⟨lw_p86, List.forall_mem_cons.mpr ⟨lw_p87, List.forall_mem_cons.mpr ⟨lw_p88, List.forall_mem_cons.mpr ⟨lw_p89, List.forall_mem_cons.mpr ⟨lw_p90, List.forall_mem_cons.mpr ⟨lw_p91, List.forall_mem_cons.mpr ⟨lw_p92, List.forall_mem_cons.mpr ⟨lw_p93, List.forall_mem_cons.mpr ⟨lw_p94, List.forall_mem_cons.mpr ⟨lw_p95, fun _ h => absurd h List.not_mem_nil⟩⟩⟩⟩⟩⟩⟩⟩⟩⟩⟩⟩⟩⟩⟩⟩
theorem lw_p96 : lw_okq (⟨"FoxHolesModel", "begins", "(I)V"⟩, 50) := ⟨⟨by decide +kernel, by decide +kernel⟩, List.mem_of_getElem? (i := 1159) (by decide +kernel), List.mem_of_getElem? (i := 1677) (by decide +kernel), List.mem_of_getElem? (i := 1678) (by decide +kernel)⟩
theorem lw_p97 : lw_okq (⟨"FoxHolesModel", "looksAs", "(II)I"⟩, 50) := ⟨⟨by decide +kernel, by decide +kernel⟩, List.mem_of_getElem? (i := 1159) (by decide +kernel), List.mem_of_getElem? (i := 1681) (by decide +kernel), List.mem_of_getElem? (i := 1682) (by decide +kernel)⟩
theorem lw_p98 : lw_okq (⟨"FoxHolesModel", "goesAs", "(II)I"⟩, 50) := ⟨⟨by decide +kernel, by decide +kernel⟩, List.mem_of_getElem? (i := 1159) (by decide +kernel), List.mem_of_getElem? (i := 1685) (by decide +kernel), List.mem_of_getElem? (i := 1686) (by decide +kernel)⟩
theorem lw_p99 : lw_okq (⟨"FoxHolesModel", "tellsAs", "(II)I"⟩, 50) := ⟨⟨by decide +kernel, by decide +kernel⟩, List.mem_of_getElem? (i := 1159) (by decide +kernel), List.mem_of_getElem? (i := 1689) (by decide +kernel), List.mem_of_getElem? (i := 1690) (by decide +kernel)⟩
theorem lw_p100 : lw_okq (⟨"FoxHolesModel", "refusal", "(II)I"⟩, 50) := ⟨⟨by decide +kernel, by decide +kernel⟩, List.mem_of_getElem? (i := 1159) (by decide +kernel), List.mem_of_getElem? (i := 1709) (by decide +kernel), List.mem_of_getElem? (i := 1710) (by decide +kernel)⟩
theorem lw_p101 : lw_okq (⟨"FoxHolesModel", "kindOf", "(I)I"⟩, 50) := ⟨⟨by decide +kernel, by decide +kernel⟩, List.mem_of_getElem? (i := 1159) (by decide +kernel), List.mem_of_getElem? (i := 1728) (by decide +kernel), List.mem_of_getElem? (i := 1729) (by decide +kernel)⟩
def lw_privs_7 : List (MethodName × Nat) := [(⟨"FoxHolesModel", "begins", "(I)V"⟩, 50), (⟨"FoxHolesModel", "looksAs", "(II)I"⟩, 50), (⟨"FoxHolesModel", "goesAs", "(II)I"⟩, 50), (⟨"FoxHolesModel", "tellsAs", "(II)I"⟩, 50), (⟨"FoxHolesModel", "refusal", "(II)I"⟩, 50), (⟨"FoxHolesModel", "kindOf", "(I)I"⟩, 50)]
theorem lw_r7 : ∀ q ∈ lw_privs_7, lw_okq q := List.forall_mem_cons.mpr ⟨lw_p96, List.forall_mem_cons.mpr ⟨lw_p97, List.forall_mem_cons.mpr ⟨lw_p98, List.forall_mem_cons.mpr ⟨lw_p99, List.forall_mem_cons.mpr ⟨lw_p100, List.forall_mem_cons.mpr ⟨lw_p101, fun _ h => absurd h List.not_mem_nil⟩⟩⟩⟩⟩⟩
def lw_privs : List (MethodName × Nat) := lw_privs_1 ++ (lw_privs_2 ++ (lw_privs_3 ++ (lw_privs_4 ++ (lw_privs_5 ++ (lw_privs_6 ++ (lw_privs_7))))))
def lw_tbl : List Cond := k2_sels lw_privs ++ tables_1
theorem lw_privs_ok : ∀ q ∈ lw_privs, lw_okq q := by
  show ∀ q ∈ lw_privs_1 ++ (lw_privs_2 ++ (lw_privs_3 ++ (lw_privs_4 ++ (lw_privs_5 ++ (lw_privs_6 ++ (lw_privs_7)))))), lw_okq q
  exact List.forall_mem_append.mpr ⟨lw_r1, List.forall_mem_append.mpr ⟨lw_r2, List.forall_mem_append.mpr ⟨lw_r3, List.forall_mem_append.mpr ⟨lw_r4, List.forall_mem_append.mpr ⟨lw_r5, List.forall_mem_append.mpr ⟨lw_r6, lw_r7⟩⟩⟩⟩⟩⟩
end
section
theorem mem_p {big ws : List Cond} (ps : List Nat) (hp : ws = ps.filterMap (fun i => big[i]?)) : ∀ w ∈ ws, w ∈ big := by
  intro w hw
  rw [hp] at hw
  obtain ⟨i, -, hi⟩ := List.mem_filterMap.mp hw
  exact List.mem_of_getElem? hi
def lw_g : List Cond := lw_tbl.filter goodWord
theorem mem_g {ws : List Cond} (ps : List Nat) (hp : ws = ps.filterMap (fun i => lw_tbl[i]?)) (hg : ws.all goodWord = true) : ∀ w ∈ ws, w ∈ lw_g := fun w hw => List.mem_filter.mpr ⟨mem_p ps hp w hw, List.all_eq_true.mp hg w hw⟩
theorem mem_q {w : Cond} (i : Nat) (hp : lw_tbl[i]? = some w) (hg : goodWord w = true) : w ∈ lw_g := List.mem_filter.mpr ⟨List.mem_of_getElem? hp, hg⟩
def RX0 : String := "FoxHoles$Bodies"
def TX0 : u_T := fun k => match k with
  | 0 => ("FoxHoles$Bodies", "kinds", "[I", true)
  | 1 => ("FoxHoles$Bodies", "size", "I", false)
  | 2 => ("FoxHoles$Bodies", "ran", "[I", true)
  | _ => ("FoxHoles$Bodies", "ranSize", "I", false)
def tyX0 : Nat → FieldType := fun k => match k with
  | 0 => .array .int
  | 1 => .int
  | 2 => .array .int
  | _ => .int
theorem nmX0 : ∀ a, a < 4 → ∀ b, b < 4 → a ≠ b → (TX0 a).2.1 ≠ (TX0 b).2.1 := by decide +kernel
theorem tyX0_ok : ∀ k, k < 4 → parseFieldDescriptor (TX0 k).2.2.1 = some (tyX0 k) := by decide +kernel
abbrev cX0_init : ByteArray := prog_2_method_1_code
def yX0_init : MethodName := ⟨RX0, "<init>", "()V"⟩
abbrev cX0_isKind : ByteArray := prog_2_method_2_code
def yX0_isKind : MethodName := ⟨RX0, "isKind", "(I)Z"⟩
abbrev cX0_isBody : ByteArray := prog_2_method_3_code
def yX0_isBody : MethodName := ⟨RX0, "isBody", "(I)Z"⟩
abbrev cX0_kindOf : ByteArray := prog_2_method_4_code
def yX0_kindOf : MethodName := ⟨RX0, "kindOf", "(I)I"⟩
abbrev cX0_add : ByteArray := prog_2_method_5_code
def yX0_add : MethodName := ⟨RX0, "add", "(I)I"⟩
abbrev cX0_isOfKind : ByteArray := prog_2_method_6_code
def yX0_isOfKind : MethodName := ⟨RX0, "isOfKind", "(II)Z"⟩
abbrev cX0_perform : ByteArray := prog_2_method_7_code
def yX0_perform : MethodName := ⟨RX0, "perform", "(III)I"⟩
abbrev cX0_ranAt : ByteArray := prog_2_method_8_code
def yX0_ranAt : MethodName := ⟨RX0, "ranAt", "(I)I"⟩
abbrev cX0_note : ByteArray := prog_2_method_9_code
def yX0_note : MethodName := ⟨RX0, "note", "(I)V"⟩
abbrev cX0_ownerOf : ByteArray := prog_2_method_10_code
def yX0_ownerOf : MethodName := ⟨RX0, "ownerOf", "(II)I"⟩
abbrev cX0_run : ByteArray := prog_2_method_11_code
def yX0_run : MethodName := ⟨RX0, "run", "(IIIII)I"⟩
def RX1 : String := "FoxHoles$Chance"
def TX1 : u_T := fun k => match k with
  | 0 => ("FoxHoles$Chance", "warren", "LFoxHoles$Warren;", true)
  | 1 => ("FoxHoles$Chance", "looks", "LFoxHoles$Looks;", true)
  | 2 => ("FoxHoles$Chance", "ways", "[I", true)
  | 3 => ("FoxHoles$Chance", "layers", "[[J", true)
  | 4 => ("FoxHoles$Chance", "now", "[J", false)
  | 5 => ("FoxHoles$Chance", "later", "[J", false)
  | 6 => ("FoxHoles$Chance", "whole", "J", false)
  | 7 => ("FoxHoles$Chance", "caughtSoFar", "J", false)
  | 8 => ("FoxHoles$Chance", "caughtTimesMorning", "J", false)
  | 9 => ("FoxHoles$Chance", "tried", "[I", true)
  | 10 => ("FoxHoles$Chance", "bestRow", "[I", true)
  | 11 => ("FoxHoles$Chance", "bestCaught", "J", false)
  | 12 => ("FoxHoles$Chance", "bestLength", "I", false)
  | _ => ("FoxHoles$Chance", "bestVersion", "I", false)
def tyX1 : Nat → FieldType := fun k => match k with
  | 0 => .object "FoxHoles$Warren"
  | 1 => .object "FoxHoles$Looks"
  | 2 => .array .int
  | 3 => .array (.array .long)
  | 4 => .array .long
  | 5 => .array .long
  | 6 => .long
  | 7 => .long
  | 8 => .long
  | 9 => .array .int
  | 10 => .array .int
  | 11 => .long
  | 12 => .int
  | _ => .int
theorem nmX1 : ∀ a, a < 14 → ∀ b, b < 14 → a ≠ b → (TX1 a).2.1 ≠ (TX1 b).2.1 := by decide +kernel
theorem tyX1_ok : ∀ k, k < 14 → parseFieldDescriptor (TX1 k).2.2.1 = some (tyX1 k) := by decide +kernel
abbrev cX1_init : ByteArray := prog_3_method_1_code
def yX1_init : MethodName := ⟨RX1, "<init>", "(LFoxHoles$Warren;LFoxHoles$Looks;)V"⟩
abbrev cX1_follow : ByteArray := prog_3_method_2_code
def yX1_follow : MethodName := ⟨RX1, "follow", "(LFoxHoles$Shelf;I)V"⟩
abbrev cX1_begin : ByteArray := prog_3_method_3_code
def yX1_begin : MethodName := ⟨RX1, "begin", "([J)J"⟩
abbrev cX1_take : ByteArray := prog_3_method_4_code
def yX1_take : MethodName := ⟨RX1, "take", "(II)V"⟩
abbrev cX1_goOn : ByteArray := prog_3_method_5_code
def yX1_goOn : MethodName := ⟨RX1, "goOn", "()V"⟩
abbrev cX1_spread : ByteArray := prog_3_method_6_code
def yX1_spread : MethodName := ⟨RX1, "spread", "([J[J)V"⟩
abbrev cX1_likelyIn : ByteArray := prog_3_method_7_code
def yX1_likelyIn : MethodName := ⟨RX1, "likelyIn", "(II)J"⟩
abbrev cX1_share : ByteArray := prog_3_method_8_code
def yX1_share : MethodName := ⟨RX1, "share", "(I)J"⟩
abbrev cX1_meanMorning : ByteArray := prog_3_method_9_code
def yX1_meanMorning : MethodName := ⟨RX1, "meanMorning", "(I)J"⟩
abbrev cX1_partOf : ByteArray := prog_3_method_10_code
def yX1_partOf : MethodName := ⟨RX1, "partOf", "(JJI)J"⟩
abbrev cX1_commonDivisor : ByteArray := prog_3_method_11_code
def yX1_commonDivisor : MethodName := ⟨RX1, "commonDivisor", "(JJ)J"⟩
abbrev cX1_ofBestRow : ByteArray := prog_3_method_12_code
def yX1_ofBestRow : MethodName := ⟨RX1, "ofBestRow", "(II)J"⟩
abbrev cX1_seek : ByteArray := prog_3_method_13_code
def yX1_seek : MethodName := ⟨RX1, "seek", "(IIJ)V"⟩
abbrev cX1_likeliest : ByteArray := prog_3_method_14_code
def yX1_likeliest : MethodName := ⟨RX1, "likeliest", "([J)I"⟩
abbrev cX1_offer : ByteArray := prog_3_method_15_code
def yX1_offer : MethodName := ⟨RX1, "offer", "(J)V"⟩
def RX2 : String := "FoxHoles$Changes"
def TX2 : u_T := fun k => match k with
  | 0 => ("FoxHoles$Changes", "warren", "LFoxHoles$Warren;", true)
  | 1 => ("FoxHoles$Changes", "numbers", "[I", true)
  | 2 => ("FoxHoles$Changes", "whats", "[I", true)
  | 3 => ("FoxHoles$Changes", "befores", "[I", true)
  | 4 => ("FoxHoles$Changes", "afters", "[I", true)
  | 5 => ("FoxHoles$Changes", "known", "I", false)
  | _ => ("FoxHoles$Changes", "done", "I", false)
def tyX2 : Nat → FieldType := fun k => match k with
  | 0 => .object "FoxHoles$Warren"
  | 1 => .array .int
  | 2 => .array .int
  | 3 => .array .int
  | 4 => .array .int
  | 5 => .int
  | _ => .int
theorem nmX2 : ∀ a, a < 7 → ∀ b, b < 7 → a ≠ b → (TX2 a).2.1 ≠ (TX2 b).2.1 := by decide +kernel
theorem tyX2_ok : ∀ k, k < 7 → parseFieldDescriptor (TX2 k).2.2.1 = some (tyX2 k) := by decide +kernel
abbrev cX2_init : ByteArray := prog_4_method_1_code
def yX2_init : MethodName := ⟨RX2, "<init>", "(LFoxHoles$Warren;)V"⟩
abbrev cX2_note : ByteArray := prog_4_method_2_code
def yX2_note : MethodName := ⟨RX2, "note", "(IIII)V"⟩
abbrev cX2_dropOldest : ByteArray := prog_4_method_3_code
def yX2_dropOldest : MethodName := ⟨RX2, "dropOldest", "()V"⟩
abbrev cX2_takeBack : ByteArray := prog_4_method_4_code
def yX2_takeBack : MethodName := ⟨RX2, "takeBack", "()I"⟩
abbrev cX2_doAgain : ByteArray := prog_4_method_5_code
def yX2_doAgain : MethodName := ⟨RX2, "doAgain", "()I"⟩
def RX3 : String := "FoxHoles$Deed"
def TX3 : u_T := fun k => match k with
  | 0 => ("FoxHoles$Deed", "warren", "LFoxHoles$Warren;", true)
  | 1 => ("FoxHoles$Deed", "dice", "LFoxHoles$Dice;", true)
  | 2 => ("FoxHoles$Deed", "vain", "[I", true)
  | 3 => ("FoxHoles$Deed", "fox", "I", false)
  | 4 => ("FoxHoles$Deed", "hidden", "Z", false)
  | 5 => ("FoxHoles$Deed", "day", "I", false)
  | 6 => ("FoxHoles$Deed", "where", "I", false)
  | _ => ("FoxHoles$Deed", "foxes", "I", false)
def tyX3 : Nat → FieldType := fun k => match k with
  | 0 => .object "FoxHoles$Warren"
  | 1 => .object "FoxHoles$Dice"
  | 2 => .array .int
  | 3 => .int
  | 4 => .boolean
  | 5 => .int
  | 6 => .int
  | _ => .int
theorem nmX3 : ∀ a, a < 8 → ∀ b, b < 8 → a ≠ b → (TX3 a).2.1 ≠ (TX3 b).2.1 := by decide +kernel
theorem tyX3_ok : ∀ k, k < 8 → parseFieldDescriptor (TX3 k).2.2.1 = some (tyX3 k) := by decide +kernel
abbrev cX3_init : ByteArray := prog_5_method_1_code
def yX3_init : MethodName := ⟨RX3, "<init>", "(LFoxHoles$Warren;)V"⟩
abbrev cX3_begin : ByteArray := prog_5_method_2_code
def yX3_begin : MethodName := ⟨RX3, "begin", "(I)V"⟩
abbrev cX3_morning : ByteArray := prog_5_method_3_code
def yX3_morning : MethodName := ⟨RX3, "morning", "(I)Z"⟩
abbrev cX3_countVain : ByteArray := prog_5_method_4_code
def yX3_countVain : MethodName := ⟨RX3, "countVain", "(I)V"⟩
abbrev cX3_vainIn : ByteArray := prog_5_method_5_code
def yX3_vainIn : MethodName := ⟨RX3, "vainIn", "(I)I"⟩
abbrev cX3_dayIfHidden : ByteArray := prog_5_method_6_code
def yX3_dayIfHidden : MethodName := ⟨RX3, "dayIfHidden", "()I"⟩
abbrev cX3_copy : ByteArray := prog_5_method_7_code
def yX3_copy : MethodName := ⟨RX3, "copy", "(LFoxHoles$Deed;)V"⟩
def RX4 : String := "FoxHoles$Dice"
def TX4 : u_T := fun k => match k with
  | 0 => ("FoxHoles$Dice", "warren", "LFoxHoles$Warren;", true)
  | _ => ("FoxHoles$Dice", "z", "I", false)
def tyX4 : Nat → FieldType := fun k => match k with
  | 0 => .object "FoxHoles$Warren"
  | _ => .int
theorem nmX4 : ∀ a, a < 2 → ∀ b, b < 2 → a ≠ b → (TX4 a).2.1 ≠ (TX4 b).2.1 := by decide +kernel
theorem tyX4_ok : ∀ k, k < 2 → parseFieldDescriptor (TX4 k).2.2.1 = some (tyX4 k) := by decide +kernel
abbrev cX4_init : ByteArray := prog_6_method_1_code
def yX4_init : MethodName := ⟨RX4, "<init>", "(LFoxHoles$Warren;)V"⟩
abbrev cX4_seed : ByteArray := prog_6_method_2_code
def yX4_seed : MethodName := ⟨RX4, "seed", "(I)V"⟩
abbrev cX4_below : ByteArray := prog_6_method_3_code
def yX4_below : MethodName := ⟨RX4, "below", "(I)I"⟩
abbrev cX4_begin : ByteArray := prog_6_method_4_code
def yX4_begin : MethodName := ⟨RX4, "begin", "()I"⟩
abbrev cX4_night : ByteArray := prog_6_method_5_code
def yX4_night : MethodName := ⟨RX4, "night", "(I)I"⟩
def RX5 : String := "FoxHoles$Ground"
def TX5 : u_T := fun k => match k with
  | _ => ("FoxHoles$Ground", "warren", "LFoxHoles$Warren;", true)
def tyX5 : Nat → FieldType := fun k => match k with
  | _ => .object "FoxHoles$Warren"
theorem nmX5 : ∀ a, a < 1 → ∀ b, b < 1 → a ≠ b → (TX5 a).2.1 ≠ (TX5 b).2.1 := by decide +kernel
theorem tyX5_ok : ∀ k, k < 1 → parseFieldDescriptor (TX5 k).2.2.1 = some (tyX5 k) := by decide +kernel
abbrev cX5_init : ByteArray := prog_7_method_1_code
def yX5_init : MethodName := ⟨RX5, "<init>", "(LFoxHoles$Warren;)V"⟩
abbrev cX5_hasRing : ByteArray := prog_7_method_2_code
def yX5_hasRing : MethodName := ⟨RX5, "hasRing", "()Z"⟩
abbrev cX5_centres : ByteArray := prog_7_method_3_code
def yX5_centres : MethodName := ⟨RX5, "centres", "()I"⟩
abbrev cX5_hasArms : ByteArray := prog_7_method_4_code
def yX5_hasArms : MethodName := ⟨RX5, "hasArms", "(IIII)Z"⟩
abbrev cX5_hasArmBy : ByteArray := prog_7_method_5_code
def yX5_hasArmBy : MethodName := ⟨RX5, "hasArmBy", "(IIII)Z"⟩
abbrev cX5_nightsTo : ByteArray := prog_7_method_6_code
def yX5_nightsTo : MethodName := ⟨RX5, "nightsTo", "(I)I"⟩
abbrev cX5_everWithout : ByteArray := prog_7_method_7_code
def yX5_everWithout : MethodName := ⟨RX5, "everWithout", "(I)I"⟩
def RX6 : String := "FoxHoles$Hunt"
def TX6 : u_T := fun k => match k with
  | 0 => ("FoxHoles$Hunt", "warren", "LFoxHoles$Warren;", true)
  | 1 => ("FoxHoles$Hunt", "trail", "[I", true)
  | 2 => ("FoxHoles$Hunt", "queue", "[I", true)
  | 3 => ("FoxHoles$Hunt", "queued", "I", false)
  | 4 => ("FoxHoles$Hunt", "lowNights", "[I", true)
  | 5 => ("FoxHoles$Hunt", "highNights", "[I", true)
  | 6 => ("FoxHoles$Hunt", "open", "I", false)
  | 7 => ("FoxHoles$Hunt", "rowWanted", "Z", false)
  | 8 => ("FoxHoles$Hunt", "end", "I", false)
  | 9 => ("FoxHoles$Hunt", "found", "I", false)
  | _ => ("FoxHoles$Hunt", "foundVersion", "I", false)
def tyX6 : Nat → FieldType := fun k => match k with
  | 0 => .object "FoxHoles$Warren"
  | 1 => .array .int
  | 2 => .array .int
  | 3 => .int
  | 4 => .array .int
  | 5 => .array .int
  | 6 => .int
  | 7 => .boolean
  | 8 => .int
  | 9 => .int
  | _ => .int
theorem nmX6 : ∀ a, a < 11 → ∀ b, b < 11 → a ≠ b → (TX6 a).2.1 ≠ (TX6 b).2.1 := by decide +kernel
theorem tyX6_ok : ∀ k, k < 11 → parseFieldDescriptor (TX6 k).2.2.1 = some (tyX6 k) := by decide +kernel
abbrev cX6_init : ByteArray := prog_8_method_1_code
def yX6_init : MethodName := ⟨RX6, "<init>", "(LFoxHoles$Warren;)V"⟩
abbrev cX6_mornings : ByteArray := prog_8_method_2_code
def yX6_mornings : MethodName := ⟨RX6, "mornings", "()I"⟩
abbrev cX6_morningsFrom : ByteArray := prog_8_method_3_code
def yX6_morningsFrom : MethodName := ⟨RX6, "morningsFrom", "(II)I"⟩
abbrev cX6_lookAt : ByteArray := prog_8_method_4_code
def yX6_lookAt : MethodName := ⟨RX6, "lookAt", "(I)I"⟩
abbrev cX6_stepInto : ByteArray := prog_8_method_5_code
def yX6_stepInto : MethodName := ⟨RX6, "stepInto", "(I)I"⟩
abbrev cX6_fewestStops : ByteArray := prog_8_method_6_code
def yX6_fewestStops : MethodName := ⟨RX6, "fewestStops", "(I)I"⟩
abbrev cX6_looksWithin : ByteArray := prog_8_method_7_code
def yX6_looksWithin : MethodName := ⟨RX6, "looksWithin", "(I)I"⟩
abbrev cX6_foxesApart : ByteArray := prog_8_method_8_code
def yX6_foxesApart : MethodName := ⟨RX6, "foxesApart", "()I"⟩
abbrev cX6_layOut : ByteArray := prog_8_method_9_code
def yX6_layOut : MethodName := ⟨RX6, "layOut", "(I)V"⟩
abbrev cX6_lowestOf : ByteArray := prog_8_method_10_code
def yX6_lowestOf : MethodName := ⟨RX6, "lowestOf", "(I)I"⟩
abbrev cX6_nextOf : ByteArray := prog_8_method_11_code
def yX6_nextOf : MethodName := ⟨RX6, "nextOf", "(I)I"⟩
abbrev cX6_search : ByteArray := prog_8_method_12_code
def yX6_search : MethodName := ⟨RX6, "search", "(III)I"⟩
abbrev cX6_weekday : ByteArray := prog_8_method_13_code
def yX6_weekday : MethodName := ⟨RX6, "weekday", "(I)I"⟩
abbrev cX6_goOnFrom : ByteArray := prog_8_method_14_code
def yX6_goOnFrom : MethodName := ⟨RX6, "goOnFrom", "(I)Z"⟩
abbrev cX6_trySecond : ByteArray := prog_8_method_15_code
def yX6_trySecond : MethodName := ⟨RX6, "trySecond", "(IIII)Z"⟩
abbrev cX6_tryLooks : ByteArray := prog_8_method_16_code
def yX6_tryLooks : MethodName := ⟨RX6, "tryLooks", "(III)Z"⟩
abbrev cX6_reach : ByteArray := prog_8_method_17_code
def yX6_reach : MethodName := ⟨RX6, "reach", "(II)V"⟩
def RX7 : String := "FoxHoles$Law"
def TX7 : u_T := fun k => match k with
  | 0 => ("FoxHoles$Law", "tape", "[I", true)
  | 1 => ("FoxHoles$Law", "tapeSize", "I", false)
  | 2 => ("FoxHoles$Law", "draft", "[I", true)
  | 3 => ("FoxHoles$Law", "draftSize", "I", false)
  | 4 => ("FoxHoles$Law", "place", "I", false)
  | 5 => ("FoxHoles$Law", "faulty", "Z", false)
  | 6 => ("FoxHoles$Law", "code", "[I", true)
  | 7 => ("FoxHoles$Law", "codeSize", "I", false)
  | 8 => ("FoxHoles$Law", "stack", "[I", true)
  | _ => ("FoxHoles$Law", "top", "I", false)
def tyX7 : Nat → FieldType := fun k => match k with
  | 0 => .array .int
  | 1 => .int
  | 2 => .array .int
  | 3 => .int
  | 4 => .int
  | 5 => .boolean
  | 6 => .array .int
  | 7 => .int
  | 8 => .array .int
  | _ => .int
theorem nmX7 : ∀ a, a < 10 → ∀ b, b < 10 → a ≠ b → (TX7 a).2.1 ≠ (TX7 b).2.1 := by decide +kernel
theorem tyX7_ok : ∀ k, k < 10 → parseFieldDescriptor (TX7 k).2.2.1 = some (tyX7 k) := by decide +kernel
abbrev cX7_init : ByteArray := prog_9_method_1_code
def yX7_init : MethodName := ⟨RX7, "<init>", "()V"⟩
abbrev cX7_write : ByteArray := prog_9_method_2_code
def yX7_write : MethodName := ⟨RX7, "write", "(I)I"⟩
abbrev cX7_read : ByteArray := prog_9_method_3_code
def yX7_read : MethodName := ⟨RX7, "read", "()I"⟩
abbrev cX7_readLines : ByteArray := prog_9_method_4_code
def yX7_readLines : MethodName := ⟨RX7, "readLines", "()V"⟩
abbrev cX7_readLine : ByteArray := prog_9_method_5_code
def yX7_readLine : MethodName := ⟨RX7, "readLine", "()V"⟩
abbrev cX7_readChain : ByteArray := prog_9_method_6_code
def yX7_readChain : MethodName := ⟨RX7, "readChain", "(II)V"⟩
abbrev cX7_readOperand : ByteArray := prog_9_method_7_code
def yX7_readOperand : MethodName := ⟨RX7, "readOperand", "(I)V"⟩
abbrev cX7_readNumber : ByteArray := prog_9_method_8_code
def yX7_readNumber : MethodName := ⟨RX7, "readNumber", "()V"⟩
abbrev cX7_expect : ByteArray := prog_9_method_9_code
def yX7_expect : MethodName := ⟨RX7, "expect", "(I)V"⟩
abbrev cX7_here : ByteArray := prog_9_method_10_code
def yX7_here : MethodName := ⟨RX7, "here", "()I"⟩
abbrev cX7_emit : ByteArray := prog_9_method_11_code
def yX7_emit : MethodName := ⟨RX7, "emit", "(I)V"⟩
abbrev cX7_isDigit : ByteArray := prog_9_method_12_code
def yX7_isDigit : MethodName := ⟨RX7, "isDigit", "(I)Z"⟩
abbrev cX7_isName : ByteArray := prog_9_method_13_code
def yX7_isName : MethodName := ⟨RX7, "isName", "(I)Z"⟩
abbrev cX7_joins : ByteArray := prog_9_method_14_code
def yX7_joins : MethodName := ⟨RX7, "joins", "(II)Z"⟩
abbrev cX7_worth : ByteArray := prog_9_method_15_code
def yX7_worth : MethodName := ⟨RX7, "worth", "(IIIII)I"⟩
abbrev cX7_behindLine : ByteArray := prog_9_method_16_code
def yX7_behindLine : MethodName := ⟨RX7, "behindLine", "(I)I"⟩
abbrev cX7_named : ByteArray := prog_9_method_17_code
def yX7_named : MethodName := ⟨RX7, "named", "(IIIIII)I"⟩
abbrev cX7_apply : ByteArray := prog_9_method_18_code
def yX7_apply : MethodName := ⟨RX7, "apply", "(I)V"⟩
abbrev cX7_joinedBy : ByteArray := prog_9_method_19_code
def yX7_joinedBy : MethodName := ⟨RX7, "joinedBy", "(III)I"⟩
abbrev cX7_holds : ByteArray := prog_9_method_20_code
def yX7_holds : MethodName := ⟨RX7, "holds", "(III)Z"⟩
abbrev cX7_push : ByteArray := prog_9_method_21_code
def yX7_push : MethodName := ⟨RX7, "push", "(I)V"⟩
abbrev cX7_pop : ByteArray := prog_9_method_22_code
def yX7_pop : MethodName := ⟨RX7, "pop", "()I"⟩
def RX8 : String := "FoxHoles$Looks"
def TX8 : u_T := fun k => match k with
  | 0 => ("FoxHoles$Looks", "warren", "LFoxHoles$Warren;", true)
  | _ => ("FoxHoles$Looks", "left", "[I", true)
def tyX8 : Nat → FieldType := fun k => match k with
  | 0 => .object "FoxHoles$Warren"
  | _ => .array .int
theorem nmX8 : ∀ a, a < 2 → ∀ b, b < 2 → a ≠ b → (TX8 a).2.1 ≠ (TX8 b).2.1 := by decide +kernel
theorem tyX8_ok : ∀ k, k < 2 → parseFieldDescriptor (TX8 k).2.2.1 = some (tyX8 k) := by decide +kernel
abbrev cX8_init : ByteArray := prog_10_method_1_code
def yX8_init : MethodName := ⟨RX8, "<init>", "(LFoxHoles$Warren;)V"⟩
abbrev cX8_mornings : ByteArray := prog_10_method_2_code
def yX8_mornings : MethodName := ⟨RX8, "mornings", "(LFoxHoles$Shelf;)I"⟩
abbrev cX8_lookedInto : ByteArray := prog_10_method_3_code
def yX8_lookedInto : MethodName := ⟨RX8, "lookedInto", "(LFoxHoles$Shelf;I)I"⟩
abbrev cX8_holeAt : ByteArray := prog_10_method_4_code
def yX8_holeAt : MethodName := ⟨RX8, "holeAt", "(LFoxHoles$Shelf;I)I"⟩
abbrev cX8_printAt : ByteArray := prog_10_method_5_code
def yX8_printAt : MethodName := ⟨RX8, "printAt", "(LFoxHoles$Shelf;I)I"⟩
abbrev cX8_behind : ByteArray := prog_10_method_6_code
def yX8_behind : MethodName := ⟨RX8, "behind", "(LFoxHoles$Shelf;LFoxHoles$Shelf;I)I"⟩
abbrev cX8_emptied : ByteArray := prog_10_method_7_code
def yX8_emptied : MethodName := ⟨RX8, "emptied", "(LFoxHoles$Shelf;)I"⟩
abbrev cX8_before : ByteArray := prog_10_method_8_code
def yX8_before : MethodName := ⟨RX8, "before", "(LFoxHoles$Shelf;LFoxHoles$Shelf;I)I"⟩
abbrev cX8_firstWrong : ByteArray := prog_10_method_9_code
def yX8_firstWrong : MethodName := ⟨RX8, "firstWrong", "(LFoxHoles$Shelf;LFoxHoles$Shelf;)I"⟩
def RX9 : String := "FoxHoles$Shelf"
def TX9 : u_T := fun k => match k with
  | 0 => ("FoxHoles$Shelf", "cells", "[J", true)
  | 1 => ("FoxHoles$Shelf", "holds", "I", false)
  | 2 => ("FoxHoles$Shelf", "bodyHeld", "I", false)
  | 3 => ("FoxHoles$Shelf", "sort", "I", false)
  | _ => ("FoxHoles$Shelf", "length", "I", false)
def tyX9 : Nat → FieldType := fun k => match k with
  | 0 => .array .long
  | 1 => .int
  | 2 => .int
  | 3 => .int
  | _ => .int
theorem nmX9 : ∀ a, a < 5 → ∀ b, b < 5 → a ≠ b → (TX9 a).2.1 ≠ (TX9 b).2.1 := by decide +kernel
theorem tyX9_ok : ∀ k, k < 5 → parseFieldDescriptor (TX9 k).2.2.1 = some (tyX9 k) := by decide +kernel
abbrev cX9_init : ByteArray := prog_11_method_1_code
def yX9_init : MethodName := ⟨RX9, "<init>", "()V"⟩
abbrev cX9_clear : ByteArray := prog_11_method_2_code
def yX9_clear : MethodName := ⟨RX9, "clear", "()V"⟩
abbrev cX9_holdBody : ByteArray := prog_11_method_3_code
def yX9_holdBody : MethodName := ⟨RX9, "holdBody", "(I)V"⟩
abbrev cX9_holdRow : ByteArray := prog_11_method_4_code
def yX9_holdRow : MethodName := ⟨RX9, "holdRow", "(II)V"⟩
abbrev cX9_isEmpty : ByteArray := prog_11_method_5_code
def yX9_isEmpty : MethodName := ⟨RX9, "isEmpty", "()Z"⟩
abbrev cX9_isRow : ByteArray := prog_11_method_6_code
def yX9_isRow : MethodName := ⟨RX9, "isRow", "()Z"⟩
abbrev cX9_isRowOf : ByteArray := prog_11_method_7_code
def yX9_isRowOf : MethodName := ⟨RX9, "isRowOf", "(I)Z"⟩
abbrev cX9_hasPlaces : ByteArray := prog_11_method_8_code
def yX9_hasPlaces : MethodName := ⟨RX9, "hasPlaces", "(II)Z"⟩
abbrev cX9_write : ByteArray := prog_11_method_9_code
def yX9_write : MethodName := ⟨RX9, "write", "(IJ)V"⟩
abbrev cX9_at : ByteArray := prog_11_method_10_code
def yX9_at : MethodName := ⟨RX9, "at", "(I)J"⟩
abbrev cX9_cut : ByteArray := prog_11_method_11_code
def yX9_cut : MethodName := ⟨RX9, "cut", "(J)J"⟩
def RX10 : String := "FoxHoles$Warren"
def TX10 : u_T := fun k => match k with
  | 0 => ("FoxHoles$Warren", "text", "LFoxHoles$Law;", true)
  | 1 => ("FoxHoles$Warren", "weights", "[I", true)
  | 2 => ("FoxHoles$Warren", "joined", "[I", true)
  | 3 => ("FoxHoles$Warren", "lawful", "[I", true)
  | 4 => ("FoxHoles$Warren", "lawfulIsOld", "Z", false)
  | 5 => ("FoxHoles$Warren", "stopped", "I", false)
  | 6 => ("FoxHoles$Warren", "size", "I", false)
  | 7 => ("FoxHoles$Warren", "paths", "I", false)
  | 8 => ("FoxHoles$Warren", "lookers", "I", false)
  | 9 => ("FoxHoles$Warren", "sleep", "I", false)
  | _ => ("FoxHoles$Warren", "version", "I", false)
def tyX10 : Nat → FieldType := fun k => match k with
  | 0 => .object "FoxHoles$Law"
  | 1 => .array .int
  | 2 => .array .int
  | 3 => .array .int
  | 4 => .boolean
  | 5 => .int
  | 6 => .int
  | 7 => .int
  | 8 => .int
  | 9 => .int
  | _ => .int
theorem nmX10 : ∀ a, a < 11 → ∀ b, b < 11 → a ≠ b → (TX10 a).2.1 ≠ (TX10 b).2.1 := by decide +kernel
theorem tyX10_ok : ∀ k, k < 11 → parseFieldDescriptor (TX10 k).2.2.1 = some (tyX10 k) := by decide +kernel
abbrev cX10_init : ByteArray := prog_12_method_1_code
def yX10_init : MethodName := ⟨RX10, "<init>", "(LFoxHoles$Law;)V"⟩
abbrev cX10_changed : ByteArray := prog_12_method_2_code
def yX10_changed : MethodName := ⟨RX10, "changed", "()V"⟩
abbrev cX10_isHole : ByteArray := prog_12_method_3_code
def yX10_isHole : MethodName := ⟨RX10, "isHole", "(I)Z"⟩
abbrev cX10_isOpen : ByteArray := prog_12_method_4_code
def yX10_isOpen : MethodName := ⟨RX10, "isOpen", "(I)Z"⟩
abbrev cX10_areHoles : ByteArray := prog_12_method_5_code
def yX10_areHoles : MethodName := ⟨RX10, "areHoles", "(I)Z"⟩
abbrev cX10_isWeight : ByteArray := prog_12_method_6_code
def yX10_isWeight : MethodName := ⟨RX10, "isWeight", "(I)Z"⟩
abbrev cX10_openOnes : ByteArray := prog_12_method_7_code
def yX10_openOnes : MethodName := ⟨RX10, "openOnes", "()I"⟩
abbrev cX10_addHole : ByteArray := prog_12_method_8_code
def yX10_addHole : MethodName := ⟨RX10, "addHole", "(I)I"⟩
abbrev cX10_addHoles : ByteArray := prog_12_method_9_code
def yX10_addHoles : MethodName := ⟨RX10, "addHoles", "(LFoxHoles$Shelf;II)I"⟩
abbrev cX10_addPath : ByteArray := prog_12_method_10_code
def yX10_addPath : MethodName := ⟨RX10, "addPath", "(II)I"⟩
abbrev cX10_pathsOf : ByteArray := prog_12_method_11_code
def yX10_pathsOf : MethodName := ⟨RX10, "pathsOf", "(I)I"⟩
abbrev cX10_mayBecome : ByteArray := prog_12_method_12_code
def yX10_mayBecome : MethodName := ⟨RX10, "mayBecome", "(III)Z"⟩
abbrev cX10_told : ByteArray := prog_12_method_13_code
def yX10_told : MethodName := ⟨RX10, "told", "(II)I"⟩
abbrev cX10_become : ByteArray := prog_12_method_14_code
def yX10_become : MethodName := ⟨RX10, "become", "(III)V"⟩
abbrev cX10_sleepsOn : ByteArray := prog_12_method_15_code
def yX10_sleepsOn : MethodName := ⟨RX10, "sleepsOn", "(I)Z"⟩
abbrev cX10_weightIfOpen : ByteArray := prog_12_method_16_code
def yX10_weightIfOpen : MethodName := ⟨RX10, "weightIfOpen", "(I)I"⟩
abbrev cX10_openWeight : ByteArray := prog_12_method_17_code
def yX10_openWeight : MethodName := ⟨RX10, "openWeight", "()I"⟩
abbrev cX10_openNear : ByteArray := prog_12_method_18_code
def yX10_openNear : MethodName := ⟨RX10, "openNear", "(I)I"⟩
abbrev cX10_mayGo : ByteArray := prog_12_method_19_code
def yX10_mayGo : MethodName := ⟨RX10, "mayGo", "(I)I"⟩
abbrev cX10_next : ByteArray := prog_12_method_20_code
def yX10_next : MethodName := ⟨RX10, "next", "(I)I"⟩
abbrev cX10_night : ByteArray := prog_12_method_21_code
def yX10_night : MethodName := ⟨RX10, "night", "(I)I"⟩
abbrev cX10_leadingInto : ByteArray := prog_12_method_22_code
def yX10_leadingInto : MethodName := ⟨RX10, "leadingInto", "(II)I"⟩
abbrev cX10_lawfulFrom : ByteArray := prog_12_method_23_code
def yX10_lawfulFrom : MethodName := ⟨RX10, "lawfulFrom", "(I)I"⟩
abbrev cX10_settle : ByteArray := prog_12_method_24_code
def yX10_settle : MethodName := ⟨RX10, "settle", "()V"⟩
def RX11 : String := "FoxHoles"
def TX11 : u_T := fun k => match k with
  | 0 => ("FoxHoles", "text", "LFoxHoles$Law;", true)
  | 1 => ("FoxHoles", "warren", "LFoxHoles$Warren;", true)
  | 2 => ("FoxHoles", "changes", "LFoxHoles$Changes;", true)
  | 3 => ("FoxHoles", "looks", "LFoxHoles$Looks;", true)
  | 4 => ("FoxHoles", "hunt", "LFoxHoles$Hunt;", true)
  | 5 => ("FoxHoles", "ground", "LFoxHoles$Ground;", true)
  | 6 => ("FoxHoles", "chance", "LFoxHoles$Chance;", true)
  | 7 => ("FoxHoles", "dice", "LFoxHoles$Dice;", true)
  | 8 => ("FoxHoles", "deed", "LFoxHoles$Deed;", true)
  | 9 => ("FoxHoles", "picture", "LFoxHoles$Deed;", true)
  | 10 => ("FoxHoles", "pictured", "Z", false)
  | 11 => ("FoxHoles", "bodies", "LFoxHoles$Bodies;", true)
  | _ => ("FoxHoles", "shelves", "[LFoxHoles$Shelf;", true)
def tyX11 : Nat → FieldType := fun k => match k with
  | 0 => .object "FoxHoles$Law"
  | 1 => .object "FoxHoles$Warren"
  | 2 => .object "FoxHoles$Changes"
  | 3 => .object "FoxHoles$Looks"
  | 4 => .object "FoxHoles$Hunt"
  | 5 => .object "FoxHoles$Ground"
  | 6 => .object "FoxHoles$Chance"
  | 7 => .object "FoxHoles$Dice"
  | 8 => .object "FoxHoles$Deed"
  | 9 => .object "FoxHoles$Deed"
  | 10 => .boolean
  | 11 => .object "FoxHoles$Bodies"
  | _ => .array (.object "FoxHoles$Shelf")
theorem nmX11 : ∀ a, a < 13 → ∀ b, b < 13 → a ≠ b → (TX11 a).2.1 ≠ (TX11 b).2.1 := by decide +kernel
theorem tyX11_ok : ∀ k, k < 13 → parseFieldDescriptor (TX11 k).2.2.1 = some (tyX11 k) := by decide +kernel
abbrev cX11_init : ByteArray := prog_1_method_1_code
def yX11_init : MethodName := ⟨RX11, "<init>", "()V"⟩
abbrev cX11_hole : ByteArray := prog_1_method_2_code
def yX11_hole : MethodName := ⟨RX11, "hole", "(I)I"⟩
abbrev cX11_holes : ByteArray := prog_1_method_3_code
def yX11_holes : MethodName := ⟨RX11, "holes", "(III)I"⟩
abbrev cX11_path : ByteArray := prog_1_method_4_code
def yX11_path : MethodName := ⟨RX11, "path", "(I)I"⟩
abbrev cX11_mend : ByteArray := prog_1_method_5_code
def yX11_mend : MethodName := ⟨RX11, "mend", "(III)I"⟩
abbrev cX11_of : ByteArray := prog_1_method_6_code
def yX11_of : MethodName := ⟨RX11, "of", "(II)I"⟩
abbrev cX11_ofHole : ByteArray := prog_1_method_7_code
def yX11_ofHole : MethodName := ⟨RX11, "ofHole", "(II)I"⟩
abbrev cX11_ofAll : ByteArray := prog_1_method_8_code
def yX11_ofAll : MethodName := ⟨RX11, "ofAll", "(I)I"⟩
abbrev cX11_feed : ByteArray := prog_1_method_9_code
def yX11_feed : MethodName := ⟨RX11, "feed", "(I)I"⟩
abbrev cX11_law : ByteArray := prog_1_method_10_code
def yX11_law : MethodName := ⟨RX11, "law", "()I"⟩
abbrev cX11_mayBe : ByteArray := prog_1_method_11_code
def yX11_mayBe : MethodName := ⟨RX11, "mayBe", "(II)I"⟩
abbrev cX11_caught : ByteArray := prog_1_method_12_code
def yX11_caught : MethodName := ⟨RX11, "caught", "(I)I"⟩
abbrev cX11_printed : ByteArray := prog_1_method_13_code
def yX11_printed : MethodName := ⟨RX11, "printed", "(II)I"⟩
abbrev cX11_ahead : ByteArray := prog_1_method_14_code
def yX11_ahead : MethodName := ⟨RX11, "ahead", "(II)I"⟩
abbrev cX11_refusalOfPrints : ByteArray := prog_1_method_15_code
def yX11_refusalOfPrints : MethodName := ⟨RX11, "refusalOfPrints", "(III)I"⟩
abbrev cX11_judge : ByteArray := prog_1_method_16_code
def yX11_judge : MethodName := ⟨RX11, "judge", "(I)I"⟩
abbrev cX11_sure : ByteArray := prog_1_method_17_code
def yX11_sure : MethodName := ⟨RX11, "sure", "(I)I"⟩
abbrev cX11_sureFrom : ByteArray := prog_1_method_18_code
def yX11_sureFrom : MethodName := ⟨RX11, "sureFrom", "(II)I"⟩
abbrev cX11_ring : ByteArray := prog_1_method_19_code
def yX11_ring : MethodName := ⟨RX11, "ring", "()I"⟩
abbrev cX11_arms : ByteArray := prog_1_method_20_code
def yX11_arms : MethodName := ⟨RX11, "arms", "()I"⟩
abbrev cX11_toStop : ByteArray := prog_1_method_21_code
def yX11_toStop : MethodName := ⟨RX11, "toStop", "(I)I"⟩
abbrev cX11_dogs : ByteArray := prog_1_method_22_code
def yX11_dogs : MethodName := ⟨RX11, "dogs", "(I)I"⟩
abbrev cX11_kept : ByteArray := prog_1_method_23_code
def yX11_kept : MethodName := ⟨RX11, "kept", "(I)I"⟩
abbrev cX11_likely : ByteArray := prog_1_method_24_code
def yX11_likely : MethodName := ⟨RX11, "likely", "(III)J"⟩
abbrev cX11_luck : ByteArray := prog_1_method_25_code
def yX11_luck : MethodName := ⟨RX11, "luck", "(III)J"⟩
abbrev cX11_mean : ByteArray := prog_1_method_26_code
def yX11_mean : MethodName := ⟨RX11, "mean", "(III)J"⟩
abbrev cX11_luckiest : ByteArray := prog_1_method_27_code
def yX11_luckiest : MethodName := ⟨RX11, "luckiest", "(II)J"⟩
abbrev cX11_drawn : ByteArray := prog_1_method_28_code
def yX11_drawn : MethodName := ⟨RX11, "drawn", "(IIII)I"⟩
abbrev cX11_isDrawing : ByteArray := prog_1_method_29_code
def yX11_isDrawing : MethodName := ⟨RX11, "isDrawing", "(I)Z"⟩
abbrev cX11_drawFoxes : ByteArray := prog_1_method_30_code
def yX11_drawFoxes : MethodName := ⟨RX11, "drawFoxes", "(LFoxHoles$Shelf;III)I"⟩
abbrev cX11_drawFox : ByteArray := prog_1_method_31_code
def yX11_drawFox : MethodName := ⟨RX11, "drawFox", "(LFoxHoles$Shelf;I)I"⟩
abbrev cX11_hide : ByteArray := prog_1_method_32_code
def yX11_hide : MethodName := ⟨RX11, "hide", "(I)I"⟩
abbrev cX11_look : ByteArray := prog_1_method_33_code
def yX11_look : MethodName := ⟨RX11, "look", "(I)I"⟩
abbrev cX11_image : ByteArray := prog_1_method_34_code
def yX11_image : MethodName := ⟨RX11, "image", "()I"⟩
abbrev cX11_back : ByteArray := prog_1_method_35_code
def yX11_back : MethodName := ⟨RX11, "back", "()I"⟩
abbrev cX11_undo : ByteArray := prog_1_method_36_code
def yX11_undo : MethodName := ⟨RX11, "undo", "()I"⟩
abbrev cX11_redo : ByteArray := prog_1_method_37_code
def yX11_redo : MethodName := ⟨RX11, "redo", "()I"⟩
abbrev cX11_body : ByteArray := prog_1_method_38_code
def yX11_body : MethodName := ⟨RX11, "body", "(I)I"⟩
abbrev cX11_act : ByteArray := prog_1_method_39_code
def yX11_act : MethodName := ⟨RX11, "act", "(III)I"⟩
abbrev cX11_trace : ByteArray := prog_1_method_40_code
def yX11_trace : MethodName := ⟨RX11, "trace", "(I)I"⟩
abbrev cX11_keep : ByteArray := prog_1_method_41_code
def yX11_keep : MethodName := ⟨RX11, "keep", "(II)I"⟩
abbrev cX11_row : ByteArray := prog_1_method_42_code
def yX11_row : MethodName := ⟨RX11, "row", "(III)I"⟩
abbrev cX11_put : ByteArray := prog_1_method_43_code
def yX11_put : MethodName := ⟨RX11, "put", "(IIJ)I"⟩
abbrev cX11_element : ByteArray := prog_1_method_44_code
def yX11_element : MethodName := ⟨RX11, "element", "(II)J"⟩
abbrev cX11_shift : ByteArray := prog_1_method_45_code
def yX11_shift : MethodName := ⟨RX11, "shift", "(IIIII)I"⟩
abbrev cX11_taken : ByteArray := prog_1_method_46_code
def yX11_taken : MethodName := ⟨RX11, "taken", "(II)I"⟩
abbrev cX11_count : ByteArray := prog_1_method_47_code
def yX11_count : MethodName := ⟨RX11, "count", "(I)I"⟩
abbrev cX11_shelfAt : ByteArray := prog_1_method_48_code
def yX11_shelfAt : MethodName := ⟨RX11, "shelfAt", "(I)LFoxHoles$Shelf;"⟩
abbrev cX11_areTwoShelves : ByteArray := prog_1_method_49_code
def yX11_areTwoShelves : MethodName := ⟨RX11, "areTwoShelves", "(I)Z"⟩
abbrev cX11_areTwoHoles : ByteArray := prog_1_method_50_code
def yX11_areTwoHoles : MethodName := ⟨RX11, "areTwoHoles", "(I)Z"⟩
abbrev cX11_refusalOf : ByteArray := prog_1_method_51_code
def yX11_refusalOf : MethodName := ⟨RX11, "refusalOf", "(LFoxHoles$Shelf;)I"⟩
abbrev cX11_refusalOfBoth : ByteArray := prog_1_method_52_code
def yX11_refusalOfBoth : MethodName := ⟨RX11, "refusalOfBoth", "(LFoxHoles$Shelf;LFoxHoles$Shelf;I)I"⟩
abbrev cX11_refusalOfPlace : ByteArray := prog_1_method_53_code
def yX11_refusalOfPlace : MethodName := ⟨RX11, "refusalOfPlace", "(LFoxHoles$Shelf;I)I"⟩
abbrev cX11_mayFollow : ByteArray := prog_1_method_54_code
def yX11_mayFollow : MethodName := ⟨RX11, "mayFollow", "(III)Z"⟩
def RX12 : String := "FoxHolesModel"
def TX12 : u_T := fun k => match k with
  | 0 => ("FoxHolesModel", "may", "[I", true)
  | 1 => ("FoxHolesModel", "changeAt", "[I", true)
  | 2 => ("FoxHolesModel", "changeWas", "[I", true)
  | 3 => ("FoxHolesModel", "changeIs", "[I", true)
  | 4 => ("FoxHolesModel", "keptMany", "I", false)
  | 5 => ("FoxHolesModel", "done", "I", false)
  | 6 => ("FoxHolesModel", "holes", "I", false)
  | 7 => ("FoxHolesModel", "paths", "I", false)
  | 8 => ("FoxHolesModel", "joins", "[I", true)
  | 9 => ("FoxHolesModel", "tape", "[I", true)
  | 10 => ("FoxHolesModel", "tapeMany", "I", false)
  | 11 => ("FoxHolesModel", "text", "[I", true)
  | 12 => ("FoxHolesModel", "textMany", "I", false)
  | 13 => ("FoxHolesModel", "base", "I", false)
  | 14 => ("FoxHolesModel", "at", "I", false)
  | 15 => ("FoxHolesModel", "ends", "I", false)
  | 16 => ("FoxHolesModel", "fault", "I", false)
  | 17 => ("FoxHolesModel", "opened", "I", false)
  | 18 => ("FoxHolesModel", "names", "[I", true)
  | 19 => ("FoxHolesModel", "goesTo", "[I", true)
  | 20 => ("FoxHolesModel", "sureIn", "[I", true)
  | 21 => ("FoxHolesModel", "ways", "[J", true)
  | 22 => ("FoxHolesModel", "waysThen", "[J", true)
  | 23 => ("FoxHolesModel", "caughtWays", "J", false)
  | 24 => ("FoxHolesModel", "caughtMornings", "J", false)
  | 25 => ("FoxHolesModel", "lineOf", "J", false)
  | 26 => ("FoxHolesModel", "waysAt", "[J", true)
  | 27 => ("FoxHolesModel", "looks", "[I", true)
  | 28 => ("FoxHolesModel", "bestLooks", "[I", true)
  | 29 => ("FoxHolesModel", "bestCaught", "J", false)
  | 30 => ("FoxHolesModel", "z", "I", false)
  | 31 => ("FoxHolesModel", "isAt", "I", false)
  | 32 => ("FoxHolesModel", "day", "I", false)
  | 33 => ("FoxHolesModel", "whereNow", "I", false)
  | 34 => ("FoxHolesModel", "caughtMany", "I", false)
  | 35 => ("FoxHolesModel", "inVain", "[I", true)
  | 36 => ("FoxHolesModel", "own", "I", false)
  | 37 => ("FoxHolesModel", "isKept", "Z", false)
  | 38 => ("FoxHolesModel", "image", "[I", true)
  | 39 => ("FoxHolesModel", "imageVain", "[I", true)
  | 40 => ("FoxHolesModel", "bodies", "I", false)
  | 41 => ("FoxHolesModel", "bodyKind", "[I", true)
  | 42 => ("FoxHolesModel", "trace", "[I", true)
  | 43 => ("FoxHolesModel", "ran", "I", false)
  | 44 => ("FoxHolesModel", "ownKind", "I", false)
  | 45 => ("FoxHolesModel", "ownNumber", "I", false)
  | 46 => ("FoxHolesModel", "shelf", "[I", true)
  | 47 => ("FoxHolesModel", "many", "[I", true)
  | 48 => ("FoxHolesModel", "items", "[J", true)
  | _ => ("FoxHolesModel", "carried", "[J", true)
def tyX12 : Nat → FieldType := fun k => match k with
  | 0 => .array .int
  | 1 => .array .int
  | 2 => .array .int
  | 3 => .array .int
  | 4 => .int
  | 5 => .int
  | 6 => .int
  | 7 => .int
  | 8 => .array .int
  | 9 => .array .int
  | 10 => .int
  | 11 => .array .int
  | 12 => .int
  | 13 => .int
  | 14 => .int
  | 15 => .int
  | 16 => .int
  | 17 => .int
  | 18 => .array .int
  | 19 => .array .int
  | 20 => .array .int
  | 21 => .array .long
  | 22 => .array .long
  | 23 => .long
  | 24 => .long
  | 25 => .long
  | 26 => .array .long
  | 27 => .array .int
  | 28 => .array .int
  | 29 => .long
  | 30 => .int
  | 31 => .int
  | 32 => .int
  | 33 => .int
  | 34 => .int
  | 35 => .array .int
  | 36 => .int
  | 37 => .boolean
  | 38 => .array .int
  | 39 => .array .int
  | 40 => .int
  | 41 => .array .int
  | 42 => .array .int
  | 43 => .int
  | 44 => .int
  | 45 => .int
  | 46 => .array .int
  | 47 => .array .int
  | 48 => .array .long
  | _ => .array .long
theorem nmX12 : ∀ a, a < 50 → ∀ b, b < 50 → a ≠ b → (TX12 a).2.1 ≠ (TX12 b).2.1 := by decide +kernel
theorem tyX12_ok : ∀ k, k < 50 → parseFieldDescriptor (TX12 k).2.2.1 = some (tyX12 k) := by decide +kernel
abbrev cX12_within : ByteArray := prog_14_method_1_code
def yX12_within : MethodName := ⟨RX12, "within", "(JJJ)Z"⟩
abbrev cX12_isIn : ByteArray := prog_14_method_2_code
def yX12_isIn : MethodName := ⟨RX12, "isIn", "(II)Z"⟩
abbrev cX12_bitsOf : ByteArray := prog_14_method_3_code
def yX12_bitsOf : MethodName := ⟨RX12, "bitsOf", "(I)I"⟩
abbrev cX12_init : ByteArray := prog_14_method_4_code
def yX12_init : MethodName := ⟨RX12, "<init>", "()V"⟩
abbrev cX12_becomes : ByteArray := prog_14_method_5_code
def yX12_becomes : MethodName := ⟨RX12, "becomes", "(II)I"⟩
abbrev cX12_undo : ByteArray := prog_14_method_6_code
def yX12_undo : MethodName := ⟨RX12, "undo", "()I"⟩
abbrev cX12_redo : ByteArray := prog_14_method_7_code
def yX12_redo : MethodName := ⟨RX12, "redo", "()I"⟩
abbrev cX12_isHole : ByteArray := prog_14_method_8_code
def yX12_isHole : MethodName := ⟨RX12, "isHole", "(J)Z"⟩
abbrev cX12_isOpen : ByteArray := prog_14_method_9_code
def yX12_isOpen : MethodName := ⟨RX12, "isOpen", "(J)Z"⟩
abbrev cX12_openSet : ByteArray := prog_14_method_10_code
def yX12_openSet : MethodName := ⟨RX12, "openSet", "()I"⟩
abbrev cX12_hole : ByteArray := prog_14_method_11_code
def yX12_hole : MethodName := ⟨RX12, "hole", "(I)I"⟩
abbrev cX12_holes : ByteArray := prog_14_method_12_code
def yX12_holes : MethodName := ⟨RX12, "holes", "(III)I"⟩
abbrev cX12_isAb : ByteArray := prog_14_method_13_code
def yX12_isAb : MethodName := ⟨RX12, "isAb", "(I)Z"⟩
abbrev cX12_path : ByteArray := prog_14_method_14_code
def yX12_path : MethodName := ⟨RX12, "path", "(I)I"⟩
abbrev cX12_mend : ByteArray := prog_14_method_15_code
def yX12_mend : MethodName := ⟨RX12, "mend", "(III)I"⟩
abbrev cX12_ofHole : ByteArray := prog_14_method_16_code
def yX12_ofHole : MethodName := ⟨RX12, "ofHole", "(II)I"⟩
abbrev cX12_ofAll : ByteArray := prog_14_method_17_code
def yX12_ofAll : MethodName := ⟨RX12, "ofAll", "(I)I"⟩
abbrev cX12_of : ByteArray := prog_14_method_18_code
def yX12_of : MethodName := ⟨RX12, "of", "(II)I"⟩
abbrev cX12_feed : ByteArray := prog_14_method_19_code
def yX12_feed : MethodName := ⟨RX12, "feed", "(I)I"⟩
abbrev cX12_byteAt : ByteArray := prog_14_method_20_code
def yX12_byteAt : MethodName := ⟨RX12, "byteAt", "()I"⟩
abbrev cX12_wrong : ByteArray := prog_14_method_21_code
def yX12_wrong : MethodName := ⟨RX12, "wrong", "()I"⟩
abbrev cX12_takes : ByteArray := prog_14_method_22_code
def yX12_takes : MethodName := ⟨RX12, "takes", "(I)Z"⟩
abbrev cX12_either : ByteArray := prog_14_method_23_code
def yX12_either : MethodName := ⟨RX12, "either", "()I"⟩
abbrev cX12_both : ByteArray := prog_14_method_24_code
def yX12_both : MethodName := ⟨RX12, "both", "()I"⟩
abbrev cX12_compared : ByteArray := prog_14_method_25_code
def yX12_compared : MethodName := ⟨RX12, "compared", "()I"⟩
abbrev cX12_sums : ByteArray := prog_14_method_26_code
def yX12_sums : MethodName := ⟨RX12, "sums", "()I"⟩
abbrev cX12_product : ByteArray := prog_14_method_27_code
def yX12_product : MethodName := ⟨RX12, "product", "()I"⟩
abbrev cX12_nameOf : ByteArray := prog_14_method_28_code
def yX12_nameOf : MethodName := ⟨RX12, "nameOf", "(I)I"⟩
abbrev cX12_one : ByteArray := prog_14_method_29_code
def yX12_one : MethodName := ⟨RX12, "one", "()I"⟩
abbrev cX12_workOut : ByteArray := prog_14_method_30_code
def yX12_workOut : MethodName := ⟨RX12, "workOut", "(II)I"⟩
abbrev cX12_law : ByteArray := prog_14_method_31_code
def yX12_law : MethodName := ⟨RX12, "law", "()I"⟩
abbrev cX12_mayGo : ByteArray := prog_14_method_32_code
def yX12_mayGo : MethodName := ⟨RX12, "mayGo", "(II)Z"⟩
abbrev cX12_asksLaw : ByteArray := prog_14_method_33_code
def yX12_asksLaw : MethodName := ⟨RX12, "asksLaw", "()V"⟩
abbrev cX12_nightOf : ByteArray := prog_14_method_34_code
def yX12_nightOf : MethodName := ⟨RX12, "nightOf", "(I)I"⟩
abbrev cX12_bytesIs : ByteArray := prog_14_method_35_code
def yX12_bytesIs : MethodName := ⟨RX12, "bytesIs", "(I)I"⟩
abbrev cX12_morningsOf : ByteArray := prog_14_method_36_code
def yX12_morningsOf : MethodName := ⟨RX12, "morningsOf", "(I)I"⟩
abbrev cX12_sleeps : ByteArray := prog_14_method_37_code
def yX12_sleeps : MethodName := ⟨RX12, "sleeps", "(I)Z"⟩
abbrev cX12_lookedAt : ByteArray := prog_14_method_38_code
def yX12_lookedAt : MethodName := ⟨RX12, "lookedAt", "(II)I"⟩
abbrev cX12_printOf : ByteArray := prog_14_method_39_code
def yX12_printOf : MethodName := ⟨RX12, "printOf", "(II)I"⟩
abbrev cX12_canBe : ByteArray := prog_14_method_40_code
def yX12_canBe : MethodName := ⟨RX12, "canBe", "(III)I"⟩
abbrev cX12_mayBe : ByteArray := prog_14_method_41_code
def yX12_mayBe : MethodName := ⟨RX12, "mayBe", "(II)I"⟩
abbrev cX12_caught : ByteArray := prog_14_method_42_code
def yX12_caught : MethodName := ⟨RX12, "caught", "(I)I"⟩
abbrev cX12_bothIs : ByteArray := prog_14_method_43_code
def yX12_bothIs : MethodName := ⟨RX12, "bothIs", "(I)I"⟩
abbrev cX12_printed : ByteArray := prog_14_method_44_code
def yX12_printed : MethodName := ⟨RX12, "printed", "(II)I"⟩
abbrev cX12_ahead : ByteArray := prog_14_method_45_code
def yX12_ahead : MethodName := ⟨RX12, "ahead", "(II)I"⟩
abbrev cX12_judge : ByteArray := prog_14_method_46_code
def yX12_judge : MethodName := ⟨RX12, "judge", "(I)I"⟩
abbrev cX12_behindLook : ByteArray := prog_14_method_47_code
def yX12_behindLook : MethodName := ⟨RX12, "behindLook", "(II)I"⟩
abbrev cX12_sureBy : ByteArray := prog_14_method_48_code
def yX12_sureBy : MethodName := ⟨RX12, "sureBy", "(III)I"⟩
abbrev cX12_bestOf : ByteArray := prog_14_method_49_code
def yX12_bestOf : MethodName := ⟨RX12, "bestOf", "(II)I"⟩
abbrev cX12_asksSure : ByteArray := prog_14_method_50_code
def yX12_asksSure : MethodName := ⟨RX12, "asksSure", "()V"⟩
abbrev cX12_soonest : ByteArray := prog_14_method_51_code
def yX12_soonest : MethodName := ⟨RX12, "soonest", "(II)I"⟩
abbrev cX12_sureFrom : ByteArray := prog_14_method_52_code
def yX12_sureFrom : MethodName := ⟨RX12, "sureFrom", "(II)I"⟩
abbrev cX12_firstLook : ByteArray := prog_14_method_53_code
def yX12_firstLook : MethodName := ⟨RX12, "firstLook", "(II)I"⟩
abbrev cX12_sure : ByteArray := prog_14_method_54_code
def yX12_sure : MethodName := ⟨RX12, "sure", "(I)I"⟩
abbrev cX12_ring : ByteArray := prog_14_method_55_code
def yX12_ring : MethodName := ⟨RX12, "ring", "()I"⟩
abbrev cX12_armsFrom : ByteArray := prog_14_method_56_code
def yX12_armsFrom : MethodName := ⟨RX12, "armsFrom", "(IIII)Z"⟩
abbrev cX12_arms : ByteArray := prog_14_method_57_code
def yX12_arms : MethodName := ⟨RX12, "arms", "()I"⟩
abbrev cX12_isSureWith : ByteArray := prog_14_method_58_code
def yX12_isSureWith : MethodName := ⟨RX12, "isSureWith", "(II)Z"⟩
abbrev cX12_toStop : ByteArray := prog_14_method_59_code
def yX12_toStop : MethodName := ⟨RX12, "toStop", "(I)I"⟩
abbrev cX12_dogs : ByteArray := prog_14_method_60_code
def yX12_dogs : MethodName := ⟨RX12, "dogs", "(I)I"⟩
abbrev cX12_kept : ByteArray := prog_14_method_61_code
def yX12_kept : MethodName := ⟨RX12, "kept", "(I)I"⟩
abbrev cX12_commonOf : ByteArray := prog_14_method_62_code
def yX12_commonOf : MethodName := ⟨RX12, "commonOf", "(JJ)J"⟩
abbrev cX12_partOf : ByteArray := prog_14_method_63_code
def yX12_partOf : MethodName := ⟨RX12, "partOf", "(JJI)J"⟩
abbrev cX12_allWays : ByteArray := prog_14_method_64_code
def yX12_allWays : MethodName := ⟨RX12, "allWays", "()J"⟩
abbrev cX12_beginsWays : ByteArray := prog_14_method_65_code
def yX12_beginsWays : MethodName := ⟨RX12, "beginsWays", "()V"⟩
abbrev cX12_nightOfWays : ByteArray := prog_14_method_66_code
def yX12_nightOfWays : MethodName := ⟨RX12, "nightOfWays", "()V"⟩
abbrev cX12_takesOut : ByteArray := prog_14_method_67_code
def yX12_takesOut : MethodName := ⟨RX12, "takesOut", "(I)J"⟩
abbrev cX12_areMornings : ByteArray := prog_14_method_68_code
def yX12_areMornings : MethodName := ⟨RX12, "areMornings", "(II)Z"⟩
abbrev cX12_likely : ByteArray := prog_14_method_69_code
def yX12_likely : MethodName := ⟨RX12, "likely", "(III)J"⟩
abbrev cX12_goesThrough : ByteArray := prog_14_method_70_code
def yX12_goesThrough : MethodName := ⟨RX12, "goesThrough", "(II)V"⟩
abbrev cX12_luck : ByteArray := prog_14_method_71_code
def yX12_luck : MethodName := ⟨RX12, "luck", "(III)J"⟩
abbrev cX12_mean : ByteArray := prog_14_method_72_code
def yX12_mean : MethodName := ⟨RX12, "mean", "(III)J"⟩
abbrev cX12_looksOn : ByteArray := prog_14_method_73_code
def yX12_looksOn : MethodName := ⟨RX12, "looksOn", "(IIJ)V"⟩
abbrev cX12_luckiest : ByteArray := prog_14_method_74_code
def yX12_luckiest : MethodName := ⟨RX12, "luckiest", "(II)J"⟩
abbrev cX12_draws : ByteArray := prog_14_method_75_code
def yX12_draws : MethodName := ⟨RX12, "draws", "(I)I"⟩
abbrev cX12_openWeights : ByteArray := prog_14_method_76_code
def yX12_openWeights : MethodName := ⟨RX12, "openWeights", "()I"⟩
abbrev cX12_drawnHole : ByteArray := prog_14_method_77_code
def yX12_drawnHole : MethodName := ⟨RX12, "drawnHole", "()I"⟩
abbrev cX12_drawnNight : ByteArray := prog_14_method_78_code
def yX12_drawnNight : MethodName := ⟨RX12, "drawnNight", "(I)I"⟩
abbrev cX12_drawn : ByteArray := prog_14_method_79_code
def yX12_drawn : MethodName := ⟨RX12, "drawn", "(IIII)I"⟩
abbrev cX12_hide : ByteArray := prog_14_method_80_code
def yX12_hide : MethodName := ⟨RX12, "hide", "(I)I"⟩
abbrev cX12_look : ByteArray := prog_14_method_81_code
def yX12_look : MethodName := ⟨RX12, "look", "(I)I"⟩
abbrev cX12_image : ByteArray := prog_14_method_82_code
def yX12_image : MethodName := ⟨RX12, "image", "()I"⟩
abbrev cX12_back : ByteArray := prog_14_method_83_code
def yX12_back : MethodName := ⟨RX12, "back", "()I"⟩
abbrev cX12_isBody : ByteArray := prog_14_method_84_code
def yX12_isBody : MethodName := ⟨RX12, "isBody", "(I)Z"⟩
abbrev cX12_kindOf : ByteArray := prog_14_method_85_code
def yX12_kindOf : MethodName := ⟨RX12, "kindOf", "(I)I"⟩
abbrev cX12_body : ByteArray := prog_14_method_86_code
def yX12_body : MethodName := ⟨RX12, "body", "(I)I"⟩
abbrev cX12_above : ByteArray := prog_14_method_87_code
def yX12_above : MethodName := ⟨RX12, "above", "(I)I"⟩
abbrev cX12_begins : ByteArray := prog_14_method_88_code
def yX12_begins : MethodName := ⟨RX12, "begins", "(I)V"⟩
abbrev cX12_hidesAs : ByteArray := prog_14_method_89_code
def yX12_hidesAs : MethodName := ⟨RX12, "hidesAs", "(II)I"⟩
abbrev cX12_looksAs : ByteArray := prog_14_method_90_code
def yX12_looksAs : MethodName := ⟨RX12, "looksAs", "(II)I"⟩
abbrev cX12_goesAs : ByteArray := prog_14_method_91_code
def yX12_goesAs : MethodName := ⟨RX12, "goesAs", "(II)I"⟩
abbrev cX12_tellsAs : ByteArray := prog_14_method_92_code
def yX12_tellsAs : MethodName := ⟨RX12, "tellsAs", "(II)I"⟩
abbrev cX12_act : ByteArray := prog_14_method_93_code
def yX12_act : MethodName := ⟨RX12, "act", "(III)I"⟩
abbrev cX12_trace : ByteArray := prog_14_method_94_code
def yX12_trace : MethodName := ⟨RX12, "trace", "(I)I"⟩
abbrev cX12_isShelf : ByteArray := prog_14_method_95_code
def yX12_isShelf : MethodName := ⟨RX12, "isShelf", "(I)Z"⟩
abbrev cX12_keep : ByteArray := prog_14_method_96_code
def yX12_keep : MethodName := ⟨RX12, "keep", "(II)I"⟩
abbrev cX12_row : ByteArray := prog_14_method_97_code
def yX12_row : MethodName := ⟨RX12, "row", "(III)I"⟩
abbrev cX12_refusal : ByteArray := prog_14_method_98_code
def yX12_refusal : MethodName := ⟨RX12, "refusal", "(II)I"⟩
abbrev cX12_asSort : ByteArray := prog_14_method_99_code
def yX12_asSort : MethodName := ⟨RX12, "asSort", "(IJ)J"⟩
abbrev cX12_put : ByteArray := prog_14_method_100_code
def yX12_put : MethodName := ⟨RX12, "put", "(IIJ)I"⟩
abbrev cX12_element : ByteArray := prog_14_method_101_code
def yX12_element : MethodName := ⟨RX12, "element", "(II)J"⟩
abbrev cX12_shift : ByteArray := prog_14_method_102_code
def yX12_shift : MethodName := ⟨RX12, "shift", "(IIIII)I"⟩
abbrev cX12_taken : ByteArray := prog_14_method_103_code
def yX12_taken : MethodName := ⟨RX12, "taken", "(II)I"⟩
abbrev cX12_count : ByteArray := prog_14_method_104_code
def yX12_count : MethodName := ⟨RX12, "count", "(I)I"⟩
def RJ6 : String := "java/lang/Integer"
def TJ6 : u_T := fun k => match k with
  | _ => ("", "", "", false)
def tyJ6 : Nat → FieldType := fun k => match k with
  | _ => .int
theorem nmJ6 : ∀ a, a < 0 → ∀ b, b < 0 → a ≠ b → (TJ6 a).2.1 ≠ (TJ6 b).2.1 := by decide +kernel
theorem tyJ6_ok : ∀ k, k < 0 → parseFieldDescriptor (TJ6 k).2.2.1 = some (tyJ6 k) := by decide +kernel
abbrev cJ6_bitCount_0f7a4 : ByteArray := prog_15_method_49_code
def yJ6_bitCount_0f7a4 : MethodName := ⟨RJ6, "bitCount", "(I)I"⟩
def RJ9 : String := "java/lang/Math"
def TJ9 : u_T := fun k => match k with
  | _ => ("", "", "", false)
def tyJ9 : Nat → FieldType := fun k => match k with
  | _ => .int
theorem nmJ9 : ∀ a, a < 0 → ∀ b, b < 0 → a ≠ b → (TJ9 a).2.1 ≠ (TJ9 b).2.1 := by decide +kernel
theorem tyJ9_ok : ∀ k, k < 0 → parseFieldDescriptor (TJ9 k).2.2.1 = some (tyJ9 k) := by decide +kernel
abbrev cJ9_max_7cf53 : ByteArray := prog_16_method_65_code
def yJ9_max_7cf53 : MethodName := ⟨RJ9, "max", "(II)I"⟩
abbrev cJ9_min_7cf53 : ByteArray := prog_16_method_69_code
def yJ9_min_7cf53 : MethodName := ⟨RJ9, "min", "(II)I"⟩
def RJ10 : String := "java/lang/System"
def TJ10 : u_T := fun k => match k with
  | _ => ("", "", "", false)
def tyJ10 : Nat → FieldType := fun k => match k with
  | _ => .int
theorem nmJ10 : ∀ a, a < 0 → ∀ b, b < 0 → a ≠ b → (TJ10 a).2.1 ≠ (TJ10 b).2.1 := by decide +kernel
theorem tyJ10_ok : ∀ k, k < 0 → parseFieldDescriptor (TJ10 k).2.2.1 = some (tyJ10 k) := by decide +kernel
def RL : String := "FoxHolesLaw"
abbrev cL_law : ByteArray := code
def yL_law : MethodName := ⟨RL, "law", "([I)Z"⟩
theorem inX0 : ∀ w ∈ u_ws RX0 TX0 4, w ∈ lw_g := mem_g [424, 426, 428, 430] (by decide +kernel) (by decide +kernel)
theorem inX1 : ∀ w ∈ u_ws RX1 TX1 14, w ∈ lw_g := mem_g [331, 333, 335, 337, 339, 341, 343, 345, 347, 349, 351, 353, 355, 357] (by decide +kernel) (by decide +kernel)
theorem inX2 : ∀ w ∈ u_ws RX2 TX2 7, w ∈ lw_g := mem_g [231, 233, 235, 237, 239, 241, 243] (by decide +kernel) (by decide +kernel)
theorem inX3 : ∀ w ∈ u_ws RX3 TX3 8, w ∈ lw_g := mem_g [395, 397, 399, 401, 403, 405, 407, 409] (by decide +kernel) (by decide +kernel)
theorem inX4 : ∀ w ∈ u_ws RX4 TX4 2, w ∈ lw_g := mem_g [370, 372] (by decide +kernel) (by decide +kernel)
theorem inX5 : ∀ w ∈ u_ws RX5 TX5 1, w ∈ lw_g := mem_g [306] (by decide +kernel) (by decide +kernel)
theorem inX6 : ∀ w ∈ u_ws RX6 TX6 11, w ∈ lw_g := mem_g [276, 278, 280, 282, 284, 286, 288, 290, 292, 294, 296] (by decide +kernel) (by decide +kernel)
theorem inX7 : ∀ w ∈ u_ws RX7 TX7 10, w ∈ lw_g := mem_g [144, 146, 148, 150, 152, 154, 156, 158, 160, 162] (by decide +kernel) (by decide +kernel)
theorem inX8 : ∀ w ∈ u_ws RX8 TX8 2, w ∈ lw_g := mem_g [254, 256] (by decide +kernel) (by decide +kernel)
theorem inX9 : ∀ w ∈ u_ws RX9 TX9 5, w ∈ lw_g := mem_g [449, 451, 453, 455, 457] (by decide +kernel) (by decide +kernel)
theorem inX10 : ∀ w ∈ u_ws RX10 TX10 11, w ∈ lw_g := mem_g [194, 196, 198, 200, 202, 204, 206, 208, 210, 212, 214] (by decide +kernel) (by decide +kernel)
theorem inX11 : ∀ w ∈ u_ws RX11 TX11 13, w ∈ lw_g := mem_g [473, 475, 477, 479, 481, 483, 485, 487, 489, 491, 493, 495, 497] (by decide +kernel) (by decide +kernel)
theorem inX12 : ∀ w ∈ u_ws RX12 TX12 50, w ∈ lw_g := mem_g [1316, 1318, 1320, 1322, 1324, 1326, 1328, 1330, 1332, 1334, 1336, 1338, 1340, 1342, 1344, 1346, 1348, 1350, 1352, 1354, 1356, 1358, 1360, 1362, 1364, 1366, 1368, 1370, 1372, 1374, 1376, 1378, 1380, 1382, 1384, 1386, 1388, 1390, 1392, 1394, 1396, 1398, 1400, 1402, 1404, 1406, 1408, 1410, 1412, 1414] (by decide +kernel) (by decide +kernel)
abbrev cls : List vw_C := [(RX0, TX0, 4), (RX1, TX1, 14), (RX2, TX2, 7), (RX3, TX3, 8), (RX4, TX4, 2), (RX5, TX5, 1), (RX6, TX6, 11), (RX7, TX7, 10), (RX8, TX8, 2), (RX9, TX9, 5), (RX10, TX10, 11), (RX11, TX11, 13), (RX12, TX12, 50)]
end
section
def va_AOA (ty : FieldType) (U : State) : Prop := (Cond.arrayOver (.array ty)).before #[] U = true
theorem va_AOA.use {ty : FieldType} {A : Array Value} {U : State} (h : va_AOA ty U) : (Cond.arrayOver (.array ty)).before A U = true := h
/-! ===== BEGIN new T[n][m]: the outer array a place, the inner ones among the pooled ===== -/
/-- f, but v at every address of l -/
def vr_up {α : Type} (f : Nat → α) (l : List Nat) (v : α) : Nat → α := fun a => if a ∈ l then v else f a
theorem vr_up_in {α : Type} {f : Nat → α} {l : List Nat} {v : α} {a : Nat} (h : a ∈ l) : vr_up f l v a = v := if_pos h
theorem vr_up_ne {α : Type} {f : Nat → α} {l : List Nat} {v : α} {a : Nat} (h : a ∉ l) : vr_up f l v a = f a := if_neg h
theorem vr_rows {L l : List Nat} {f : Nat → va_E} {e : va_E} (h : ∀ a, a ∈ l → a ∉ L) : va_pl L f ++ l.map (fun a => (a, e)) = va_pl (L ++ l) (vr_up f l e) := by
  unfold va_pl
  rw [List.map_append]
  congr 1
  · apply List.map_congr_left
    intro a ha
    rw [vr_up_ne (fun q => h a q ha)]
  · apply List.map_congr_left
    intro a ha
    rw [vr_up_in ha]
theorem vr_lay {X rows : va_W} {x : Nat × va_E} {pl : va_W} {D : va_G} {cl : List vw_C} {H : Heap} (hP : va_P D cl (((X ++ pl) ++ [x]) ++ rows) H) : va_P D cl ((X ++ [x]) ++ (pl ++ rows)) H := by
  rw [List.append_assoc (X ++ pl)] at hP
  have h := va_P.swap hP
  rw [← List.append_assoc X] at h
  have h2 := va_P.swap h
  rw [List.append_assoc (X ++ [x])] at h2
  exact h2
theorem vr_layD {X rows : va_W} {x : Nat × va_E} {pl : va_W} {A : Nat → Prop} (hD : va_D A (((X ++ pl) ++ [x]) ++ rows)) : va_D A ((X ++ [x]) ++ (pl ++ rows)) := by
  rw [List.append_assoc (X ++ pl)] at hD
  have h := va_D.swap hD
  rw [← List.append_assoc X] at h
  have h2 := va_D.swap h
  rw [List.append_assoc (X ++ [x])] at h2
  exact h2
theorem vr_outer (c : ClassId) (N h0 : Nat) : ∀ i : Nat, Jvm.Free.Multi.outerC c N h0 i = arrV c N (fun j => va_rf (if j < i then some (h0 + 1 + j) else none))
  | 0 => by
    show ({ cls := c, slots := Array.replicate N .null, vm := .none } : Cell) = _
    rw [arrV_new]
    refine congrArg (arrV c N) (funext fun j => ?_)
    simp [va_rf]
  | i + 1 => by
    show (Jvm.Free.Multi.outerC c N h0 i).setSlot i (.ref (h0 + 1 + i)) = _
    rw [vr_outer c N h0 i, arrV_store]
    refine congrArg (arrV c N) (funext fun j => ?_)
    by_cases e : j = i
    · subst e
      simp [updV, va_rf]
    · by_cases h : j < i
      · simp [updV, e, h, Nat.lt_succ_of_lt h]
      · simp [updV, e, h, show ¬ j < i + 1 by omega]
section VGM
variable {p : Program} {l : Launch} {e : Env} {R : Room} {s : State} {m : MethodId} {args : Array Value} {below : List Frame} {meth : Method} {c : Code} {H : Heap} {locs : List Loc} {cells slots : Nat} {Q : State → Prop}
variable {cc : ByteArray} {pc : Nat} {ls : Array Slot} {rest : List Value} {D : va_G} {cl : List vw_C} {A : Nat → Prop} {a : Nat} {tys : List (ClassId × FieldType)} {ws : va_W} {H0 : Heap}
theorem va_mna {X : va_W} {L : List Nat} {f : Nat → va_E} {cc : ByteArray} (hexec : p.tables.exec = Jvm.exec) (hb : c.code = cc) {own : String} {index : Nat} {ty : FieldType} {cy : ClassId} (hown : s.vm.findClass own = some m.cls) (hclink : (Cond.classLink own index ("[" ++ (FieldType.array ty).toString)).before args s = true) (hover : va_AOA ty s) (harr : (Cond.arrayClass ty).before args s = true) (hcy : s.vm.findClass (FieldType.array ty).toString = some cy)
    (hK : va_K D cl tys s) (hP : va_P D cl (X ++ va_pl L f) H) (hD : va_D A (X ++ va_pl L f)) (hS : va_S A H0 H locs) (hA : ∀ q, H0.size ≤ q → A q) {n k : Int32} {N' K' : Nat} {z : vp_A} (hn : ¬ n < 0) (hk : ¬ k < 0) (hN : n.toNatClampNeg = N') (hM : k.toNatClampNeg = K')
    (hb1 : N' * 4 ≤ 536870912) (hb2 : K' * componentBytes ty ≤ 536870912) (hb3 : K' ≤ 536870912) (hdf : fits ty (defaultValue ty) = true) (hdd : (defaultValue ty).isDefault = true) (hcells : cells + (1 + N') ≤ R.cells) (hslots : slots + (N' + N' * K') ≤ R.slots) (hz : ∀ c : ClassId, Jvm.Free.Multi.innerC c K' (defaultValue ty) = vp_cell c z) (hdg : decode cc pc = .ok (.multianewarray index 2, 4))
    (kk : ∀ (q : Nat) (r : Nat → Nat) (cA : ClassId) (H1 : Heap), (∀ i j : Nat, i < N' → j < N' → r i = r j → i = j) → (∀ i : Nat, i < N' → r i ∉ L) → va_K D cl (tys ++ [(cA, .array ty)]) s →
      va_P D cl ((X ++ [(q, .inl (cA, N', .inr (.inr (.inr (.inr (fun i => if i < N' then some (r i) else none))))))]) ++ va_pl (L ++ (List.range N').map r) (vr_up f ((List.range N').map r) (.inl (cy, z)))) H1 → va_D A ((X ++ [(q, .inl (cA, N', .inr (.inr (.inr (.inr (fun i => if i < N' then some (r i) else none))))))]) ++ va_pl (L ++ (List.range N').map r) (vr_up f ((List.range N').map r) (.inl (cy, z)))) → va_S A H0 H1 locs →
      W p l e R s m args below meth c H1 locs (cells + 1 + N') (slots + N' + N' * K') Q (F0 m (pc + 4) ls (.ref q :: rest))) : W p l e R s m args below meth c H locs cells slots Q (F0 m pc ls (.int k :: .int n :: rest)) := by
  subst hN
  subst hM
  intro T hT Xs
  obtain ⟨vm₁, cA, comp, -, fA, fC, hO, -, X', step⟩ := Xs.multianewarray2F hexec hown hclink (va_AOA.use hover) harr (g := F0 m pc ls (.int k :: .int n :: rest)) rfl (by rw [hb]; exact hdg) rfl hn hk hb1 hb2 hb3 hdf hdd hcells hslots
  have ec : some cy = some comp := hcy.symm.trans fC
  cases ec
  generalize hF : Jvm.Free.Multi.fill (T.setVm vm₁) cA cy n.toNatClampNeg k.toNatClampNeg (defaultValue ty) n.toNatClampNeg = F at X' step
  have hTh : (T.setVm vm₁).heap = H := hT
  obtain ⟨f1, f2, -, -⟩ := Jvm.Free.Multi.fill_facts (T.setVm vm₁) cA cy n.toNatClampNeg k.toNatClampNeg (defaultValue ty) n.toNatClampNeg
  rw [hF, hTh] at f1 f2
  have hold : ∀ x : Nat, x < H.size → F.heap[x]? = H[x]? := fun x hx => by
    have := Jvm.Free.Multi.fill_old (T.setVm vm₁) cA cy n.toNatClampNeg k.toNatClampNeg (defaultValue ty) (a := x) (by rw [hTh]; exact hx) n.toNatClampNeg
    rw [hF, hTh] at this
    exact this
  have hrow : ∀ j : Nat, j < n.toNatClampNeg → F.heap[H.size + 1 + j]? = some (vp_cell cy z) := fun j hj => by
    have := Jvm.Free.Multi.fill_inner (T.setVm vm₁) cA cy n.toNatClampNeg k.toNatClampNeg (defaultValue ty) n.toNatClampNeg j hj
    rw [hF, hTh, hz] at this
    exact this
  have hout : Jvm.Free.Multi.outerC cA n.toNatClampNeg H.size n.toNatClampNeg = vp_cell cA (n.toNatClampNeg, .inr (.inr (.inr (.inr (fun i => if i < n.toNatClampNeg then some (H.size + 1 + i) else none))))) := by
    rw [vp_cell_q]
    exact vr_outer cA n.toNatClampNeg H.size n.toNatClampNeg
  rw [hout] at f2
  have hlt : ∀ a, a ∈ L → a < H.size := fun a ha => by
    obtain ⟨k9, hk9⟩ := va_pl_get (X := X) (f := f) ha
    exact (hP k9 _ hk9).lt
  have hnl : ∀ i : Nat, i < n.toNatClampNeg → H.size + 1 + i ∉ L := fun i _ h => by
    have := hlt _ h
    omega
  have hnm : ∀ a, a ∈ (List.range n.toNatClampNeg).map (fun i => H.size + 1 + i) → a ∉ L := fun a ha h => by
    obtain ⟨i, -, rfl⟩ := List.mem_map.mp ha
    have := hlt _ h
    omega
  have hP0 : va_P D cl (X ++ va_pl L f) F.heap := hP.kept (fun k9 x hx => hold x.1 ((hP k9 x hx).lt))
  have hP1 : va_P D cl ((X ++ va_pl L f) ++ [(H.size, .inl (cA, n.toNatClampNeg, .inr (.inr (.inr (.inr (fun i => if i < n.toNatClampNeg then some (H.size + 1 + i) else none))))))]) F.heap := hP0.app (fun k9 x hx => by
    have h0 : k9 < 1 := (List.getElem?_eq_some_iff.mp hx).1
    rw [show k9 = 0 by omega] at hx
    cases hx
    exact f2)
  have hP2 : va_P D cl (((X ++ va_pl L f) ++ [(H.size, .inl (cA, n.toNatClampNeg, .inr (.inr (.inr (.inr (fun i => if i < n.toNatClampNeg then some (H.size + 1 + i) else none))))))]) ++ ((List.range n.toNatClampNeg).map (fun i => H.size + 1 + i)).map (fun a => (a, .inl (cy, z)))) F.heap := hP1.app (fun k9 x hx => by
    obtain ⟨a, ha, rfl⟩ := List.mem_map.mp (List.mem_of_getElem? hx)
    obtain ⟨i, hi, rfl⟩ := List.mem_map.mp ha
    exact hrow i (List.mem_range.mp hi))
  have hD2 : va_D A (((X ++ va_pl L f) ++ [(H.size, .inl (cA, n.toNatClampNeg, .inr (.inr (.inr (.inr (fun i => if i < n.toNatClampNeg then some (H.size + 1 + i) else none))))))]) ++ ((List.range n.toNatClampNeg).map (fun i => H.size + 1 + i)).map (fun a => (a, .inl (cy, z)))) := by
    have hD1 := hD.push (e := .inl (cA, n.toNatClampNeg, .inr (.inr (.inr (.inr (fun i => if i < n.toNatClampNeg then some (H.size + 1 + i) else none)))))) hP rfl (hA _ hS.1)
    generalize hW1 : (X ++ va_pl L f) ++ [(H.size, .inl (cA, n.toNatClampNeg, .inr (.inr (.inr (.inr (fun i => if i < n.toNatClampNeg then some (H.size + 1 + i) else none))))))] = W1 at hD1 hP1 ⊢
    have hle : ∀ (k9 : Nat) (x : Nat × va_E), W1[k9]? = some x → x.1 ≤ H.size := fun k9 x hx => by
      rw [← hW1] at hx
      by_cases hl : k9 < (X ++ va_pl L f).length
      · rw [List.getElem?_append_left hl] at hx
        exact Nat.le_of_lt ((hP k9 x hx).lt)
      · rw [List.getElem?_append_right (by omega)] at hx
        have h0 : k9 - (X ++ va_pl L f).length < 1 := (List.getElem?_eq_some_iff.mp hx).1
        rw [show k9 - (X ++ va_pl L f).length = 0 by omega] at hx
        cases hx
        exact Nat.le_refl _
    have hr : ∀ (k9 : Nat) (x : Nat × va_E), (((List.range n.toNatClampNeg).map (fun i => H.size + 1 + i)).map (fun a => ((a, .inl (cy, z)) : Nat × va_E)))[k9]? = some x → x.1 = H.size + 1 + k9 := fun k9 x hx => by
      rw [List.getElem?_map, List.getElem?_map] at hx
      by_cases h9 : k9 < n.toNatClampNeg
      · rw [List.getElem?_range h9] at hx
        cases hx
        rfl
      · have hn0 : (List.range n.toNatClampNeg)[k9]? = none := List.getElem?_eq_none (by rw [List.length_range]; omega)
        rw [hn0] at hx
        cases hx
    refine ⟨fun i j x y hi hj hxy => ?_, fun k9 x hx => ?_⟩
    · by_cases h1 : i < W1.length <;> by_cases h2 : j < W1.length
      · rw [List.getElem?_append_left h1] at hi
        rw [List.getElem?_append_left h2] at hj
        exact hD1.1 i j x y hi hj hxy
      · rw [List.getElem?_append_left h1] at hi
        rw [List.getElem?_append_right (by omega)] at hj
        have := hle _ _ hi
        have := hr _ _ hj
        omega
      · rw [List.getElem?_append_right (by omega)] at hi
        rw [List.getElem?_append_left h2] at hj
        have := hle _ _ hj
        have := hr _ _ hi
        omega
      · rw [List.getElem?_append_right (by omega)] at hi hj
        have := hr _ _ hi
        have := hr _ _ hj
        omega
    · by_cases h1 : k9 < W1.length
      · rw [List.getElem?_append_left h1] at hx
        exact hD1.2 k9 x hx
      · rw [List.getElem?_append_right (by omega)] at hx
        have := hr _ _ hx
        exact hA _ (by have := hS.1; omega)
  have hAr : ArrOfT s cA (.array ty) := fun N9 z9 => by
    obtain ⟨-, k9, hk9, cm9, hkk9⟩ := (hO 0 0 0).1
    exact ⟨(fun q hq => by cases hq), k9, hk9, cm9, hkk9⟩
  have hK2 : va_K D cl (tys ++ [(cA, .array ty)]) s := ⟨hK.1, fun k9 x hx => by
    by_cases hl : k9 < tys.length
    · rw [List.getElem?_append_left hl] at hx
      exact hK.2 k9 x hx
    · rw [List.getElem?_append_right (by omega)] at hx
      have h0 : k9 - tys.length < 1 := (List.getElem?_eq_some_iff.mp hx).1
      rw [show k9 - tys.length = 0 by omega] at hx
      cases hx
      exact ⟨hAr, fA⟩⟩
  obtain ⟨t, a1, b1⟩ := kk H.size (fun i => H.size + 1 + i) cA F.heap (fun i j _ _ h => by have h9 : H.size + 1 + i = H.size + 1 + j := h; omega) hnl hK2 (by rw [← vr_rows hnm]; exact vr_lay hP2) (by rw [← vr_rows hnm]; exact vr_layD hD2) ⟨by rw [f1]; have := hS.1; omega, fun x h1 h2 => (hold x (Nat.lt_of_lt_of_le h1 hS.1)).trans (hS.2.1 x h1 h2), hS.2.2⟩ F rfl X'
  refine ⟨t, step t ?_, b1⟩
  have e : T.heap.size = H.size := by rw [hT]
  rw [e]
  exact a1
end VGM
/-! ===== END ===== -/
end
section
/-! what every contract here shares: one list of words, one list of classes, one list of array classes -/
abbrev TY (cI cL cS : ClassId) : List (ClassId × FieldType) := [(cI, .int), (cL, .long), (cS, .object "FoxHoles$Shelf")]
abbrev wz (y : MethodName) (cc : ByteArray) (n : Nat) (r : Option FieldType) : List Cond := Cond.code y cc n r :: lw_g
/-- the classes' numbers and slots, the array classes -/
abbrev va_J9 : Type := va_G × ClassId × ClassId × ClassId
def KK (J : va_J9) (U : State) : Prop := va_K J.1 cls (TY J.2.1 J.2.2.1 J.2.2.2) U ∧ va_AO "FoxHoles$Shelf" U ∧ va_AOA .long U
theorem va_AOA.moved {ty : FieldType} {u U : State} (hvm : u.vm.Alike U.vm) (h : va_AOA ty u) : va_AOA ty U := Jvm.Stand.arrayOver_alikeB hvm h
theorem KK.moved {J : va_J9} {u U : State} (hvm : u.vm.Alike U.vm) (h : KK J u) : KK J U := ⟨va_K.moved hvm h.1, va_AO.moved hvm h.2.1, va_AOA.moved hvm h.2.2⟩
/-- a frame of method y: the machine, its code, the words -/
def EV (p : Program) (s : State) (m : MethodId) (meth : Method) (c : Code) (args : Array Value) (y : MethodName) (cc : ByteArray) (n : Nat) (r : Option FieldType) : Prop :=
  p.tables.exec = Jvm.exec ∧ c.code = cc ∧ meth.sig.returnType = r ∧ c.maxLocals = n ∧ s.vm.findClass y.cls = some m.cls ∧ (∀ w ∈ lw_g, w.before args s = true) ∧ meth.locks = false ∧ meth.name = y.name
/-- a contract that leaves the heap as it is -/
def RC (l : Launch) (J : va_J9) (y : MethodName) (cc : ByteArray) (n : Nat) (r : Option FieldType) (rm : Room) (av : List Value) (ws : va_W) (Qc : Array Value → State → Outcome → State → Prop) : Prop :=
  Met l y (wz y cc n r) rm (va_Pc av (fun U => va_P J.1 cls ws U.heap ∧ KK J U)) Qc 0 0 (fun _ => False)
/-- one that writes its cells, and may make new ones -/
def WC (l : Launch) (J : va_J9) (y : MethodName) (cc : ByteArray) (n : Nat) (r : Option FieldType) (rm : Room) (av : List Value) (ws : va_W) (sz : Nat) (Qc : (Nat → Prop) → Array Value → State → Outcome → State → Prop) (mc ms : Nat) : Prop :=
  Met l y (wz y cc n r) rm (va_Pc av (fun U => U.heap.size = sz ∧ va_P J.1 cls ws U.heap ∧ KK J U ∧ va_D (fun _ => True) ws)) (Qc (va_A ws sz)) mc ms (va_A ws sz)
/-- its end: an int, a long, nothing; the cells behind it -/
def Qi {S : Type} (J : va_J9) (post : Int32 → S → Prop) (w' : S → va_W) (A : Nat → Prop) : Array Value → State → Outcome → State → Prop := va_Qi post (fun u t => va_P J.1 cls (w' u) t.heap ∧ va_D A (w' u)) A
def Ql {S : Type} (J : va_J9) (post : Int64 → S → Prop) (w' : S → va_W) (A : Nat → Prop) : Array Value → State → Outcome → State → Prop := va_Ql post (fun u t => va_P J.1 cls (w' u) t.heap ∧ va_D A (w' u)) A
def Qv {S : Type} (J : va_J9) (post : S → Prop) (w' : S → va_W) (A : Nat → Prop) : Array Value → State → Outcome → State → Prop := va_Qv post (fun u t => va_P J.1 cls (w' u) t.heap ∧ va_D A (w' u)) A
theorem rc_of {l : Launch} {J : va_J9} {y : MethodName} {cc : ByteArray} {n : Nat} {r : Option FieldType} {rm : Room} {av : List Value} {ws : va_W} {Qc : Array Value → State → Outcome → State → Prop} (hy : plainName y.cls = true) (hlen : (lg_sl av).length ≤ n)
    (body : ∀ (p : Program) (e : Env) (s : State) (m : MethodId) (below : List Frame) (meth : Method) (c : Code) (ls : Array Slot), EV p s m meth c av.toArray y cc n r → lv_has ls n (lv_args 0 av) → va_P J.1 cls ws s.heap → KK J s →
      W p l e rm s m av.toArray below meth c s.heap [] 0 0 (MQ below Qc av.toArray s 0 0 (fun _ => False)) (F0 m 0 ls [])) : RC l J y cc n r rm av ws Qc := by
  refine Met.ofW (cc := cc) (maxL := n) (ret := r) hy rfl ?_
  intro p e s m args below meth c s₁ B hml hv
  obtain ⟨rfl, hP, hK⟩ := hv
  have hts := atoms_spec (ws := wz y cc n r) B.pre
  have hl := lv_entry av (n := n) hlen
  rw [lg_entry_eq]
  exact body p e s m below meth c _ ⟨B.exec, B.bytes, B.returns, hml, findClass_of_methodNamed B.named, fun w h => hts w (List.mem_cons_of_mem _ h), B.notSynchronized, (name_of_methodNamed B.named B.method).1⟩ hl hP hK
theorem wc_of {l : Launch} {J : va_J9} {y : MethodName} {cc : ByteArray} {n : Nat} {r : Option FieldType} {rm : Room} {av : List Value} {ws : va_W} {sz mc ms : Nat} {Qc : (Nat → Prop) → Array Value → State → Outcome → State → Prop} (hy : plainName y.cls = true) (hlen : (lg_sl av).length ≤ n)
    (body : ∀ (p : Program) (e : Env) (s : State) (m : MethodId) (below : List Frame) (meth : Method) (c : Code) (ls : Array Slot) (A : Nat → Prop), EV p s m meth c av.toArray y cc n r → lv_has ls n (lv_args 0 av) → va_P J.1 cls ws s.heap → KK J s → va_D A ws → va_S A s.heap s.heap [] → (∀ q, s.heap.size ≤ q → A q) →
      W p l e rm s m av.toArray below meth c s.heap [] 0 0 (MQ below (Qc A) av.toArray s mc ms A) (F0 m 0 ls [])) : WC l J y cc n r rm av ws sz Qc mc ms := by
  refine Met.ofW (cc := cc) (maxL := n) (ret := r) hy rfl ?_
  intro p e s m args below meth c s₁ B hml hv
  obtain ⟨rfl, hsz, hP, hK, hD⟩ := hv
  subst hsz
  have hts := atoms_spec (ws := wz y cc n r) B.pre
  have hl := lv_entry av (n := n) hlen
  rw [lg_entry_eq]
  exact body p e s m below meth c _ (va_A ws s.heap.size) ⟨B.exec, B.bytes, B.returns, hml, findClass_of_methodNamed B.named, fun w h => hts w (List.mem_cons_of_mem _ h), B.notSynchronized, (name_of_methodNamed B.named B.method).1⟩ hl hP hK hD.self va_S.rf (fun q h => Or.inr h)
section RT
variable {p : Program} {l : Launch} {e : Env} {R : Room} {s : State} {m : MethodId} {args : Array Value} {below : List Frame} {meth : Method} {c : Code} {H : Heap} {locs : List Loc} {cells slots : Nat} {Q : State → Prop} {cc : ByteArray} {pc : Nat} {ls : Array Slot}
/-- the ends of a contract that reads -/
theorem rz_i {v E : Int32} (hx : p.tables.exec = Jvm.exec) (hb : c.code = cc) (hr : meth.sig.returnType = some .int) (hlk : meth.locks = false) (h : v = E) (hdg : decode cc pc = .ok (.ireturn, 1)) :
    W p l e R s m args below meth c s.heap [] 0 0 (MQ below (vp_Si (fun r => r = E)) args s 0 0 (fun _ => False)) (F0 m pc ls [.int v]) :=
  W.iret hx hb hr (fun t ht _ => ⟨v, rfl, h, ht⟩) (fun _ h => by cases h) hdg hlk
theorem rz_z {v E : Int32} (hx : p.tables.exec = Jvm.exec) (hb : c.code = cc) (hr : meth.sig.returnType = some .boolean) (hlk : meth.locks = false) (hn : narrow .boolean (.int v) = .int v) (h : v = E) (hdg : decode cc pc = .ok (.ireturn, 1)) :
    W p l e R s m args below meth c s.heap [] 0 0 (MQ below (vp_Si (fun r => r = E)) args s 0 0 (fun _ => False)) (F0 m pc ls [.int v]) :=
  W.zret hx hb hr hn (fun t ht _ => ⟨v, rfl, h, ht⟩) (fun _ h => by cases h) hdg hlk
theorem rz_l {v E : Int64} (hx : p.tables.exec = Jvm.exec) (hb : c.code = cc) (hr : meth.sig.returnType = some .long) (hlk : meth.locks = false) (h : v = E) (hdg : decode cc pc = .ok (.lreturn, 1)) :
    W p l e R s m args below meth c s.heap [] 0 0 (MQ below (vp_Sl (fun r => r = E)) args s 0 0 (fun _ => False)) (F0 m pc ls [.long v]) :=
  W.lret hx hb hr (fun t ht _ => ⟨v, rfl, h, ht⟩) (fun _ h => by cases h) hdg hlk
theorem rz_a {o : Option Nat} {v : Value} {n : String} (hx : p.tables.exec = Jvm.exec) (hb : c.code = cc) (hr : meth.sig.returnType = some (.object n)) (hlk : meth.locks = false) (hv : v = .null ∨ ∃ a, v = .ref a) (h : v = va_rf o) (hdg : decode cc pc = .ok (.areturn, 1)) :
    W p l e R s m args below meth c s.heap [] 0 0 (MQ below (va_Sq (fun r => r = o)) args s 0 0 (fun _ => False)) (F0 m pc ls [v]) :=
  W.aret hx hb hr (Or.inl ⟨n, rfl⟩) hv (fun t ht _ => ⟨o, by rw [h], rfl, ht⟩) (fun _ h => by cases h) hdg hlk
theorem rz_v (hx : p.tables.exec = Jvm.exec) (hb : c.code = cc) (hr : meth.sig.returnType = none) (hlk : meth.locks = false) (hdg : decode cc pc = .ok (.return_, 1)) :
    W p l e R s m args below meth c s.heap [] 0 0 (MQ below (va_Sv (fun _ => True)) args s 0 0 (fun _ => False)) (F0 m pc ls []) :=
  W.vret hx hb hr (fun t ht _ => ⟨rfl, trivial, ht⟩) (fun _ h => by cases h) hdg hlk
/-- and of one that writes -/
theorem wz_i {S : Type} {J : va_J9} {post : Int32 → S → Prop} {w' : S → va_W} {A : Nat → Prop} {v : Int32} (u : S) (hx : p.tables.exec = Jvm.exec) (hb : c.code = cc) (hr : meth.sig.returnType = some .int) (hlk : meth.locks = false) (h : post v u) (hP : va_P J.1 cls (w' u) H) (hD : va_D A (w' u)) (hS : va_S A s.heap H locs) (hdg : decode cc pc = .ok (.ireturn, 1)) :
    W p l e R s m args below meth c H locs cells slots (MQ below (Qi J post w' A) args s cells slots A) (F0 m pc ls [.int v]) :=
  W.iret hx hb hr (fun t ht _ => ⟨⟨v, u, rfl, h, by rw [ht]; exact hP, hD⟩, hS.F ht⟩) hS.2.2 hdg hlk
theorem wz_z {S : Type} {J : va_J9} {post : Int32 → S → Prop} {w' : S → va_W} {A : Nat → Prop} {v : Int32} (u : S) (hx : p.tables.exec = Jvm.exec) (hb : c.code = cc) (hr : meth.sig.returnType = some .boolean) (hlk : meth.locks = false) (hn : narrow .boolean (.int v) = .int v) (h : post v u) (hP : va_P J.1 cls (w' u) H) (hD : va_D A (w' u)) (hS : va_S A s.heap H locs) (hdg : decode cc pc = .ok (.ireturn, 1)) :
    W p l e R s m args below meth c H locs cells slots (MQ below (Qi J post w' A) args s cells slots A) (F0 m pc ls [.int v]) :=
  W.zret hx hb hr hn (fun t ht _ => ⟨⟨v, u, rfl, h, by rw [ht]; exact hP, hD⟩, hS.F ht⟩) hS.2.2 hdg hlk
theorem wz_l {S : Type} {J : va_J9} {post : Int64 → S → Prop} {w' : S → va_W} {A : Nat → Prop} {v : Int64} (u : S) (hx : p.tables.exec = Jvm.exec) (hb : c.code = cc) (hr : meth.sig.returnType = some .long) (hlk : meth.locks = false) (h : post v u) (hP : va_P J.1 cls (w' u) H) (hD : va_D A (w' u)) (hS : va_S A s.heap H locs) (hdg : decode cc pc = .ok (.lreturn, 1)) :
    W p l e R s m args below meth c H locs cells slots (MQ below (Ql J post w' A) args s cells slots A) (F0 m pc ls [.long v]) :=
  W.lret hx hb hr (fun t ht _ => ⟨⟨v, u, rfl, h, by rw [ht]; exact hP, hD⟩, hS.F ht⟩) hS.2.2 hdg hlk
theorem wz_v {S : Type} {J : va_J9} {post : S → Prop} {w' : S → va_W} {A : Nat → Prop} (u : S) (hx : p.tables.exec = Jvm.exec) (hb : c.code = cc) (hr : meth.sig.returnType = none) (hlk : meth.locks = false) (h : post u) (hP : va_P J.1 cls (w' u) H) (hD : va_D A (w' u)) (hS : va_S A s.heap H locs) (hdg : decode cc pc = .ok (.return_, 1)) :
    W p l e R s m args below meth c H locs cells slots (MQ below (Qv J post w' A) args s cells slots A) (F0 m pc ls []) :=
  W.vret hx hb hr (fun t ht _ => ⟨⟨u, rfl, h, by rw [ht]; exact hP, hD⟩, hS.F ht⟩) hS.2.2 hdg hlk
end RT
end
section
/-! calls: the words of a call, the run by a contract, what goes on behind it -/
theorem gd_of {w : Cond} (h : w ∈ lw_g) : (w.onTables && w.keeps) = true ∨ ∃ ty, w = .arrayClass ty := good_of_word (List.mem_filter.mp h).2
theorem gd_wz {y : MethodName} {cc : ByteArray} {n : Nat} {r : Option FieldType} (h : Cond.code y cc n r ∈ lw_g) : GoodIn lw_g (wz y cc n r) := fun w hw => by
  have hm : w ∈ lw_g := (List.mem_cons.mp hw).elim (fun e => e ▸ h) id
  exact ⟨hm, gd_of hm⟩
theorem gd_app {a b : List Cond} (ha : ∀ w ∈ a, w ∈ lw_g) (hb : GoodIn lw_g b) : GoodIn lw_g (a ++ b) := fun w h => (List.mem_append.mp h).elim (fun h => ⟨ha w h, gd_of (ha w h)⟩) (hb w)
theorem gd_3 {x y z : Cond} (hx : x ∈ lw_g) (hy : y ∈ lw_g) (hz : z ∈ lw_g) : ∀ w ∈ [x, y, z], w ∈ lw_g := by
  intro w h
  rcases List.mem_cons.mp h with rfl | h
  · exact hx
  rcases List.mem_cons.mp h with rfl | h
  · exact hy
  rcases List.mem_cons.mp h with rfl | h
  · exact hz
  cases h
theorem gd_4 {x y z v : Cond} (hx : x ∈ lw_g) (hy : y ∈ lw_g) (hz : z ∈ lw_g) (hv : v ∈ lw_g) : ∀ w ∈ [x, y, z, v], w ∈ lw_g := fun w h => (List.mem_cons.mp h).elim (fun e => e ▸ hx) (gd_3 hy hz hv w)
/-- what a call by invokevirtual, invokestatic, invokespecial needs of the words -/
def CV (own : String) (index : Nat) (C : String) (y : MethodName) (bytes : ByteArray) (maxL : Nat) (ret : Option FieldType) (n : Nat) : Prop := GoodIn lw_g (wsV own index C y (wz y bytes maxL ret)) ∧ (y.cls = C ∧ y.cls ≠ "java/lang/invoke/MethodHandle" ∧ y.cls ≠ "java/lang/invoke/VarHandle" ∧ (parseMethodDescriptor y.desc).map (fun d => d.parameters.length) = some n)
def CS (own : String) (index : Nat) (y : MethodName) (bytes : ByteArray) (maxL : Nat) (ret : Option FieldType) (n : Nat) : Prop := GoodIn lw_g (va_wsS own index y (wz y bytes maxL ret)) ∧ (y.cls ≠ "java/lang/invoke/MethodHandle" ∧ y.cls ≠ "java/lang/invoke/VarHandle" ∧ (parseMethodDescriptor y.desc).map (fun d => d.parameters.length) = some n)
def CN (own : String) (index : Nat) (y : MethodName) (bytes : ByteArray) (maxL : Nat) (n : Nat) : Prop := GoodIn lw_g (wz y bytes maxL none) ∧ Cond.initialized y.cls ∈ lw_g ∧ Cond.methodLink own index y ∈ lw_g ∧ Cond.instanceMethod y ∈ lw_g ∧ y.name = "<init>" ∧ (y.cls ≠ "java/lang/invoke/MethodHandle" ∧ y.cls ≠ "java/lang/invoke/VarHandle" ∧ (parseMethodDescriptor y.desc).map (fun d => d.parameters.length) = some n)
theorem cv_of {own : String} {index : Nat} {C : String} {y : MethodName} {bytes : ByteArray} {maxL : Nat} {ret : Option FieldType} {n : Nat} (q1 : Cond.methodLink own index y ∈ lw_g) (q2 : Cond.instanceMethod y ∈ lw_g) (q3 : Cond.selects C y y ∈ lw_g) (q4 : Cond.initialized C ∈ lw_g) (q5 : Cond.code y bytes maxL ret ∈ lw_g) (hd : y.cls = C ∧ y.cls ≠ "java/lang/invoke/MethodHandle" ∧ y.cls ≠ "java/lang/invoke/VarHandle" ∧ (parseMethodDescriptor y.desc).map (fun d => d.parameters.length) = some n) : CV own index C y bytes maxL ret n := ⟨gd_app (gd_4 q1 q2 q3 q4) (gd_wz q5), hd⟩
theorem cs_of {own : String} {index : Nat} {y : MethodName} {bytes : ByteArray} {maxL : Nat} {ret : Option FieldType} {n : Nat} (q1 : Cond.methodLink own index y ∈ lw_g) (q2 : Cond.static y ∈ lw_g) (q4 : Cond.initialized y.cls ∈ lw_g) (q5 : Cond.code y bytes maxL ret ∈ lw_g) (hd : y.cls ≠ "java/lang/invoke/MethodHandle" ∧ y.cls ≠ "java/lang/invoke/VarHandle" ∧ (parseMethodDescriptor y.desc).map (fun d => d.parameters.length) = some n) : CS own index y bytes maxL ret n := ⟨gd_app (gd_3 q1 q2 q4) (gd_wz q5), hd⟩
theorem cn_of {own : String} {index : Nat} {y : MethodName} {bytes : ByteArray} {maxL : Nat} {n : Nat} (q1 : Cond.methodLink own index y ∈ lw_g) (q2 : Cond.instanceMethod y ∈ lw_g) (q4 : Cond.initialized y.cls ∈ lw_g) (q5 : Cond.code y bytes maxL none ∈ lw_g) (hn : y.name = "<init>") (hd : y.cls ≠ "java/lang/invoke/MethodHandle" ∧ y.cls ≠ "java/lang/invoke/VarHandle" ∧ (parseMethodDescriptor y.desc).map (fun d => d.parameters.length) = some n) : CN own index y bytes maxL n := ⟨gd_wz q5, q4, q1, q2, hn, hd⟩
theorem fb_r {J : va_J9} {av : List Value} {ws : va_W} : FrameBlind (va_Pc av (fun U => va_P J.1 cls ws U.heap ∧ KK J U)) := fun a U g mk q => by
  obtain ⟨q0, qP, qK⟩ := q
  exact ⟨q0, qP, KK.moved (u := U) (U := U.calling g mk a) (Vm.Alike.refl U.vm) qK⟩
theorem fb_w {J : va_J9} {av : List Value} {ws : va_W} {sz : Nat} : FrameBlind (va_Pc av (fun U => U.heap.size = sz ∧ va_P J.1 cls ws U.heap ∧ KK J U ∧ va_D (fun _ => True) ws)) := fun a U g mk q => by
  obtain ⟨q0, q1, qP, qK, qD⟩ := q
  exact ⟨q0, q1, qP, KK.moved (u := U) (U := U.calling g mk a) (Vm.Alike.refl U.vm) qK, qD⟩
section CL
variable {p : Program} {l : Launch} {e : Env} {R : Room} {s : State} {m : MethodId} {args : Array Value} {below : List Frame} {meth : Method} {c : Code} {H H0 : Heap} {locs : List Loc} {cells slots : Nat} {Q : State → Prop} {cc : ByteArray} {pc : Nat} {ls : Array Slot}
  {J : va_J9} {own C : String} {index n nL : Nat} {y : MethodName} {bytes : ByteArray} {maxL : Nat} {ret : Option FieldType} {rm : Room} {Qc : Array Value → State → Outcome → State → Prop} {Qw : (Nat → Prop) → Array Value → State → Outcome → State → Prop} {As rest st0 : List Value} {b : Nat} {wc wr ws : va_W} {A : Nat → Prop} {mc ms : Nat}
/-- a reading contract, called -/
theorem rn_V (hx : p.tables.exec = Jvm.exec) (hb : c.code = cc) (hml : c.maxLocals = nL) (hown : s.vm.findClass own = some m.cls) (hts : ∀ w ∈ lw_g, w.before args s = true) (hK : KK J s) (hM : RC l J y bytes maxL ret rm (.ref b :: As) wc Qc) (k : CV own index C y bytes maxL ret n)
    (hP : va_P J.1 cls wc H) {ci : Nat} {fs : List Value} {q : vw_C} (he : wc[0]? = some (b, .inr (ci, fs))) (hc : cls[ci]? = some q) (hq : q.1 = C) (hR : rm.frames + 1 ≤ R.frames ∧ 8 + (maxL + 11) + rm.locals ≤ R.locals) (hrc : rm.cells = 0) (hrs : rm.slots = 0)
    (hn : As.length = n) (hl : ls.size = nL) (hst : st0 = As.reverse ++ .ref b :: rest) (hW : (rest.map fun v => v.category).sum ≤ 8) (hf : cells ≤ R.cells ∧ slots ≤ R.slots) (hdg : decode cc pc = .ok (.invokevirtual index, 3)) :
    CallRun p l e R s m args below meth c H locs cells slots 0 0 (F0 m pc ls st0) rest (Qc (Value.ref b :: As).toArray) (fun _ => False) := by
  subst hq
  exact W.runV (Ts := lw_g) (C := q.1) ⟨hx, hb, hml, hown, hts⟩ hM (cwV n hts k.1 rfl hrc hrs k.2 hR) ⟨fb_r, va_recv hK.1 hP hc he, fun U hU hW => ⟨rfl, by rw [hU]; exact hP, KK.moved hW.alike hK⟩⟩ rfl hn hl hst (lv_room hW) hdg hf
theorem rn_S (hx : p.tables.exec = Jvm.exec) (hb : c.code = cc) (hml : c.maxLocals = nL) (hown : s.vm.findClass own = some m.cls) (hts : ∀ w ∈ lw_g, w.before args s = true) (hK : KK J s) (hM : RC l J y bytes maxL ret rm As wc Qc) (k : CS own index y bytes maxL ret n)
    (hP : va_P J.1 cls wc H) (hR : rm.frames + 1 ≤ R.frames ∧ 8 + (maxL + 11) + rm.locals ≤ R.locals) (hrc : rm.cells = 0) (hrs : rm.slots = 0)
    (hn : As.length = n) (hl : ls.size = nL) (hst : st0 = As.reverse ++ rest) (hW : (rest.map fun v => v.category).sum ≤ 8) (hf : cells ≤ R.cells ∧ slots ≤ R.slots) (hdg : decode cc pc = .ok (.invokestatic index, 3)) :
    CallRun p l e R s m args below meth c H locs cells slots 0 0 (F0 m pc ls st0) rest (Qc As.toArray) (fun _ => False) :=
  W.runS (Ts := lw_g) ⟨hx, hb, hml, hown, hts⟩ hM (va_cwS n hts k.1 rfl hrc hrs k.2 hR) ⟨fb_r, fun U hU hW => ⟨rfl, by rw [hU]; exact hP, KK.moved hW.alike hK⟩⟩ rfl hn hl hst (lv_room hW) hdg hf
theorem go_i {E : Int32} {a : Array Value} (hr : CallRun p l e R s m args below meth c H locs cells slots 0 0 (F0 m pc ls st0) rest (vp_Si (fun r => r = E) a) (fun _ => False)) (kk : W p l e R s m args below meth c H locs cells slots Q (F0 m (pc + 3) ls (.int E :: rest))) : W p l e R s m args below meth c H locs cells slots Q (F0 m pc ls st0) := vp_callSi hr (fun r h => by rw [h]; exact kk)
theorem go_l {E : Int64} {a : Array Value} (hr : CallRun p l e R s m args below meth c H locs cells slots 0 0 (F0 m pc ls st0) rest (vp_Sl (fun r => r = E) a) (fun _ => False)) (kk : W p l e R s m args below meth c H locs cells slots Q (F0 m (pc + 3) ls (.long E :: rest))) : W p l e R s m args below meth c H locs cells slots Q (F0 m pc ls st0) := vp_callSl hr (fun r h => by rw [h]; exact kk)
theorem go_a {o : Option Nat} {a : Array Value} (hr : CallRun p l e R s m args below meth c H locs cells slots 0 0 (F0 m pc ls st0) rest (va_Sq (fun r => r = o) a) (fun _ => False)) (kk : W p l e R s m args below meth c H locs cells slots Q (F0 m (pc + 3) ls (va_rf o :: rest))) : W p l e R s m args below meth c H locs cells slots Q (F0 m pc ls st0) := va_csq hr (fun r h => by rw [h]; exact kk)
theorem go_v {a : Array Value} (hr : CallRun p l e R s m args below meth c H locs cells slots 0 0 (F0 m pc ls st0) rest (va_Sv (fun _ => True) a) (fun _ => False)) (kk : W p l e R s m args below meth c H locs cells slots Q (F0 m (pc + 3) ls rest)) : W p l e R s m args below meth c H locs cells slots Q (F0 m pc ls st0) := va_csv hr (fun _ => kk)
/-- a writing contract, called -/
theorem wn_V (hx : p.tables.exec = Jvm.exec) (hb : c.code = cc) (hml : c.maxLocals = nL) (hown : s.vm.findClass own = some m.cls) (hts : ∀ w ∈ lw_g, w.before args s = true) (hK : KK J s) (hM : WC l J y bytes maxL ret rm (.ref b :: As) wc H.size Qw mc ms) (k : CV own index C y bytes maxL ret n)
    (hP : va_P J.1 cls wc H) (hD : va_D (fun _ => True) wc) {ci : Nat} {fs : List Value} {q : vw_C} (he : wc[0]? = some (b, .inr (ci, fs))) (hc : cls[ci]? = some q) (hq : q.1 = C) (hR : rm.frames + 1 ≤ R.frames ∧ 8 + (maxL + 11) + rm.locals ≤ R.locals) (hrc : rm.cells = mc) (hrs : rm.slots = ms)
    (hn : As.length = n) (hl : ls.size = nL) (hst : st0 = As.reverse ++ .ref b :: rest) (hW : (rest.map fun v => v.category).sum ≤ 8) (hf : cells + mc ≤ R.cells ∧ slots + ms ≤ R.slots) (hdg : decode cc pc = .ok (.invokevirtual index, 3)) :
    va_Run p l e R s m args below meth c H locs cells slots mc ms (F0 m pc ls st0) rest (Qw (va_A wc H.size) (Value.ref b :: As).toArray) (va_A wc H.size) := by
  subst hq
  exact va_runV (Ts := lw_g) (C := q.1) ⟨hx, hb, hml, hown, hts⟩ hM (cwV n hts k.1 rfl hrc hrs k.2 hR) ⟨fb_w, va_recv hK.1 hP hc he, fun U hU hW => ⟨rfl, by rw [hU], by rw [hU]; exact hP, KK.moved hW.alike hK, hD⟩⟩ rfl hn hl hst (lv_room hW) hdg hf
theorem wn_I (hx : p.tables.exec = Jvm.exec) (hb : c.code = cc) (hml : c.maxLocals = nL) (hown : s.vm.findClass own = some m.cls) (hts : ∀ w ∈ lw_g, w.before args s = true) (hK : KK J s) (hM : WC l J y bytes maxL none rm (.ref b :: As) wc H.size Qw mc ms) (k : CN own index y bytes maxL n)
    (hP : va_P J.1 cls wc H) (hD : va_D (fun _ => True) wc) (hR : rm.frames + 1 ≤ R.frames ∧ 8 + (maxL + 11) + rm.locals ≤ R.locals) (hrc : rm.cells = mc) (hrs : rm.slots = ms)
    (hn : As.length = n) (hl : ls.size = nL) (hst : st0 = As.reverse ++ .ref b :: rest) (hW : (rest.map fun v => v.category).sum ≤ 8) (hf : cells + mc ≤ R.cells ∧ slots + ms ≤ R.slots) (hdg : decode cc pc = .ok (.invokespecial index, 3)) :
    va_Run p l e R s m args below meth c H locs cells slots mc ms (F0 m pc ls st0) rest (Qw (va_A wc H.size) (Value.ref b :: As).toArray) (va_A wc H.size) :=
  va_runI (Ts := lw_g) ⟨hx, hb, hml, hown, hts⟩ hM (cwI n hts k.1 rfl hrc hrs (hts _ k.2.1) (hts _ k.2.2.1) (hts _ k.2.2.2.1) k.2.2.2.2.1 k.2.2.2.2.2 hR) ⟨fb_w, fun U hU hW => ⟨rfl, by rw [hU], by rw [hU]; exact hP, KK.moved hW.alike hK, hD⟩⟩ rfl hn hl hst (lv_room hW) hdg hf
/-- behind a writing contract: its cells as they are now, the rest as it was -/
theorem gw_i {S : Type} {post : Int32 → S → Prop} {w' : S → va_W} {a : Array Value} (hP : va_P J.1 cls ws H) (hD : va_D A ws) (hS : va_S A H0 H locs) (hA : ∀ q, H0.size ≤ q → A q) (isC isR : List Nat) (hC : isC.map (fun i => ws[i]?) = wc.map some) (hR : isR.map (fun i => ws[i]?) = wr.map some) (hn : va_nd isR = true) (hdis : ∀ i ∈ isR, i ∉ isC)
    (hr : va_Run p l e R s m args below meth c H locs cells slots mc ms (F0 m pc ls st0) rest (Qi J post w' (va_A wc H.size) a) (va_A wc H.size))
    (kk : ∀ (r : Int32) (u : S) (H1 : Heap) (locs1 : List Loc), post r u → va_P J.1 cls (wr ++ w' u) H1 → va_D A (wr ++ w' u) → va_S A H0 H1 locs1 → W p l e R s m args below meth c H1 locs1 (cells + mc) (slots + ms) Q (F0 m (pc + 3) ls (.int r :: rest))) : W p l e R s m args below meth c H locs cells slots Q (F0 m pc ls st0) := by
  have hF := va_free hD hS hA isC hC
  refine va_calli hr hS (fun q _ h => hF q h) hF (fun r u t H1 locs1 ht hvm hw hB hz hk hS1 => ?_)
  rw [ht] at hB
  obtain ⟨hP1, hD1⟩ := va_join hP hD isC isR hC hR hn hdis hk hF hB.1 hB.2
  exact kk r u H1 locs1 hw hP1 hD1 hS1
theorem gw_l {S : Type} {post : Int64 → S → Prop} {w' : S → va_W} {a : Array Value} (hP : va_P J.1 cls ws H) (hD : va_D A ws) (hS : va_S A H0 H locs) (hA : ∀ q, H0.size ≤ q → A q) (isC isR : List Nat) (hC : isC.map (fun i => ws[i]?) = wc.map some) (hR : isR.map (fun i => ws[i]?) = wr.map some) (hn : va_nd isR = true) (hdis : ∀ i ∈ isR, i ∉ isC)
    (hr : va_Run p l e R s m args below meth c H locs cells slots mc ms (F0 m pc ls st0) rest (Ql J post w' (va_A wc H.size) a) (va_A wc H.size))
    (kk : ∀ (r : Int64) (u : S) (H1 : Heap) (locs1 : List Loc), post r u → va_P J.1 cls (wr ++ w' u) H1 → va_D A (wr ++ w' u) → va_S A H0 H1 locs1 → W p l e R s m args below meth c H1 locs1 (cells + mc) (slots + ms) Q (F0 m (pc + 3) ls (.long r :: rest))) : W p l e R s m args below meth c H locs cells slots Q (F0 m pc ls st0) := by
  have hF := va_free hD hS hA isC hC
  refine va_calll hr hS (fun q _ h => hF q h) hF (fun r u t H1 locs1 ht hvm hw hB hz hk hS1 => ?_)
  rw [ht] at hB
  obtain ⟨hP1, hD1⟩ := va_join hP hD isC isR hC hR hn hdis hk hF hB.1 hB.2
  exact kk r u H1 locs1 hw hP1 hD1 hS1
theorem gw_v {S : Type} {post : S → Prop} {w' : S → va_W} {a : Array Value} (hP : va_P J.1 cls ws H) (hD : va_D A ws) (hS : va_S A H0 H locs) (hA : ∀ q, H0.size ≤ q → A q) (isC isR : List Nat) (hC : isC.map (fun i => ws[i]?) = wc.map some) (hR : isR.map (fun i => ws[i]?) = wr.map some) (hn : va_nd isR = true) (hdis : ∀ i ∈ isR, i ∉ isC)
    (hr : va_Run p l e R s m args below meth c H locs cells slots mc ms (F0 m pc ls st0) rest (Qv J post w' (va_A wc H.size) a) (va_A wc H.size))
    (kk : ∀ (u : S) (H1 : Heap) (locs1 : List Loc), post u → va_P J.1 cls (wr ++ w' u) H1 → va_D A (wr ++ w' u) → va_S A H0 H1 locs1 → W p l e R s m args below meth c H1 locs1 (cells + mc) (slots + ms) Q (F0 m (pc + 3) ls rest)) : W p l e R s m args below meth c H locs cells slots Q (F0 m pc ls st0) := by
  have hF := va_free hD hS hA isC hC
  refine va_callv hr hS (fun q _ h => hF q h) hF (fun u t H1 locs1 ht hvm hw hB hz hk hS1 => ?_)
  rw [ht] at hB
  obtain ⟨hP1, hD1⟩ := va_join hP hD isC isR hC hR hn hdis hk hF hB.1 hB.2
  exact kk u H1 locs1 hw hP1 hD1 hS1
/-- a new array of a known class -/
theorem na_i {a0 : vp_A} (hx : p.tables.exec = Jvm.exec) (hb : c.code = cc) (hts : ∀ w ∈ lw_g, w.before args s = true) (qa : Cond.arrayClass .int ∈ lw_g) (hK : KK J s) (hP : va_P J.1 cls ws H) (hD : va_D A ws) (hS : va_S A H0 H locs) (hA : ∀ q, H0.size ≤ q → A q) {k : Int32} {N' : Nat} (hn : ¬ k < 0) (hN : k.toNatClampNeg = N') (hbytes : N' * 4 ≤ 536870912) (hcells : cells + 1 ≤ R.cells) (hslots : slots + N' ≤ R.slots) (hdg : decode cc pc = .ok (.newarray .int, 2))
    (kk : ∀ (q : Nat) (H1 : Heap), va_P J.1 cls (ws ++ [(q, .inl (J.2.1, N', .inl (fun _ => 0)))]) H1 → va_D A (ws ++ [(q, .inl (J.2.1, N', .inl (fun _ => 0)))]) → va_S A H0 H1 locs → W p l e R s m args below meth c H1 locs (cells + 1) (slots + N') Q (F0 m (pc + 2) ls (.ref q :: rest))) : W p l e R s m args below meth c H locs cells slots Q (F0 m pc ls (.int k :: rest)) := by
  refine va_newa (atype := .int) (ty := .int) (a0 := (N', .inl (fun _ => 0))) hx hb (hts _ qa) rfl hK.1 hP hD hS hA (fun cA => by rw [vp_cell_i]; rfl) hn hN hbytes hcells hslots hdg (fun q cA H1 hK1 hP1 hD1 hS1 => ?_)
  have e1 := (hK1.2 3 _ rfl).2
  have e2 := (hK1.2 0 _ rfl).2
  have e : some cA = some J.2.1 := e1.symm.trans e2
  cases e
  exact kk q H1 hP1 hD1 hS1
theorem na_l {a0 : vp_A} (hx : p.tables.exec = Jvm.exec) (hb : c.code = cc) (hts : ∀ w ∈ lw_g, w.before args s = true) (qa : Cond.arrayClass .long ∈ lw_g) (hK : KK J s) (hP : va_P J.1 cls ws H) (hD : va_D A ws) (hS : va_S A H0 H locs) (hA : ∀ q, H0.size ≤ q → A q) {k : Int32} {N' : Nat} (hn : ¬ k < 0) (hN : k.toNatClampNeg = N') (hbytes : N' * 8 ≤ 536870912) (hcells : cells + 1 ≤ R.cells) (hslots : slots + N' ≤ R.slots) (hdg : decode cc pc = .ok (.newarray .long, 2))
    (kk : ∀ (q : Nat) (H1 : Heap), va_P J.1 cls (ws ++ [(q, .inl (J.2.2.1, N', .inr (.inl (fun _ => 0))))]) H1 → va_D A (ws ++ [(q, .inl (J.2.2.1, N', .inr (.inl (fun _ => 0))))]) → va_S A H0 H1 locs → W p l e R s m args below meth c H1 locs (cells + 1) (slots + N') Q (F0 m (pc + 2) ls (.ref q :: rest))) : W p l e R s m args below meth c H locs cells slots Q (F0 m pc ls (.int k :: rest)) := by
  refine va_newa (atype := .long) (ty := .long) (a0 := (N', .inr (.inl (fun _ => 0)))) hx hb (hts _ qa) rfl hK.1 hP hD hS hA (fun cA => by rw [vp_cell_l]; rfl) hn hN hbytes hcells hslots hdg (fun q cA H1 hK1 hP1 hD1 hS1 => ?_)
  have e1 := (hK1.2 3 _ rfl).2
  have e2 := (hK1.2 1 _ rfl).2
  have e : some cA = some J.2.2.1 := e1.symm.trans e2
  cases e
  exact kk q H1 hP1 hD1 hS1
end CL
end
section
/-! numbers: Java's ints by their integers -/
theorem i_lt {x y : Int32} {a b : Int} (hx : x.toInt = a) (hy : y.toInt = b) : x < y ↔ a < b := by rw [Int32.lt_iff_toInt_lt, hx, hy]
theorem i_le {x y : Int32} {a b : Int} (hx : x.toInt = a) (hy : y.toInt = b) : x ≤ y ↔ a ≤ b := by rw [Int32.le_iff_toInt_le, hx, hy]
theorem i_eq {x y : Int32} {a b : Int} (hx : x.toInt = a) (hy : y.toInt = b) : x = y ↔ a = b := by rw [← Int32.toInt_inj, hx, hy]
theorem l_lt {x y : Int64} {a b : Int} (hx : x.toInt = a) (hy : y.toInt = b) : x < y ↔ a < b := by rw [Int64.lt_iff_toInt_lt, hx, hy]
theorem l_le {x y : Int64} {a b : Int} (hx : x.toInt = a) (hy : y.toInt = b) : x ≤ y ↔ a ≤ b := by rw [Int64.le_iff_toInt_le, hx, hy]
theorem l_eq {x y : Int64} {a b : Int} (hx : x.toInt = a) (hy : y.toInt = b) : x = y ↔ a = b := by rw [← Int64.toInt_inj, hx, hy]
theorem i_rng (x : Int32) : -2147483648 ≤ x.toInt ∧ x.toInt ≤ 2147483647 := ⟨Int32.le_toInt x, by have := Int32.toInt_lt x; omega⟩
theorem bm32 {n : Int} (h1 : -2147483648 ≤ n) (h2 : n ≤ 2147483647) : n.bmod (2 ^ 32) = n := by
  rw [Int.bmod_def]; omega
theorem i_add {x y : Int32} {a b : Int} (hx : x.toInt = a) (hy : y.toInt = b) (h1 : -2147483648 ≤ a + b) (h2 : a + b ≤ 2147483647) : (x + y).toInt = a + b := by
  rw [Int32.toInt_add, hx, hy, bm32 h1 h2]
theorem i_sub {x y : Int32} {a b : Int} (hx : x.toInt = a) (hy : y.toInt = b) (h1 : -2147483648 ≤ a - b) (h2 : a - b ≤ 2147483647) : (x - y).toInt = a - b := by
  rw [Int32.toInt_sub, hx, hy, bm32 h1 h2]
theorem i_mul {x y : Int32} {a b : Int} (hx : x.toInt = a) (hy : y.toInt = b) (h1 : -2147483648 ≤ a * b) (h2 : a * b ≤ 2147483647) : (x * y).toInt = a * b := by
  rw [Int32.toInt_mul, hx, hy, bm32 h1 h2]
theorem i_div {x y : Int32} {a b : Int} (hx : x.toInt = a) (hy : y.toInt = b) (h0 : 0 ≤ a) (hb : 0 < b) : (x / y).toInt = a / b := by
  rw [Int32.toInt_div_of_ne_right _ _ (fun h => by subst h; simp at hy; omega), hx, hy, Int.tdiv_eq_ediv_of_nonneg h0]
theorem i_rem {x y : Int32} {a b : Int} (hx : x.toInt = a) (hy : y.toInt = b) (h0 : 0 ≤ a) (hb : 0 < b) : (x - x / y * y).toInt = a % b := by
  have hd := i_div hx hy h0 hb
  have hr := i_rng x
  have h1 : a / b * b ≤ a := Int.ediv_mul_le a (by omega)
  have h2 : 0 ≤ a / b * b := Int.mul_nonneg (Int.ediv_nonneg h0 (by omega)) (by omega)
  rw [hx] at hr
  have hm := i_mul hd hy (by omega) (by omega)
  rw [i_sub hx hm (by omega) (by omega), Int.emod_def, Int.mul_comm]
theorem i_wide {x : Int32} {a : Int} (hx : x.toInt = a) : x.toInt64.toInt = a := by rw [Int32.toInt_toInt64, hx]
theorem i_in {x : Int32} {a : Int} {n : Nat} (hx : x.toInt = a) (h1 : 0 ≤ a) (h2 : a < n) : vp_in x n := vp_in_iff.mpr ⟨by omega, by omega⟩
theorem i_cl {x : Int32} {n : Nat} (h : vp_in x n) : x.toNatClampNeg < n := Nat.not_le.mp (fun q => h (Or.inr q))
/-- an answer that is 1 or 0 -/
def B01 (P : Prop) [Decidable P] : Int32 := if P then 1 else 0
theorem b0 {P : Prop} [Decidable P] (h : B01 P = 0) : ¬ P := fun q => by unfold B01 at h; rw [if_pos q] at h; exact absurd h (by decide)
theorem b1 {P : Prop} [Decidable P] (h : ¬ B01 P = 0) : P := by
  by_cases q : P
  · exact q
  · exact absurd (by unfold B01; rw [if_neg q]) h
theorem b_t {P : Prop} [Decidable P] (h : P) : (1 : Int32) = B01 P := by unfold B01; rw [if_pos h]
theorem b_f {P : Prop} [Decidable P] (h : ¬ P) : (0 : Int32) = B01 P := by unfold B01; rw [if_neg h]
theorem b_nar {P : Prop} [Decidable P] : narrow .boolean (.int (B01 P)) = .int (B01 P) := by
  by_cases h : P
  · rw [← b_t h]; decide
  · rw [← b_f h]; decide
theorem sh0 (x : Int32) : (0 : Int32) >>> x = 0 := by
  apply Int32.toBitVec_inj.mp
  simp [Int32.toBitVec_shiftRight]
theorem and0 (x : Int32) : x &&& 0 = 0 := by
  apply Int32.toBitVec_inj.mp
  simp
theorem and0' (x : Int32) : 0 &&& x = 0 := by
  apply Int32.toBitVec_inj.mp
  simp
end
section
section TP
variable {p : Program} {l : Launch} {e : Env} {R : Room} {s : State} {m : MethodId} {args : Array Value} {below : List Frame} {meth : Method} {c : Code} {H H0 : Heap} {locs : List Loc} {cells slots : Nat} {Q : State → Prop} {cc : ByteArray} {pc : Nat} {ls : Array Slot} {rest : List Value} {J : va_J9} {ws : va_W} {A : Nat → Prop}
theorem top_i {x y : Int32} (h : x = y) (k : W p l e R s m args below meth c H locs cells slots Q (F0 m pc ls (.int y :: rest))) : W p l e R s m args below meth c H locs cells slots Q (F0 m pc ls (.int x :: rest)) := by rw [h]; exact k
theorem top_l {x y : Int64} (h : x = y) (k : W p l e R s m args below meth c H locs cells slots Q (F0 m pc ls (.long y :: rest))) : W p l e R s m args below meth c H locs cells slots Q (F0 m pc ls (.long x :: rest)) := by rw [h]; exact k
theorem top_q {x : Option Nat} {y : Nat} (h : x = some y) (k : W p l e R s m args below meth c H locs cells slots Q (F0 m pc ls (.ref y :: rest))) : W p l e R s m args below meth c H locs cells slots Q (F0 m pc ls (va_rf x :: rest)) := by rw [h]; exact k
theorem top_n {x : Option Nat} (h : x = none) (k : W p l e R s m args below meth c H locs cells slots Q (F0 m pc ls (.null :: rest))) : W p l e R s m args below meth c H locs cells slots Q (F0 m pc ls (va_rf x :: rest)) := by rw [h]; exact k
/-- a new array of shelves -/
theorem nq_ {own : String} {index : Nat} (hx : p.tables.exec = Jvm.exec) (hb : c.code = cc) (hts : ∀ w ∈ lw_g, w.before args s = true) (hown : s.vm.findClass own = some m.cls) (qc : Cond.classLink own index "FoxHoles$Shelf" ∈ lw_g) (hK : KK J s) (hP : va_P J.1 cls ws H) (hD : va_D A ws) (hS : va_S A H0 H locs) (hA : ∀ q, H0.size ≤ q → A q) {k : Int32} {N' : Nat} (hn : ¬ k < 0) (hN : k.toNatClampNeg = N') (hbytes : N' * 4 ≤ 536870912) (hcells : cells + 1 ≤ R.cells) (hslots : slots + N' ≤ R.slots) (hdg : decode cc pc = .ok (.anewarray index, 3))
    (kk : ∀ (q : Nat) (H1 : Heap), va_P J.1 cls (ws ++ [(q, .inl (J.2.2.2, N', .inr (.inr (.inr (.inr (fun _ => none))))))]) H1 → va_D A (ws ++ [(q, .inl (J.2.2.2, N', .inr (.inr (.inr (.inr (fun _ => none))))))]) → va_S A H0 H1 locs → W p l e R s m args below meth c H1 locs (cells + 1) (slots + N') Q (F0 m (pc + 3) ls (.ref q :: rest))) : W p l e R s m args below meth c H locs cells slots Q (F0 m pc ls (.int k :: rest)) := by
  refine va_newq hx hb hown (hts _ qc) hK.2.1 hK.1 hP hD hS hA hn hN hbytes hcells hslots hdg (fun q cA H1 hK1 hP1 hD1 hS1 => ?_)
  obtain ⟨_, _, _, _, _, e1⟩ := (hK1.2 3 _ rfl).2
  obtain ⟨_, _, _, _, _, e2⟩ := (hK1.2 2 _ rfl).2
  have e : some cA = some J.2.2.2 := e1.symm.trans e2
  cases e
  exact kk q H1 hP1 hD1 hS1
/-- new long[n][k]: its rows aren't looked at again -/
theorem nm_ {own : String} {index : Nat} (hx : p.tables.exec = Jvm.exec) (hb : c.code = cc) (hts : ∀ w ∈ lw_g, w.before args s = true) (hown : s.vm.findClass own = some m.cls) (qc : Cond.classLink own index "[[J" ∈ lw_g) (qa : Cond.arrayClass .long ∈ lw_g) (hK : KK J s) (hP : va_P J.1 cls ws H) (hD : va_D A ws) (hS : va_S A H0 H locs) (hA : ∀ q, H0.size ≤ q → A q) {n k : Int32} {N' K' : Nat} (hn : ¬ n < 0) (hk : ¬ k < 0) (hN : n.toNatClampNeg = N') (hM : k.toNatClampNeg = K') (hb1 : N' * 4 ≤ 536870912) (hb2 : K' * 8 ≤ 536870912) (hb3 : K' ≤ 536870912) (hcells : cells + (1 + N') ≤ R.cells) (hslots : slots + (N' + N' * K') ≤ R.slots) (hdg : decode cc pc = .ok (.multianewarray index 2, 4))
    (kk : ∀ (q : Nat) (H1 : Heap), va_P J.1 cls ws H1 → va_D A ws → va_S A H0 H1 locs → W p l e R s m args below meth c H1 locs (cells + 1 + N') (slots + N' + N' * K') Q (F0 m (pc + 4) ls (.ref q :: rest))) : W p l e R s m args below meth c H locs cells slots Q (F0 m pc ls (.int k :: .int n :: rest)) := by
  refine va_mna (X := ws) (L := []) (f := fun _ => .inr (0, [])) (ty := .long) (z := (K', .inr (.inl (fun _ => 0)))) hx hb hown (hts _ qc) hK.2.2 (hts _ qa) ((hK.1.2 1 _ rfl).2) hK.1 (by simpa [va_pl] using hP) (by simpa [va_pl] using hD) hS hA hn hk hN hM hb1 hb2 hb3 (by decide) (by decide) hcells hslots (fun cc => by rw [vp_cell_l]; exact arrV_new _ _ _) hdg (fun q r cA H1 _ _ hK1 hP1 hD1 hS1 => ?_)
  exact kk q H1 (fun k9 x hx => hP1 k9 x (by rw [List.append_assoc, List.getElem?_append_left (List.getElem?_eq_some_iff.mp hx).1]; exact hx)) hD hS1
end TP
theorem nI_inc (i : Nat) : nI i + Int32.ofInt 1 = nI (i + 1) := nI_1 i
section ANY
variable {p : Program} {l : Launch} {e : Env} {R : Room} {s : State} {m : MethodId} {args : Array Value} {below : List Frame} {meth : Method} {c : Code} {cc : ByteArray} {pc : Nat} {ls : Array Slot}
theorem rz_any {v : Int32} (hx : p.tables.exec = Jvm.exec) (hb : c.code = cc) (hr : meth.sig.returnType = some .int) (hlk : meth.locks = false) (hdg : decode cc pc = .ok (.ireturn, 1)) :
    W p l e R s m args below meth c s.heap [] 0 0 (MQ below (vp_Si (fun _ => True)) args s 0 0 (fun _ => False)) (F0 m pc ls [.int v]) :=
  W.iret hx hb hr (fun t ht _ => ⟨v, rfl, trivial, ht⟩) (fun _ h => by cases h) hdg hlk
end ANY
theorem lo_in : ∀ i, i < 32 → vp_in (nI i &&& (nI i - 1)) 32 := by
  unfold vp_in
  decide +kernel
end
section
/-! what the first call on a fresh object answers -/
def sp_hole (w : Int) : Int32 := if 0 ≤ w ∧ w ≤ 9 then 0 else -1
def sp_holes (d n : Int) : Int32 := if (0 ≤ d ∧ d ≤ 5) ∧ 1 ≤ n ∧ n ≤ 10 then 0 else -1
def sp_mend (n w v : Int) : Int32 := if n = 0 ∧ w = 2 ∧ 1 ≤ v ∧ v ≤ 2 then 1 else if n = 0 ∧ w = 3 ∧ 0 ≤ v ∧ v ≤ 127 then 0 else -1
def sp_of (n w : Int) : Int32 := if n = 0 ∧ w = 10 then 1 else if n = 0 ∧ (w = 11 ∨ w = 12 ∨ w = 14) then 0 else if n = 0 ∧ w = 13 then -5 else -2000000000
def sp_feed (x : Int) : Int32 := if 0 ≤ x ∧ x ≤ 255 then 1 else -1
def sp_mayBe (d k : Int) : Int32 := if (0 ≤ d ∧ d ≤ 5) ∧ 0 ≤ k then -11 else -1
def sp_caught (d : Int) : Int32 := if 0 ≤ d ∧ d ≤ 5 then -11 else -1
def sp_two (x k least : Int) : Int32 := if (0 ≤ x ∧ x / 10 ≤ 5 ∧ x % 10 ≤ 5) ∧ least ≤ k then -11 else -1
def sp_sure (k : Int) : Int32 := if k < -1 then -1 else if k = -1 then 0 else -2
def sp_sureFrom (s t : Int) : Int32 := if s = 0 ∧ 0 ≤ t ∧ t ≤ 6 then 0 else -1
def sp_toStop (m : Int) : Int32 := if 1 ≤ m ∧ m ≤ 40 then 0 else -1
def sp_kept (s : Int) : Int32 := if s = 0 then 0 else -1
def sp_drawn (d nm w : Int) : Int32 := if (0 ≤ d ∧ d ≤ 5) ∧ 0 ≤ nm ∧ 1 ≤ nm / 100 ∧ nm / 100 ≤ 60 ∧ 1 ≤ nm % 100 ∧ nm % 100 ≤ 30 ∧ 0 ≤ w ∧ w ≤ 1 then -11 else -1
def sp_body (k : Int) : Int32 := if 0 ≤ k ∧ k ≤ 7 then 0 else -1
def sp_keep (d b : Int) : Int32 := if (0 ≤ d ∧ d ≤ 5) ∧ b = -1 then 1 else -1
def sp_row (d s n : Int) : Int32 := if (0 ≤ d ∧ d ≤ 5) ∧ (0 ≤ s ∧ s ≤ 4) ∧ n ≤ 60 then if n < 0 then -14 else 1 else -1
def sp_shift (d e : Int) : Int32 := if (0 ≤ d ∧ d ≤ 5) ∧ 0 ≤ e ∧ e ≤ 5 then -11 else -1
def sp_taken (d k : Int) : Int32 := if (0 ≤ d ∧ d ≤ 5) ∧ 0 ≤ k ∧ k ≤ 7 then -11 else -1
def sp_count (w : Int) : Int32 := if 0 ≤ w ∧ w ≤ 6 then 0 else -1
def sp_luckiest (m k : Int) : Int64 := if (1 ≤ m ∧ m ≤ 4) ∧ -2 ≤ k ∧ k < m then -2 else -9223372036854775808
theorem ne_two (x k l : Int) : ¬ sp_two x k l = 0 := by unfold sp_two; split <;> decide
end
section
theorem dX10_isHole_0 : decode cX10_isHole 0 = .ok (.iload_n 1, 1) := by decide +kernel
theorem dX10_isHole_1 : decode cX10_isHole 1 = .ok (.ifCond .lt 15, 3) := by decide +kernel
theorem dX10_isHole_16 : decode cX10_isHole 16 = .ok (.iconst 0, 1) := by decide +kernel
theorem dX10_isHole_17 : decode cX10_isHole 17 = .ok (.ireturn, 1) := by decide +kernel
theorem dX10_isHole_4 : decode cX10_isHole 4 = .ok (.iload_n 1, 1) := by decide +kernel
theorem dX10_isHole_5 : decode cX10_isHole 5 = .ok (.aload_n 0, 1) := by decide +kernel
theorem q_178 : Cond.fieldLink RX10 36 RX10 "size" "I" ∈ lw_g := mem_q 178 (by decide +kernel) rfl
theorem dX10_isHole_6 : decode cX10_isHole 6 = .ok (.getfield 36, 3) := by decide +kernel
theorem dX10_isHole_9 : decode cX10_isHole 9 = .ok (.if_icmp .ge 7, 3) := by decide +kernel
set_option maxHeartbeats 4000000 in
set_option maxRecDepth 100000 in
theorem cW_isHole (l : Launch) (J : va_J9) (w : Nat) (t : Nat) (we : Nat) (jo : Nat) (la : Nat) (n : Int32) : RC l J yX10_isHole cX10_isHole 2 (some .boolean) ({ frames := 0, cells := 0, slots := 0, locals := 0 }) [.ref w, .int n] [(w, .inr (10, [.ref t, .ref we, .ref jo, .ref la, .int 0, .int 0, .int 0, .int 0, .int 1, .int 0, .int 0]))] (vp_Si (fun r => r = 0)) := by
  refine rc_of (by decide) (Nat.le_of_ble_eq_true rfl) ?_
  intro p e s m below meth c ls hE hl hP hK
  obtain ⟨hx, hb, hr, hml, hown, hts, hlk, hin⟩ := hE
  have hown : s.vm.findClass RX10 = some m.cls := hown
  have hl : lv_has ls 2 [(0, .ref w), (1, .int n)] := hl
  have rg_n := i_rng n
  refine lv_iload_n hx hb dX10_isHole_0 rfl (lv_at hl 1 rfl) ?_
  refine lv_if_lt (tgt := 16) hx hb dX10_isHole_1 (by decide) (fun c1 => ?_) (fun c1 => ?_)
  · have j2 : n.toInt < 0 := (i_lt rfl (by decide)).mp c1
    refine lv_iconst (v := 0) hx hb dX10_isHole_16 (by decide) ?_
    exact rz_z hx hb hr hlk (by decide) (by decide) dX10_isHole_17
  · have j3 : ¬ (n.toInt < 0) := fun h => c1 ((i_lt rfl (by decide)).mpr h)
    refine lv_iload_n hx hb dX10_isHole_4 rfl (lv_at hl 1 rfl) ?_
    refine lv_aload_n hx hb dX10_isHole_5 rfl (lv_at hl 0 rfl) ?_
    refine va_get (D := J.1) (ci := 10) (v := .int 0) (C := RX10) (T := TX10) (N := 11) hx hb hts inX10 hown hK.1 hP 0 rfl rfl 6 (by decide) (hts _ q_178) (fun _ h9 => h9) rfl dX10_isHole_6 ?_
    refine lv_icmp_ge (tgt := 16) hx hb dX10_isHole_9 (by decide) (fun _ => ?_) (fun c4 => absurd (show ¬ (0 ≤ n.toInt) from fun h => c4 ((i_le (by decide) rfl).mpr h)) (by omega))
    refine lv_iconst (v := 0) hx hb dX10_isHole_16 (by decide) ?_
    exact rz_z hx hb hr hlk (by decide) (by decide) dX10_isHole_17
theorem dX10_isOpen_0 : decode cX10_isOpen 0 = .ok (.aload_n 0, 1) := by decide +kernel
theorem dX10_isOpen_1 : decode cX10_isOpen 1 = .ok (.iload_n 1, 1) := by decide +kernel
theorem q_602 : Cond.methodLink RX10 39 yX10_isHole ∈ lw_g := mem_q 602 (by decide +kernel) rfl
theorem q_595 : Cond.instanceMethod yX10_isHole ∈ lw_g := mem_q 595 (by decide +kernel) rfl
theorem q_596 : Cond.selects RX10 yX10_isHole yX10_isHole ∈ lw_g := mem_q 596 (by decide +kernel) rfl
theorem q_105 : Cond.initialized RX10 ∈ lw_g := mem_q 105 (by decide +kernel) rfl
theorem q_597 : Cond.code yX10_isHole cX10_isHole 2 (some .boolean) ∈ lw_g := mem_q 597 (by decide +kernel) rfl
theorem kV_RX10_39 : CV RX10 39 RX10 yX10_isHole cX10_isHole 2 (some .boolean) 1 := cv_of q_602 q_595 q_596 q_105 q_597 (by decide +kernel)
theorem dX10_isOpen_2 : decode cX10_isOpen 2 = .ok (.invokevirtual 39, 3) := by decide +kernel
theorem dX10_isOpen_5 : decode cX10_isOpen 5 = .ok (.ifCond .eq 18, 3) := by decide +kernel
theorem dX10_isOpen_23 : decode cX10_isOpen 23 = .ok (.iconst 0, 1) := by decide +kernel
theorem dX10_isOpen_24 : decode cX10_isOpen 24 = .ok (.ireturn, 1) := by decide +kernel
set_option maxHeartbeats 4000000 in
set_option maxRecDepth 100000 in
theorem cW_isOpen (l : Launch) (J : va_J9) (w : Nat) (t : Nat) (we : Nat) (jo : Nat) (la : Nat) (n : Int32) : RC l J yX10_isOpen cX10_isOpen 2 (some .boolean) ({ frames := 1, cells := 0, slots := 0, locals := 21 }) [.ref w, .int n] [(w, .inr (10, [.ref t, .ref we, .ref jo, .ref la, .int 0, .int 0, .int 0, .int 0, .int 1, .int 0, .int 0]))] (vp_Si (fun r => r = 0)) := by
  refine rc_of (by decide) (Nat.le_of_ble_eq_true rfl) ?_
  intro p e s m below meth c ls hE hl hP hK
  obtain ⟨hx, hb, hr, hml, hown, hts, hlk, hin⟩ := hE
  have hown : s.vm.findClass RX10 = some m.cls := hown
  have hl : lv_has ls 2 [(0, .ref w), (1, .int n)] := hl
  have rg_n := i_rng n
  refine lv_aload_n hx hb dX10_isOpen_0 rfl (lv_at hl 0 rfl) ?_
  refine lv_iload_n hx hb dX10_isOpen_1 rfl (lv_at hl 1 rfl) ?_
  refine go_i (rn_V (As := [.int n]) (rest := []) hx hb hml hown hts hK (cW_isHole l J w t we jo la n) kV_RX10_39 hP rfl rfl rfl ⟨Nat.le_of_ble_eq_true rfl, Nat.le_of_ble_eq_true rfl⟩ rfl rfl rfl hl.1 rfl (Nat.le_of_ble_eq_true rfl) ⟨Nat.le_of_ble_eq_true rfl, Nat.le_of_ble_eq_true rfl⟩ dX10_isOpen_2) ?_
  refine lv_if_eq (tgt := 23) hx hb dX10_isOpen_5 (by decide) (fun _ => ?_) (fun c => absurd c (by decide))
  refine lv_iconst (v := 0) hx hb dX10_isOpen_23 (by decide) ?_
  exact rz_z hx hb hr hlk (by decide) (by decide) dX10_isOpen_24
theorem dX10_areHoles_0 : decode cX10_areHoles 0 = .ok (.iload_n 1, 1) := by decide +kernel
theorem dX10_areHoles_1 : decode cX10_areHoles 1 = .ok (.ifCond .lt 16, 3) := by decide +kernel
theorem dX10_areHoles_17 : decode cX10_areHoles 17 = .ok (.iconst 0, 1) := by decide +kernel
theorem dX10_areHoles_18 : decode cX10_areHoles 18 = .ok (.ireturn, 1) := by decide +kernel
theorem dX10_areHoles_4 : decode cX10_areHoles 4 = .ok (.iload_n 1, 1) := by decide +kernel
theorem dX10_areHoles_5 : decode cX10_areHoles 5 = .ok (.aload_n 0, 1) := by decide +kernel
theorem dX10_areHoles_6 : decode cX10_areHoles 6 = .ok (.getfield 36, 3) := by decide +kernel
theorem dX10_areHoles_9 : decode cX10_areHoles 9 = .ok (.ishr, 1) := by decide +kernel
theorem dX10_areHoles_10 : decode cX10_areHoles 10 = .ok (.ifCond .ne 7, 3) := by decide +kernel
theorem dX10_areHoles_13 : decode cX10_areHoles 13 = .ok (.iconst 1, 1) := by decide +kernel
theorem dX10_areHoles_14 : decode cX10_areHoles 14 = .ok (.goto 4, 3) := by decide +kernel
set_option maxHeartbeats 4000000 in
set_option maxRecDepth 100000 in
theorem cW_areHoles (l : Launch) (J : va_J9) (w : Nat) (t : Nat) (we : Nat) (jo : Nat) (la : Nat) (n : Int32) : RC l J yX10_areHoles cX10_areHoles 2 (some .boolean) ({ frames := 0, cells := 0, slots := 0, locals := 0 }) [.ref w, .int n] [(w, .inr (10, [.ref t, .ref we, .ref jo, .ref la, .int 0, .int 0, .int 0, .int 0, .int 1, .int 0, .int 0]))] (vp_Si (fun r => r = B01 (n.toInt = 0))) := by
  refine rc_of (by decide) (Nat.le_of_ble_eq_true rfl) ?_
  intro p e s m below meth c ls hE hl hP hK
  obtain ⟨hx, hb, hr, hml, hown, hts, hlk, hin⟩ := hE
  have hown : s.vm.findClass RX10 = some m.cls := hown
  have hl : lv_has ls 2 [(0, .ref w), (1, .int n)] := hl
  have rg_n := i_rng n
  refine lv_iload_n hx hb dX10_areHoles_0 rfl (lv_at hl 1 rfl) ?_
  refine lv_if_lt (tgt := 17) hx hb dX10_areHoles_1 (by decide) (fun c1 => ?_) (fun c1 => ?_)
  · have j2 : n.toInt < 0 := (i_lt rfl (by decide)).mp c1
    refine lv_iconst (v := 0) hx hb dX10_areHoles_17 (by decide) ?_
    exact rz_z hx hb hr hlk (by decide) (b_f (by omega)) dX10_areHoles_18
  · have j3 : ¬ (n.toInt < 0) := fun h => c1 ((i_lt rfl (by decide)).mpr h)
    refine lv_iload_n hx hb dX10_areHoles_4 rfl (lv_at hl 1 rfl) ?_
    refine lv_aload_n hx hb dX10_areHoles_5 rfl (lv_at hl 0 rfl) ?_
    refine va_get (D := J.1) (ci := 10) (v := .int 0) (C := RX10) (T := TX10) (N := 11) hx hb hts inX10 hown hK.1 hP 0 rfl rfl 6 (by decide) (hts _ q_178) (fun _ h9 => h9) rfl dX10_areHoles_6 ?_
    refine lv_ishr hx hb dX10_areHoles_9 ?_
    refine top_i (y := n) (sb_shr0 _) ?_
    refine lv_if_ne (tgt := 17) hx hb dX10_areHoles_10 (by decide) (fun c4 => ?_) (fun c4 => ?_)
    · have j5 : ¬ (n.toInt = 0) := fun h => c4 ((i_eq rfl (by decide)).mpr h)
      refine lv_iconst (v := 0) hx hb dX10_areHoles_17 (by decide) ?_
      exact rz_z hx hb hr hlk (by decide) (b_f (by omega)) dX10_areHoles_18
    · have j6 : n.toInt = 0 := (i_eq rfl (by decide)).mp c4
      refine lv_iconst (v := 1) hx hb dX10_areHoles_13 (by decide) ?_
      refine lv_goto (tgt := 18) hx hb dX10_areHoles_14 (by decide) ?_
      exact rz_z hx hb hr hlk (by decide) (b_t (by omega)) dX10_areHoles_18
theorem dX10_isWeight_0 : decode cX10_isWeight 0 = .ok (.iload_n 1, 1) := by decide +kernel
theorem dX10_isWeight_1 : decode cX10_isWeight 1 = .ok (.ifCond .lt 13, 3) := by decide +kernel
theorem dX10_isWeight_14 : decode cX10_isWeight 14 = .ok (.iconst 0, 1) := by decide +kernel
theorem dX10_isWeight_15 : decode cX10_isWeight 15 = .ok (.ireturn, 1) := by decide +kernel
theorem dX10_isWeight_4 : decode cX10_isWeight 4 = .ok (.iload_n 1, 1) := by decide +kernel
theorem dX10_isWeight_5 : decode cX10_isWeight 5 = .ok (.bipush 9, 2) := by decide +kernel
theorem dX10_isWeight_7 : decode cX10_isWeight 7 = .ok (.if_icmp .gt 7, 3) := by decide +kernel
theorem dX10_isWeight_10 : decode cX10_isWeight 10 = .ok (.iconst 1, 1) := by decide +kernel
theorem dX10_isWeight_11 : decode cX10_isWeight 11 = .ok (.goto 4, 3) := by decide +kernel
set_option maxHeartbeats 4000000 in
set_option maxRecDepth 100000 in
theorem cW_isWeight (l : Launch) (J : va_J9) (w : Nat) (t : Nat) (we : Nat) (jo : Nat) (la : Nat) (n : Int32) : RC l J yX10_isWeight cX10_isWeight 2 (some .boolean) ({ frames := 0, cells := 0, slots := 0, locals := 0 }) [.ref w, .int n] [(w, .inr (10, [.ref t, .ref we, .ref jo, .ref la, .int 0, .int 0, .int 0, .int 0, .int 1, .int 0, .int 0]))] (vp_Si (fun r => r = B01 (0 ≤ n.toInt ∧ n.toInt ≤ 9))) := by
  refine rc_of (by decide) (Nat.le_of_ble_eq_true rfl) ?_
  intro p e s m below meth c ls hE hl hP hK
  obtain ⟨hx, hb, hr, hml, hown, hts, hlk, hin⟩ := hE
  have hown : s.vm.findClass RX10 = some m.cls := hown
  have hl : lv_has ls 2 [(0, .ref w), (1, .int n)] := hl
  have rg_n := i_rng n
  refine lv_iload_n hx hb dX10_isWeight_0 rfl (lv_at hl 1 rfl) ?_
  refine lv_if_lt (tgt := 14) hx hb dX10_isWeight_1 (by decide) (fun c1 => ?_) (fun c1 => ?_)
  · have j2 : n.toInt < 0 := (i_lt rfl (by decide)).mp c1
    refine lv_iconst (v := 0) hx hb dX10_isWeight_14 (by decide) ?_
    exact rz_z hx hb hr hlk (by decide) (b_f (by omega)) dX10_isWeight_15
  · have j3 : ¬ (n.toInt < 0) := fun h => c1 ((i_lt rfl (by decide)).mpr h)
    refine lv_iload_n hx hb dX10_isWeight_4 rfl (lv_at hl 1 rfl) ?_
    refine lv_bipush (v := 9) hx hb dX10_isWeight_5 (by decide) ?_
    refine lv_icmp_gt (tgt := 14) hx hb dX10_isWeight_7 (by decide) (fun c4 => ?_) (fun c4 => ?_)
    · have j5 : 9 < n.toInt := (i_lt (by decide) rfl).mp c4
      refine lv_iconst (v := 0) hx hb dX10_isWeight_14 (by decide) ?_
      exact rz_z hx hb hr hlk (by decide) (b_f (by omega)) dX10_isWeight_15
    · have j6 : ¬ (9 < n.toInt) := fun h => c4 ((i_lt (by decide) rfl).mpr h)
      refine lv_iconst (v := 1) hx hb dX10_isWeight_10 (by decide) ?_
      refine lv_goto (tgt := 15) hx hb dX10_isWeight_11 (by decide) ?_
      exact rz_z hx hb hr hlk (by decide) (b_t (by omega)) dX10_isWeight_15
theorem dX10_openOnes_0 : decode cX10_openOnes 0 = .ok (.iconst 1, 1) := by decide +kernel
theorem dX10_openOnes_1 : decode cX10_openOnes 1 = .ok (.aload_n 0, 1) := by decide +kernel
theorem dX10_openOnes_2 : decode cX10_openOnes 2 = .ok (.getfield 36, 3) := by decide +kernel
theorem dX10_openOnes_5 : decode cX10_openOnes 5 = .ok (.ishl, 1) := by decide +kernel
theorem dX10_openOnes_6 : decode cX10_openOnes 6 = .ok (.iconst 1, 1) := by decide +kernel
theorem dX10_openOnes_7 : decode cX10_openOnes 7 = .ok (.isub, 1) := by decide +kernel
theorem dX10_openOnes_8 : decode cX10_openOnes 8 = .ok (.aload_n 0, 1) := by decide +kernel
theorem q_177 : Cond.fieldLink RX10 43 RX10 "stopped" "I" ∈ lw_g := mem_q 177 (by decide +kernel) rfl
theorem dX10_openOnes_9 : decode cX10_openOnes 9 = .ok (.getfield 43, 3) := by decide +kernel
theorem dX10_openOnes_12 : decode cX10_openOnes 12 = .ok (.iconst (-1), 1) := by decide +kernel
theorem dX10_openOnes_13 : decode cX10_openOnes 13 = .ok (.ixor, 1) := by decide +kernel
theorem dX10_openOnes_14 : decode cX10_openOnes 14 = .ok (.iand, 1) := by decide +kernel
theorem dX10_openOnes_15 : decode cX10_openOnes 15 = .ok (.ireturn, 1) := by decide +kernel
set_option maxHeartbeats 4000000 in
set_option maxRecDepth 100000 in
theorem cW_openOnes (l : Launch) (J : va_J9) (w : Nat) (t : Nat) (we : Nat) (jo : Nat) (la : Nat) : RC l J yX10_openOnes cX10_openOnes 1 (some .int) ({ frames := 0, cells := 0, slots := 0, locals := 0 }) [.ref w] [(w, .inr (10, [.ref t, .ref we, .ref jo, .ref la, .int 0, .int 0, .int 0, .int 0, .int 1, .int 0, .int 0]))] (vp_Si (fun r => r = 0)) := by
  refine rc_of (by decide) (Nat.le_of_ble_eq_true rfl) ?_
  intro p e s m below meth c ls hE hl hP hK
  obtain ⟨hx, hb, hr, hml, hown, hts, hlk, hin⟩ := hE
  have hown : s.vm.findClass RX10 = some m.cls := hown
  have hl : lv_has ls 1 [(0, .ref w)] := hl
  refine lv_iconst (v := 1) hx hb dX10_openOnes_0 (by decide) ?_
  refine lv_aload_n hx hb dX10_openOnes_1 rfl (lv_at hl 0 rfl) ?_
  refine va_get (D := J.1) (ci := 10) (v := .int 0) (C := RX10) (T := TX10) (N := 11) hx hb hts inX10 hown hK.1 hP 0 rfl rfl 6 (by decide) (hts _ q_178) (fun _ h9 => h9) rfl dX10_openOnes_2 ?_
  refine lv_ishl hx hb dX10_openOnes_5 ?_
  refine top_i (y := 1) (by decide) ?_
  refine lv_iconst (v := 1) hx hb dX10_openOnes_6 (by decide) ?_
  refine lv_isub hx hb dX10_openOnes_7 ?_
  refine top_i (y := 0) (by decide) ?_
  refine lv_aload_n hx hb dX10_openOnes_8 rfl (lv_at hl 0 rfl) ?_
  refine va_get (D := J.1) (ci := 10) (v := .int 0) (C := RX10) (T := TX10) (N := 11) hx hb hts inX10 hown hK.1 hP 0 rfl rfl 5 (by decide) (hts _ q_177) (fun _ h9 => h9) rfl dX10_openOnes_9 ?_
  refine lv_iconst (v := (-1)) hx hb dX10_openOnes_12 (by decide) ?_
  refine lv_ixor hx hb dX10_openOnes_13 ?_
  refine top_i (y := (-1)) (by decide) ?_
  refine lv_iand hx hb dX10_openOnes_14 ?_
  refine top_i (y := 0) (by decide) ?_
  exact rz_i hx hb hr hlk (by decide) dX10_openOnes_15
theorem dX10_openNear_0 : decode cX10_openNear 0 = .ok (.aload_n 0, 1) := by decide +kernel
theorem dX10_openNear_1 : decode cX10_openNear 1 = .ok (.iload_n 1, 1) := by decide +kernel
theorem q_651 : Cond.methodLink RX10 84 yX10_isOpen ∈ lw_g := mem_q 651 (by decide +kernel) rfl
theorem q_652 : Cond.instanceMethod yX10_isOpen ∈ lw_g := mem_q 652 (by decide +kernel) rfl
theorem q_653 : Cond.selects RX10 yX10_isOpen yX10_isOpen ∈ lw_g := mem_q 653 (by decide +kernel) rfl
theorem q_654 : Cond.code yX10_isOpen cX10_isOpen 2 (some .boolean) ∈ lw_g := mem_q 654 (by decide +kernel) rfl
theorem kV_RX10_84 : CV RX10 84 RX10 yX10_isOpen cX10_isOpen 2 (some .boolean) 1 := cv_of q_651 q_652 q_653 q_105 q_654 (by decide +kernel)
theorem dX10_openNear_2 : decode cX10_openNear 2 = .ok (.invokevirtual 84, 3) := by decide +kernel
theorem dX10_openNear_5 : decode cX10_openNear 5 = .ok (.ifCond .eq 17, 3) := by decide +kernel
theorem dX10_openNear_22 : decode cX10_openNear 22 = .ok (.iconst 0, 1) := by decide +kernel
theorem dX10_openNear_23 : decode cX10_openNear 23 = .ok (.ireturn, 1) := by decide +kernel
set_option maxHeartbeats 4000000 in
set_option maxRecDepth 100000 in
theorem cW_openNear (l : Launch) (J : va_J9) (w : Nat) (t : Nat) (we : Nat) (jo : Nat) (la : Nat) (n : Int32) : RC l J yX10_openNear cX10_openNear 2 (some .int) ({ frames := 2, cells := 0, slots := 0, locals := 42 }) [.ref w, .int n] [(w, .inr (10, [.ref t, .ref we, .ref jo, .ref la, .int 0, .int 0, .int 0, .int 0, .int 1, .int 0, .int 0]))] (vp_Si (fun r => r = 0)) := by
  refine rc_of (by decide) (Nat.le_of_ble_eq_true rfl) ?_
  intro p e s m below meth c ls hE hl hP hK
  obtain ⟨hx, hb, hr, hml, hown, hts, hlk, hin⟩ := hE
  have hown : s.vm.findClass RX10 = some m.cls := hown
  have hl : lv_has ls 2 [(0, .ref w), (1, .int n)] := hl
  have rg_n := i_rng n
  refine lv_aload_n hx hb dX10_openNear_0 rfl (lv_at hl 0 rfl) ?_
  refine lv_iload_n hx hb dX10_openNear_1 rfl (lv_at hl 1 rfl) ?_
  refine go_i (rn_V (As := [.int n]) (rest := []) hx hb hml hown hts hK (cW_isOpen l J w t we jo la n) kV_RX10_84 hP rfl rfl rfl ⟨Nat.le_of_ble_eq_true rfl, Nat.le_of_ble_eq_true rfl⟩ rfl rfl rfl hl.1 rfl (Nat.le_of_ble_eq_true rfl) ⟨Nat.le_of_ble_eq_true rfl, Nat.le_of_ble_eq_true rfl⟩ dX10_openNear_2) ?_
  refine lv_if_eq (tgt := 22) hx hb dX10_openNear_5 (by decide) (fun _ => ?_) (fun c => absurd c (by decide))
  refine lv_iconst (v := 0) hx hb dX10_openNear_22 (by decide) ?_
  exact rz_i hx hb hr hlk (by decide) dX10_openNear_23
theorem dX10_openWeight_0 : decode cX10_openWeight 0 = .ok (.aload_n 0, 1) := by decide +kernel
theorem q_659 : Cond.methodLink RX10 87 yX10_openOnes ∈ lw_g := mem_q 659 (by decide +kernel) rfl
theorem q_660 : Cond.instanceMethod yX10_openOnes ∈ lw_g := mem_q 660 (by decide +kernel) rfl
theorem q_661 : Cond.selects RX10 yX10_openOnes yX10_openOnes ∈ lw_g := mem_q 661 (by decide +kernel) rfl
theorem q_662 : Cond.code yX10_openOnes cX10_openOnes 1 (some .int) ∈ lw_g := mem_q 662 (by decide +kernel) rfl
theorem kV_RX10_87 : CV RX10 87 RX10 yX10_openOnes cX10_openOnes 1 (some .int) 0 := cv_of q_659 q_660 q_661 q_105 q_662 (by decide +kernel)
theorem dX10_openWeight_1 : decode cX10_openWeight 1 = .ok (.invokevirtual 87, 3) := by decide +kernel
theorem dX10_openWeight_4 : decode cX10_openWeight 4 = .ok (.istore_n 1, 1) := by decide +kernel
theorem dX10_openWeight_5 : decode cX10_openWeight 5 = .ok (.iconst 0, 1) := by decide +kernel
theorem dX10_openWeight_6 : decode cX10_openWeight 6 = .ok (.istore_n 2, 1) := by decide +kernel
theorem dX10_openWeight_7 : decode cX10_openWeight 7 = .ok (.iconst 0, 1) := by decide +kernel
theorem dX10_openWeight_8 : decode cX10_openWeight 8 = .ok (.istore_n 3, 1) := by decide +kernel
theorem dX10_openWeight_9 : decode cX10_openWeight 9 = .ok (.iload_n 3, 1) := by decide +kernel
theorem dX10_openWeight_10 : decode cX10_openWeight 10 = .ok (.aload_n 0, 1) := by decide +kernel
theorem dX10_openWeight_11 : decode cX10_openWeight 11 = .ok (.getfield 36, 3) := by decide +kernel
theorem dX10_openWeight_14 : decode cX10_openWeight 14 = .ok (.if_icmp .ge 31, 3) := by decide +kernel
theorem dX10_openWeight_45 : decode cX10_openWeight 45 = .ok (.iload_n 2, 1) := by decide +kernel
theorem dX10_openWeight_46 : decode cX10_openWeight 46 = .ok (.ireturn, 1) := by decide +kernel
set_option maxHeartbeats 4000000 in
set_option maxRecDepth 100000 in
theorem cW_openWeight (l : Launch) (J : va_J9) (w : Nat) (t : Nat) (we : Nat) (jo : Nat) (la : Nat) : RC l J yX10_openWeight cX10_openWeight 4 (some .int) ({ frames := 1, cells := 0, slots := 0, locals := 20 }) [.ref w] [(w, .inr (10, [.ref t, .ref we, .ref jo, .ref la, .int 0, .int 0, .int 0, .int 0, .int 1, .int 0, .int 0]))] (vp_Si (fun r => r = 0)) := by
  refine rc_of (by decide) (Nat.le_of_ble_eq_true rfl) ?_
  intro p e s m below meth c ls hE hl hP hK
  obtain ⟨hx, hb, hr, hml, hown, hts, hlk, hin⟩ := hE
  have hown : s.vm.findClass RX10 = some m.cls := hown
  have hl : lv_has ls 4 [(0, .ref w)] := hl
  refine lv_aload_n hx hb dX10_openWeight_0 rfl (lv_at hl 0 rfl) ?_
  refine go_i (rn_V (As := []) (rest := []) hx hb hml hown hts hK (cW_openOnes l J w t we jo la) kV_RX10_87 hP rfl rfl rfl ⟨Nat.le_of_ble_eq_true rfl, Nat.le_of_ble_eq_true rfl⟩ rfl rfl rfl hl.1 rfl (Nat.le_of_ble_eq_true rfl) ⟨Nat.le_of_ble_eq_true rfl, Nat.le_of_ble_eq_true rfl⟩ dX10_openWeight_1) ?_
  refine lv_istore_n (lv' := [(1, .int 0), (0, .ref w)]) hx hb dX10_openWeight_4 rfl hl (by decide) rfl (fun ls hl => ?_)
  refine lv_iconst (v := 0) hx hb dX10_openWeight_5 (by decide) ?_
  refine lv_istore_n (lv' := [(2, .int 0), (1, .int 0), (0, .ref w)]) hx hb dX10_openWeight_6 rfl hl (by decide) rfl (fun ls hl => ?_)
  refine lv_iconst (v := 0) hx hb dX10_openWeight_7 (by decide) ?_
  refine lv_istore_n (lv' := [(3, .int 0), (2, .int 0), (1, .int 0), (0, .ref w)]) hx hb dX10_openWeight_8 rfl hl (by decide) rfl (fun ls hl => ?_)
  refine lv_iload_n hx hb dX10_openWeight_9 rfl (lv_at hl 0 rfl) ?_
  refine lv_aload_n hx hb dX10_openWeight_10 rfl (lv_at hl 3 rfl) ?_
  refine va_get (D := J.1) (ci := 10) (v := .int 0) (C := RX10) (T := TX10) (N := 11) hx hb hts inX10 hown hK.1 hP 0 rfl rfl 6 (by decide) (hts _ q_178) (fun _ h9 => h9) rfl dX10_openWeight_11 ?_
  refine lv_icmp_ge (tgt := 45) hx hb dX10_openWeight_14 (by decide) (fun _ => ?_) (fun c => absurd c (by decide))
  refine lv_iload_n hx hb dX10_openWeight_45 rfl (lv_at hl 1 rfl) ?_
  exact rz_i hx hb hr hlk (by decide) dX10_openWeight_46
theorem dX10_leadingInto_0 : decode cX10_leadingInto 0 = .ok (.iconst 0, 1) := by decide +kernel
theorem dX10_leadingInto_1 : decode cX10_leadingInto 1 = .ok (.istore_n 3, 1) := by decide +kernel
theorem dX10_leadingInto_2 : decode cX10_leadingInto 2 = .ok (.iconst 0, 1) := by decide +kernel
theorem dX10_leadingInto_3 : decode cX10_leadingInto 3 = .ok (.istore 4, 2) := by decide +kernel
theorem dX10_leadingInto_5 : decode cX10_leadingInto 5 = .ok (.iload 4, 2) := by decide +kernel
theorem dX10_leadingInto_7 : decode cX10_leadingInto 7 = .ok (.aload_n 0, 1) := by decide +kernel
theorem dX10_leadingInto_8 : decode cX10_leadingInto 8 = .ok (.getfield 36, 3) := by decide +kernel
theorem dX10_leadingInto_11 : decode cX10_leadingInto 11 = .ok (.if_icmp .ge 37, 3) := by decide +kernel
theorem dX10_leadingInto_48 : decode cX10_leadingInto 48 = .ok (.iload_n 3, 1) := by decide +kernel
theorem dX10_leadingInto_49 : decode cX10_leadingInto 49 = .ok (.ireturn, 1) := by decide +kernel
set_option maxHeartbeats 4000000 in
set_option maxRecDepth 100000 in
theorem cW_leadingInto (l : Launch) (J : va_J9) (w : Nat) (t : Nat) (we : Nat) (jo : Nat) (la : Nat) (x : Int32) (y : Int32) : RC l J yX10_leadingInto cX10_leadingInto 5 (some .int) ({ frames := 0, cells := 0, slots := 0, locals := 0 }) [.ref w, .int x, .int y] [(w, .inr (10, [.ref t, .ref we, .ref jo, .ref la, .int 0, .int 0, .int 0, .int 0, .int 1, .int 0, .int 0]))] (vp_Si (fun r => r = 0)) := by
  refine rc_of (by decide) (Nat.le_of_ble_eq_true rfl) ?_
  intro p e s m below meth c ls hE hl hP hK
  obtain ⟨hx, hb, hr, hml, hown, hts, hlk, hin⟩ := hE
  have hown : s.vm.findClass RX10 = some m.cls := hown
  have hl : lv_has ls 5 [(0, .ref w), (1, .int x), (2, .int y)] := hl
  have rg_x := i_rng x
  have rg_y := i_rng y
  refine lv_iconst (v := 0) hx hb dX10_leadingInto_0 (by decide) ?_
  refine lv_istore_n (lv' := [(3, .int 0), (0, .ref w), (1, .int x), (2, .int y)]) hx hb dX10_leadingInto_1 rfl hl (by decide) rfl (fun ls hl => ?_)
  refine lv_iconst (v := 0) hx hb dX10_leadingInto_2 (by decide) ?_
  refine lv_istore (lv' := [(4, .int 0), (3, .int 0), (0, .ref w), (1, .int x), (2, .int y)]) hx hb dX10_leadingInto_3 hl (by decide) rfl (fun ls hl => ?_)
  refine lv_iload hx hb dX10_leadingInto_5 (lv_at hl 0 rfl) ?_
  refine lv_aload_n hx hb dX10_leadingInto_7 rfl (lv_at hl 2 rfl) ?_
  refine va_get (D := J.1) (ci := 10) (v := .int 0) (C := RX10) (T := TX10) (N := 11) hx hb hts inX10 hown hK.1 hP 0 rfl rfl 6 (by decide) (hts _ q_178) (fun _ h9 => h9) rfl dX10_leadingInto_8 ?_
  refine lv_icmp_ge (tgt := 48) hx hb dX10_leadingInto_11 (by decide) (fun _ => ?_) (fun c => absurd c (by decide))
  refine lv_iload_n hx hb dX10_leadingInto_48 rfl (lv_at hl 1 rfl) ?_
  exact rz_i hx hb hr hlk (by decide) dX10_leadingInto_49
theorem dX10_sleepsOn_0 : decode cX10_sleepsOn 0 = .ok (.iload_n 1, 1) := by decide +kernel
theorem dX10_sleepsOn_1 : decode cX10_sleepsOn 1 = .ok (.ifCond .lt 22, 3) := by decide +kernel
theorem dX10_sleepsOn_23 : decode cX10_sleepsOn 23 = .ok (.iconst 0, 1) := by decide +kernel
theorem dX10_sleepsOn_24 : decode cX10_sleepsOn 24 = .ok (.ireturn, 1) := by decide +kernel
theorem dX10_sleepsOn_4 : decode cX10_sleepsOn 4 = .ok (.aload_n 0, 1) := by decide +kernel
theorem q_190 : Cond.fieldLink RX10 77 RX10 "sleep" "I" ∈ lw_g := mem_q 190 (by decide +kernel) rfl
theorem dX10_sleepsOn_5 : decode cX10_sleepsOn 5 = .ok (.getfield 77, 3) := by decide +kernel
theorem dX10_sleepsOn_8 : decode cX10_sleepsOn 8 = .ok (.iload_n 1, 1) := by decide +kernel
theorem dX10_sleepsOn_9 : decode cX10_sleepsOn 9 = .ok (.bipush 7, 2) := by decide +kernel
theorem dX10_sleepsOn_11 : decode cX10_sleepsOn 11 = .ok (.irem, 1) := by decide +kernel
theorem dX10_sleepsOn_12 : decode cX10_sleepsOn 12 = .ok (.ishr, 1) := by decide +kernel
theorem dX10_sleepsOn_13 : decode cX10_sleepsOn 13 = .ok (.iconst 1, 1) := by decide +kernel
theorem dX10_sleepsOn_14 : decode cX10_sleepsOn 14 = .ok (.iand, 1) := by decide +kernel
theorem dX10_sleepsOn_15 : decode cX10_sleepsOn 15 = .ok (.iconst 1, 1) := by decide +kernel
theorem dX10_sleepsOn_16 : decode cX10_sleepsOn 16 = .ok (.if_icmp .ne 7, 3) := by decide +kernel
set_option maxHeartbeats 4000000 in
set_option maxRecDepth 100000 in
theorem cW_sleepsOn (l : Launch) (J : va_J9) (w : Nat) (t : Nat) (we : Nat) (jo : Nat) (la : Nat) (n : Int32) : RC l J yX10_sleepsOn cX10_sleepsOn 2 (some .boolean) ({ frames := 0, cells := 0, slots := 0, locals := 0 }) [.ref w, .int n] [(w, .inr (10, [.ref t, .ref we, .ref jo, .ref la, .int 0, .int 0, .int 0, .int 0, .int 1, .int 0, .int 0]))] (vp_Si (fun r => r = 0)) := by
  refine rc_of (by decide) (Nat.le_of_ble_eq_true rfl) ?_
  intro p e s m below meth c ls hE hl hP hK
  obtain ⟨hx, hb, hr, hml, hown, hts, hlk, hin⟩ := hE
  have hown : s.vm.findClass RX10 = some m.cls := hown
  have hl : lv_has ls 2 [(0, .ref w), (1, .int n)] := hl
  have rg_n := i_rng n
  refine lv_iload_n hx hb dX10_sleepsOn_0 rfl (lv_at hl 1 rfl) ?_
  refine lv_if_lt (tgt := 23) hx hb dX10_sleepsOn_1 (by decide) (fun c1 => ?_) (fun c1 => ?_)
  · have j2 : n.toInt < 0 := (i_lt rfl (by decide)).mp c1
    refine lv_iconst (v := 0) hx hb dX10_sleepsOn_23 (by decide) ?_
    exact rz_z hx hb hr hlk (by decide) (by decide) dX10_sleepsOn_24
  · have j3 : ¬ (n.toInt < 0) := fun h => c1 ((i_lt rfl (by decide)).mpr h)
    refine lv_aload_n hx hb dX10_sleepsOn_4 rfl (lv_at hl 0 rfl) ?_
    refine va_get (D := J.1) (ci := 10) (v := .int 0) (C := RX10) (T := TX10) (N := 11) hx hb hts inX10 hown hK.1 hP 0 rfl rfl 9 (by decide) (hts _ q_190) (fun _ h9 => h9) rfl dX10_sleepsOn_5 ?_
    refine lv_iload_n hx hb dX10_sleepsOn_8 rfl (lv_at hl 1 rfl) ?_
    refine lv_bipush (v := 7) hx hb dX10_sleepsOn_9 (by decide) ?_
    refine lv_irem hx hb dX10_sleepsOn_11 (by decide) ?_
    refine lv_ishr hx hb dX10_sleepsOn_12 ?_
    refine top_i (y := 0) (sh0 _) ?_
    refine lv_iconst (v := 1) hx hb dX10_sleepsOn_13 (by decide) ?_
    refine lv_iand hx hb dX10_sleepsOn_14 ?_
    refine top_i (y := 0) (by decide) ?_
    refine lv_iconst (v := 1) hx hb dX10_sleepsOn_15 (by decide) ?_
    refine lv_icmp_ne (tgt := 23) hx hb dX10_sleepsOn_16 (by decide) (fun _ => ?_) (fun c => absurd c (by decide))
    refine lv_iconst (v := 0) hx hb dX10_sleepsOn_23 (by decide) ?_
    exact rz_z hx hb hr hlk (by decide) (by decide) dX10_sleepsOn_24
theorem dX10_mayBecome_0 : decode cX10_mayBecome 0 = .ok (.iload_n 2, 1) := by decide +kernel
theorem dX10_mayBecome_1 : decode cX10_mayBecome 1 = .ok (.tableswitch 117 0 3 #[31, 53, 76, 96], 31) := by decide +kernel
theorem dX10_mayBecome_32 : decode cX10_mayBecome 32 = .ok (.aload_n 0, 1) := by decide +kernel
theorem dX10_mayBecome_33 : decode cX10_mayBecome 33 = .ok (.iload_n 1, 1) := by decide +kernel
theorem dX10_mayBecome_34 : decode cX10_mayBecome 34 = .ok (.invokevirtual 39, 3) := by decide +kernel
theorem dX10_mayBecome_37 : decode cX10_mayBecome 37 = .ok (.ifCond .eq 15, 3) := by decide +kernel
theorem dX10_mayBecome_52 : decode cX10_mayBecome 52 = .ok (.iconst 0, 1) := by decide +kernel
theorem dX10_mayBecome_53 : decode cX10_mayBecome 53 = .ok (.ireturn, 1) := by decide +kernel
theorem dX10_mayBecome_54 : decode cX10_mayBecome 54 = .ok (.aload_n 0, 1) := by decide +kernel
theorem dX10_mayBecome_55 : decode cX10_mayBecome 55 = .ok (.iload_n 1, 1) := by decide +kernel
theorem dX10_mayBecome_56 : decode cX10_mayBecome 56 = .ok (.invokevirtual 39, 3) := by decide +kernel
theorem dX10_mayBecome_59 : decode cX10_mayBecome 59 = .ok (.ifCond .eq 16, 3) := by decide +kernel
theorem dX10_mayBecome_75 : decode cX10_mayBecome 75 = .ok (.iconst 0, 1) := by decide +kernel
theorem dX10_mayBecome_76 : decode cX10_mayBecome 76 = .ok (.ireturn, 1) := by decide +kernel
theorem dX10_mayBecome_77 : decode cX10_mayBecome 77 = .ok (.iload_n 1, 1) := by decide +kernel
theorem dX10_mayBecome_78 : decode cX10_mayBecome 78 = .ok (.ifCond .ne 17, 3) := by decide +kernel
theorem dX10_mayBecome_95 : decode cX10_mayBecome 95 = .ok (.iconst 0, 1) := by decide +kernel
theorem dX10_mayBecome_96 : decode cX10_mayBecome 96 = .ok (.ireturn, 1) := by decide +kernel
theorem dX10_mayBecome_81 : decode cX10_mayBecome 81 = .ok (.iload_n 3, 1) := by decide +kernel
theorem dX10_mayBecome_82 : decode cX10_mayBecome 82 = .ok (.iconst 1, 1) := by decide +kernel
theorem dX10_mayBecome_83 : decode cX10_mayBecome 83 = .ok (.if_icmp .eq 8, 3) := by decide +kernel
theorem dX10_mayBecome_91 : decode cX10_mayBecome 91 = .ok (.iconst 1, 1) := by decide +kernel
theorem dX10_mayBecome_92 : decode cX10_mayBecome 92 = .ok (.goto 4, 3) := by decide +kernel
theorem dX10_mayBecome_86 : decode cX10_mayBecome 86 = .ok (.iload_n 3, 1) := by decide +kernel
theorem dX10_mayBecome_87 : decode cX10_mayBecome 87 = .ok (.iconst 2, 1) := by decide +kernel
theorem dX10_mayBecome_88 : decode cX10_mayBecome 88 = .ok (.if_icmp .ne 7, 3) := by decide +kernel
theorem dX10_mayBecome_97 : decode cX10_mayBecome 97 = .ok (.iload_n 1, 1) := by decide +kernel
theorem dX10_mayBecome_98 : decode cX10_mayBecome 98 = .ok (.ifCond .ne 18, 3) := by decide +kernel
theorem dX10_mayBecome_116 : decode cX10_mayBecome 116 = .ok (.iconst 0, 1) := by decide +kernel
theorem dX10_mayBecome_117 : decode cX10_mayBecome 117 = .ok (.ireturn, 1) := by decide +kernel
theorem dX10_mayBecome_101 : decode cX10_mayBecome 101 = .ok (.iload_n 3, 1) := by decide +kernel
theorem dX10_mayBecome_102 : decode cX10_mayBecome 102 = .ok (.ifCond .lt 14, 3) := by decide +kernel
theorem dX10_mayBecome_105 : decode cX10_mayBecome 105 = .ok (.iload_n 3, 1) := by decide +kernel
theorem dX10_mayBecome_106 : decode cX10_mayBecome 106 = .ok (.sipush 128, 3) := by decide +kernel
theorem dX10_mayBecome_109 : decode cX10_mayBecome 109 = .ok (.if_icmp .ge 7, 3) := by decide +kernel
theorem dX10_mayBecome_112 : decode cX10_mayBecome 112 = .ok (.iconst 1, 1) := by decide +kernel
theorem dX10_mayBecome_113 : decode cX10_mayBecome 113 = .ok (.goto 4, 3) := by decide +kernel
theorem dX10_mayBecome_118 : decode cX10_mayBecome 118 = .ok (.iconst 0, 1) := by decide +kernel
theorem dX10_mayBecome_119 : decode cX10_mayBecome 119 = .ok (.ireturn, 1) := by decide +kernel
set_option maxHeartbeats 4000000 in
set_option maxRecDepth 100000 in
theorem cW_mayBecome (l : Launch) (J : va_J9) (w : Nat) (t : Nat) (we : Nat) (jo : Nat) (la : Nat) (n : Int32) (k : Int32) (v : Int32) : RC l J yX10_mayBecome cX10_mayBecome 4 (some .boolean) ({ frames := 1, cells := 0, slots := 0, locals := 21 }) [.ref w, .int n, .int k, .int v] [(w, .inr (10, [.ref t, .ref we, .ref jo, .ref la, .int 0, .int 0, .int 0, .int 0, .int 1, .int 0, .int 0]))] (vp_Si (fun r => r = B01 (n.toInt = 0 ∧ (k.toInt = 2 ∧ 1 ≤ v.toInt ∧ v.toInt ≤ 2 ∨ k.toInt = 3 ∧ 0 ≤ v.toInt ∧ v.toInt ≤ 127)))) := by
  refine rc_of (by decide) (Nat.le_of_ble_eq_true rfl) ?_
  intro p e s m below meth c ls hE hl hP hK
  obtain ⟨hx, hb, hr, hml, hown, hts, hlk, hin⟩ := hE
  have hown : s.vm.findClass RX10 = some m.cls := hown
  have hl : lv_has ls 4 [(0, .ref w), (1, .int n), (2, .int k), (3, .int v)] := hl
  have rg_n := i_rng n
  have rg_k := i_rng k
  have rg_v := i_rng v
  refine lv_iload_n hx hb dX10_mayBecome_0 rfl (lv_at hl 2 rfl) ?_
  rcases Decidable.em (k = 0) with c1 | c1
  · have j2 : k.toInt = 0 := (i_eq rfl (by decide)).mp c1
    refine top_i (y := 0) c1 ?_
    refine lv_tableIn (tgt := 32) (off := 31) hx hb dX10_mayBecome_1 (by decide) (by decide) (by decide) (by decide) ?_
    refine lv_aload_n hx hb dX10_mayBecome_32 rfl (lv_at hl 0 rfl) ?_
    refine lv_iload_n hx hb dX10_mayBecome_33 rfl (lv_at hl 1 rfl) ?_
    refine go_i (rn_V (As := [.int n]) (rest := []) hx hb hml hown hts hK (cW_isHole l J w t we jo la n) kV_RX10_39 hP rfl rfl rfl ⟨Nat.le_of_ble_eq_true rfl, Nat.le_of_ble_eq_true rfl⟩ rfl rfl rfl hl.1 rfl (Nat.le_of_ble_eq_true rfl) ⟨Nat.le_of_ble_eq_true rfl, Nat.le_of_ble_eq_true rfl⟩ dX10_mayBecome_34) ?_
    refine lv_if_eq (tgt := 52) hx hb dX10_mayBecome_37 (by decide) (fun _ => ?_) (fun c => absurd c (by decide))
    refine lv_iconst (v := 0) hx hb dX10_mayBecome_52 (by decide) ?_
    exact rz_z hx hb hr hlk (by decide) (b_f (by omega)) dX10_mayBecome_53
  have j3 : ¬ (k.toInt = 0) := fun h => c1 ((i_eq rfl (by decide)).mpr h)
  rcases Decidable.em (k = 1) with c4 | c4
  · have j5 : k.toInt = 1 := (i_eq rfl (by decide)).mp c4
    refine top_i (y := 1) c4 ?_
    refine lv_tableIn (tgt := 54) (off := 53) hx hb dX10_mayBecome_1 (by decide) (by decide) (by decide) (by decide) ?_
    refine lv_aload_n hx hb dX10_mayBecome_54 rfl (lv_at hl 0 rfl) ?_
    refine lv_iload_n hx hb dX10_mayBecome_55 rfl (lv_at hl 1 rfl) ?_
    refine go_i (rn_V (As := [.int n]) (rest := []) hx hb hml hown hts hK (cW_isHole l J w t we jo la n) kV_RX10_39 hP rfl rfl rfl ⟨Nat.le_of_ble_eq_true rfl, Nat.le_of_ble_eq_true rfl⟩ rfl rfl rfl hl.1 rfl (Nat.le_of_ble_eq_true rfl) ⟨Nat.le_of_ble_eq_true rfl, Nat.le_of_ble_eq_true rfl⟩ dX10_mayBecome_56) ?_
    refine lv_if_eq (tgt := 75) hx hb dX10_mayBecome_59 (by decide) (fun _ => ?_) (fun c => absurd c (by decide))
    refine lv_iconst (v := 0) hx hb dX10_mayBecome_75 (by decide) ?_
    exact rz_z hx hb hr hlk (by decide) (b_f (by omega)) dX10_mayBecome_76
  have j6 : ¬ (k.toInt = 1) := fun h => c4 ((i_eq rfl (by decide)).mpr h)
  rcases Decidable.em (k = 2) with c7 | c7
  · have j8 : k.toInt = 2 := (i_eq rfl (by decide)).mp c7
    refine top_i (y := 2) c7 ?_
    refine lv_tableIn (tgt := 77) (off := 76) hx hb dX10_mayBecome_1 (by decide) (by decide) (by decide) (by decide) ?_
    refine lv_iload_n hx hb dX10_mayBecome_77 rfl (lv_at hl 1 rfl) ?_
    refine lv_if_ne (tgt := 95) hx hb dX10_mayBecome_78 (by decide) (fun c9 => ?_) (fun c9 => ?_)
    · have j10 : ¬ (n.toInt = 0) := fun h => c9 ((i_eq rfl (by decide)).mpr h)
      refine lv_iconst (v := 0) hx hb dX10_mayBecome_95 (by decide) ?_
      exact rz_z hx hb hr hlk (by decide) (b_f (by omega)) dX10_mayBecome_96
    · have j11 : n.toInt = 0 := (i_eq rfl (by decide)).mp c9
      refine lv_iload_n hx hb dX10_mayBecome_81 rfl (lv_at hl 3 rfl) ?_
      refine lv_iconst (v := 1) hx hb dX10_mayBecome_82 (by decide) ?_
      refine lv_icmp_eq (tgt := 91) hx hb dX10_mayBecome_83 (by decide) (fun c12 => ?_) (fun c12 => ?_)
      · have j13 : v.toInt = 1 := (i_eq rfl (by decide)).mp c12
        refine lv_iconst (v := 1) hx hb dX10_mayBecome_91 (by decide) ?_
        refine lv_goto (tgt := 96) hx hb dX10_mayBecome_92 (by decide) ?_
        exact rz_z hx hb hr hlk (by decide) (b_t (by omega)) dX10_mayBecome_96
      · have j14 : ¬ (v.toInt = 1) := fun h => c12 ((i_eq rfl (by decide)).mpr h)
        refine lv_iload_n hx hb dX10_mayBecome_86 rfl (lv_at hl 3 rfl) ?_
        refine lv_iconst (v := 2) hx hb dX10_mayBecome_87 (by decide) ?_
        refine lv_icmp_ne (tgt := 95) hx hb dX10_mayBecome_88 (by decide) (fun c15 => ?_) (fun c15 => ?_)
        · have j16 : ¬ (v.toInt = 2) := fun h => c15 ((i_eq rfl (by decide)).mpr h)
          refine lv_iconst (v := 0) hx hb dX10_mayBecome_95 (by decide) ?_
          exact rz_z hx hb hr hlk (by decide) (b_f (by omega)) dX10_mayBecome_96
        · have j17 : v.toInt = 2 := (i_eq rfl (by decide)).mp c15
          refine lv_iconst (v := 1) hx hb dX10_mayBecome_91 (by decide) ?_
          refine lv_goto (tgt := 96) hx hb dX10_mayBecome_92 (by decide) ?_
          exact rz_z hx hb hr hlk (by decide) (b_t (by omega)) dX10_mayBecome_96
  have j18 : ¬ (k.toInt = 2) := fun h => c7 ((i_eq rfl (by decide)).mpr h)
  rcases Decidable.em (k = 3) with c19 | c19
  · have j20 : k.toInt = 3 := (i_eq rfl (by decide)).mp c19
    refine top_i (y := 3) c19 ?_
    refine lv_tableIn (tgt := 97) (off := 96) hx hb dX10_mayBecome_1 (by decide) (by decide) (by decide) (by decide) ?_
    refine lv_iload_n hx hb dX10_mayBecome_97 rfl (lv_at hl 1 rfl) ?_
    refine lv_if_ne (tgt := 116) hx hb dX10_mayBecome_98 (by decide) (fun c21 => ?_) (fun c21 => ?_)
    · have j22 : ¬ (n.toInt = 0) := fun h => c21 ((i_eq rfl (by decide)).mpr h)
      refine lv_iconst (v := 0) hx hb dX10_mayBecome_116 (by decide) ?_
      exact rz_z hx hb hr hlk (by decide) (b_f (by omega)) dX10_mayBecome_117
    · have j23 : n.toInt = 0 := (i_eq rfl (by decide)).mp c21
      refine lv_iload_n hx hb dX10_mayBecome_101 rfl (lv_at hl 3 rfl) ?_
      refine lv_if_lt (tgt := 116) hx hb dX10_mayBecome_102 (by decide) (fun c24 => ?_) (fun c24 => ?_)
      · have j25 : v.toInt < 0 := (i_lt rfl (by decide)).mp c24
        refine lv_iconst (v := 0) hx hb dX10_mayBecome_116 (by decide) ?_
        exact rz_z hx hb hr hlk (by decide) (b_f (by omega)) dX10_mayBecome_117
      · have j26 : ¬ (v.toInt < 0) := fun h => c24 ((i_lt rfl (by decide)).mpr h)
        refine lv_iload_n hx hb dX10_mayBecome_105 rfl (lv_at hl 3 rfl) ?_
        refine lv_sipush (v := 128) hx hb dX10_mayBecome_106 (by decide) ?_
        refine lv_icmp_ge (tgt := 116) hx hb dX10_mayBecome_109 (by decide) (fun c27 => ?_) (fun c27 => ?_)
        · have j28 : 128 ≤ v.toInt := (i_le (by decide) rfl).mp c27
          refine lv_iconst (v := 0) hx hb dX10_mayBecome_116 (by decide) ?_
          exact rz_z hx hb hr hlk (by decide) (b_f (by omega)) dX10_mayBecome_117
        · have j29 : ¬ (128 ≤ v.toInt) := fun h => c27 ((i_le (by decide) rfl).mpr h)
          refine lv_iconst (v := 1) hx hb dX10_mayBecome_112 (by decide) ?_
          refine lv_goto (tgt := 117) hx hb dX10_mayBecome_113 (by decide) ?_
          exact rz_z hx hb hr hlk (by decide) (b_t (by omega)) dX10_mayBecome_117
  have j30 : ¬ (k.toInt = 3) := fun h => c19 ((i_eq rfl (by decide)).mpr h)
  refine lv_tableOut (tgt := 118) hx hb dX10_mayBecome_1 (by omega) (by decide) ?_
  refine lv_iconst (v := 0) hx hb dX10_mayBecome_118 (by decide) ?_
  exact rz_z hx hb hr hlk (by decide) (b_f (by omega)) dX10_mayBecome_119
set_option maxHeartbeats 4000000 in
set_option maxRecDepth 100000 in
theorem cW_mayB2 (l : Launch) (J : va_J9) (w : Nat) (t : Nat) (we : Nat) (jo : Nat) (la : Nat) (v : Int32) : RC l J yX10_mayBecome cX10_mayBecome 4 (some .boolean) ({ frames := 0, cells := 0, slots := 0, locals := 0 }) [.ref w, .int 0, .int 2, .int v] [(w, .inr (10, [.ref t, .ref we, .ref jo, .ref la, .int 0, .int 0, .int 0, .int 0, .int 1, .int 0, .int 0]))] (vp_Si (fun r => r = B01 (1 ≤ v.toInt ∧ v.toInt ≤ 2))) := by
  refine rc_of (by decide) (Nat.le_of_ble_eq_true rfl) ?_
  intro p e s m below meth c ls hE hl hP hK
  obtain ⟨hx, hb, hr, hml, hown, hts, hlk, hin⟩ := hE
  have hown : s.vm.findClass RX10 = some m.cls := hown
  have hl : lv_has ls 4 [(0, .ref w), (1, .int 0), (2, .int 2), (3, .int v)] := hl
  have rg_v := i_rng v
  refine lv_iload_n hx hb dX10_mayBecome_0 rfl (lv_at hl 2 rfl) ?_
  refine lv_tableIn (tgt := 77) (off := 76) hx hb dX10_mayBecome_1 (by decide) (by decide) (by decide) (by decide) ?_
  refine lv_iload_n hx hb dX10_mayBecome_77 rfl (lv_at hl 1 rfl) ?_
  refine lv_if_ne (tgt := 95) hx hb dX10_mayBecome_78 (by decide) (fun c => absurd c (by decide)) (fun _ => ?_)
  refine lv_iload_n hx hb dX10_mayBecome_81 rfl (lv_at hl 3 rfl) ?_
  refine lv_iconst (v := 1) hx hb dX10_mayBecome_82 (by decide) ?_
  refine lv_icmp_eq (tgt := 91) hx hb dX10_mayBecome_83 (by decide) (fun c1 => ?_) (fun c1 => ?_)
  · have j2 : v.toInt = 1 := (i_eq rfl (by decide)).mp c1
    refine lv_iconst (v := 1) hx hb dX10_mayBecome_91 (by decide) ?_
    refine lv_goto (tgt := 96) hx hb dX10_mayBecome_92 (by decide) ?_
    exact rz_z hx hb hr hlk (by decide) (b_t (by omega)) dX10_mayBecome_96
  · have j3 : ¬ (v.toInt = 1) := fun h => c1 ((i_eq rfl (by decide)).mpr h)
    refine lv_iload_n hx hb dX10_mayBecome_86 rfl (lv_at hl 3 rfl) ?_
    refine lv_iconst (v := 2) hx hb dX10_mayBecome_87 (by decide) ?_
    refine lv_icmp_ne (tgt := 95) hx hb dX10_mayBecome_88 (by decide) (fun c4 => ?_) (fun c4 => ?_)
    · have j5 : ¬ (v.toInt = 2) := fun h => c4 ((i_eq rfl (by decide)).mpr h)
      refine lv_iconst (v := 0) hx hb dX10_mayBecome_95 (by decide) ?_
      exact rz_z hx hb hr hlk (by decide) (b_f (by omega)) dX10_mayBecome_96
    · have j6 : v.toInt = 2 := (i_eq rfl (by decide)).mp c4
      refine lv_iconst (v := 1) hx hb dX10_mayBecome_91 (by decide) ?_
      refine lv_goto (tgt := 96) hx hb dX10_mayBecome_92 (by decide) ?_
      exact rz_z hx hb hr hlk (by decide) (b_t (by omega)) dX10_mayBecome_96
set_option maxHeartbeats 4000000 in
set_option maxRecDepth 100000 in
theorem cW_mayB3 (l : Launch) (J : va_J9) (w : Nat) (t : Nat) (we : Nat) (jo : Nat) (la : Nat) (v : Int32) : RC l J yX10_mayBecome cX10_mayBecome 4 (some .boolean) ({ frames := 0, cells := 0, slots := 0, locals := 0 }) [.ref w, .int 0, .int 3, .int v] [(w, .inr (10, [.ref t, .ref we, .ref jo, .ref la, .int 0, .int 0, .int 0, .int 0, .int 1, .int 0, .int 0]))] (vp_Si (fun r => r = B01 (0 ≤ v.toInt ∧ v.toInt ≤ 127))) := by
  refine rc_of (by decide) (Nat.le_of_ble_eq_true rfl) ?_
  intro p e s m below meth c ls hE hl hP hK
  obtain ⟨hx, hb, hr, hml, hown, hts, hlk, hin⟩ := hE
  have hown : s.vm.findClass RX10 = some m.cls := hown
  have hl : lv_has ls 4 [(0, .ref w), (1, .int 0), (2, .int 3), (3, .int v)] := hl
  have rg_v := i_rng v
  refine lv_iload_n hx hb dX10_mayBecome_0 rfl (lv_at hl 2 rfl) ?_
  refine lv_tableIn (tgt := 97) (off := 96) hx hb dX10_mayBecome_1 (by decide) (by decide) (by decide) (by decide) ?_
  refine lv_iload_n hx hb dX10_mayBecome_97 rfl (lv_at hl 1 rfl) ?_
  refine lv_if_ne (tgt := 116) hx hb dX10_mayBecome_98 (by decide) (fun c => absurd c (by decide)) (fun _ => ?_)
  refine lv_iload_n hx hb dX10_mayBecome_101 rfl (lv_at hl 3 rfl) ?_
  refine lv_if_lt (tgt := 116) hx hb dX10_mayBecome_102 (by decide) (fun c1 => ?_) (fun c1 => ?_)
  · have j2 : v.toInt < 0 := (i_lt rfl (by decide)).mp c1
    refine lv_iconst (v := 0) hx hb dX10_mayBecome_116 (by decide) ?_
    exact rz_z hx hb hr hlk (by decide) (b_f (by omega)) dX10_mayBecome_117
  · have j3 : ¬ (v.toInt < 0) := fun h => c1 ((i_lt rfl (by decide)).mpr h)
    refine lv_iload_n hx hb dX10_mayBecome_105 rfl (lv_at hl 3 rfl) ?_
    refine lv_sipush (v := 128) hx hb dX10_mayBecome_106 (by decide) ?_
    refine lv_icmp_ge (tgt := 116) hx hb dX10_mayBecome_109 (by decide) (fun c4 => ?_) (fun c4 => ?_)
    · have j5 : 128 ≤ v.toInt := (i_le (by decide) rfl).mp c4
      refine lv_iconst (v := 0) hx hb dX10_mayBecome_116 (by decide) ?_
      exact rz_z hx hb hr hlk (by decide) (b_f (by omega)) dX10_mayBecome_117
    · have j6 : ¬ (128 ≤ v.toInt) := fun h => c4 ((i_le (by decide) rfl).mpr h)
      refine lv_iconst (v := 1) hx hb dX10_mayBecome_112 (by decide) ?_
      refine lv_goto (tgt := 117) hx hb dX10_mayBecome_113 (by decide) ?_
      exact rz_z hx hb hr hlk (by decide) (b_t (by omega)) dX10_mayBecome_117
theorem dX10_told_0 : decode cX10_told 0 = .ok (.iload_n 2, 1) := by decide +kernel
theorem dX10_told_1 : decode cX10_told 1 = .ok (.tableswitch 72 0 2 #[27, 46, 67], 27) := by decide +kernel
theorem dX10_told_68 : decode cX10_told 68 = .ok (.aload_n 0, 1) := by decide +kernel
theorem q_184 : Cond.fieldLink RX10 21 RX10 "lookers" "I" ∈ lw_g := mem_q 184 (by decide +kernel) rfl
theorem dX10_told_69 : decode cX10_told 69 = .ok (.getfield 21, 3) := by decide +kernel
theorem dX10_told_72 : decode cX10_told 72 = .ok (.ireturn, 1) := by decide +kernel
set_option maxHeartbeats 4000000 in
set_option maxRecDepth 100000 in
theorem cW_told2 (l : Launch) (J : va_J9) (w : Nat) (t : Nat) (we : Nat) (jo : Nat) (la : Nat) (n : Int32) : RC l J yX10_told cX10_told 3 (some .int) ({ frames := 0, cells := 0, slots := 0, locals := 0 }) [.ref w, .int n, .int 2] [(w, .inr (10, [.ref t, .ref we, .ref jo, .ref la, .int 0, .int 0, .int 0, .int 0, .int 1, .int 0, .int 0]))] (vp_Si (fun r => r = 1)) := by
  refine rc_of (by decide) (Nat.le_of_ble_eq_true rfl) ?_
  intro p e s m below meth c ls hE hl hP hK
  obtain ⟨hx, hb, hr, hml, hown, hts, hlk, hin⟩ := hE
  have hown : s.vm.findClass RX10 = some m.cls := hown
  have hl : lv_has ls 3 [(0, .ref w), (1, .int n), (2, .int 2)] := hl
  have rg_n := i_rng n
  refine lv_iload_n hx hb dX10_told_0 rfl (lv_at hl 2 rfl) ?_
  refine lv_tableIn (tgt := 68) (off := 67) hx hb dX10_told_1 (by decide) (by decide) (by decide) (by decide) ?_
  refine lv_aload_n hx hb dX10_told_68 rfl (lv_at hl 0 rfl) ?_
  refine va_get (D := J.1) (ci := 10) (v := .int 1) (C := RX10) (T := TX10) (N := 11) hx hb hts inX10 hown hK.1 hP 0 rfl rfl 8 (by decide) (hts _ q_184) (fun _ h9 => h9) rfl dX10_told_69 ?_
  exact rz_i hx hb hr hlk (by decide) dX10_told_72
theorem dX10_told_73 : decode cX10_told 73 = .ok (.aload_n 0, 1) := by decide +kernel
theorem dX10_told_74 : decode cX10_told 74 = .ok (.getfield 77, 3) := by decide +kernel
theorem dX10_told_77 : decode cX10_told 77 = .ok (.ireturn, 1) := by decide +kernel
set_option maxHeartbeats 4000000 in
set_option maxRecDepth 100000 in
theorem cW_told3 (l : Launch) (J : va_J9) (w : Nat) (t : Nat) (we : Nat) (jo : Nat) (la : Nat) (n : Int32) : RC l J yX10_told cX10_told 3 (some .int) ({ frames := 0, cells := 0, slots := 0, locals := 0 }) [.ref w, .int n, .int 3] [(w, .inr (10, [.ref t, .ref we, .ref jo, .ref la, .int 0, .int 0, .int 0, .int 0, .int 1, .int 0, .int 0]))] (vp_Si (fun r => r = 0)) := by
  refine rc_of (by decide) (Nat.le_of_ble_eq_true rfl) ?_
  intro p e s m below meth c ls hE hl hP hK
  obtain ⟨hx, hb, hr, hml, hown, hts, hlk, hin⟩ := hE
  have hown : s.vm.findClass RX10 = some m.cls := hown
  have hl : lv_has ls 3 [(0, .ref w), (1, .int n), (2, .int 3)] := hl
  have rg_n := i_rng n
  refine lv_iload_n hx hb dX10_told_0 rfl (lv_at hl 2 rfl) ?_
  refine lv_tableOut (tgt := 73) hx hb dX10_told_1 (by decide) (by decide) ?_
  refine lv_aload_n hx hb dX10_told_73 rfl (lv_at hl 0 rfl) ?_
  refine va_get (D := J.1) (ci := 10) (v := .int 0) (C := RX10) (T := TX10) (N := 11) hx hb hts inX10 hown hK.1 hP 0 rfl rfl 9 (by decide) (hts _ q_190) (fun _ h9 => h9) rfl dX10_told_74 ?_
  exact rz_i hx hb hr hlk (by decide) dX10_told_77
theorem dX10_settle_0 : decode cX10_settle 0 = .ok (.aload_n 0, 1) := by decide +kernel
theorem q_176 : Cond.fieldLink RX10 29 RX10 "lawfulIsOld" "Z" ∈ lw_g := mem_q 176 (by decide +kernel) rfl
theorem dX10_settle_1 : decode cX10_settle 1 = .ok (.getfield 29, 3) := by decide +kernel
theorem dX10_settle_4 : decode cX10_settle 4 = .ok (.ifCond .ne 4, 3) := by decide +kernel
theorem dX10_settle_7 : decode cX10_settle 7 = .ok (.return_, 1) := by decide +kernel
set_option maxHeartbeats 4000000 in
set_option maxRecDepth 100000 in
theorem cW_settle0 (l : Launch) (J : va_J9) (w : Nat) (t : Nat) (we : Nat) (jo : Nat) (la : Nat) (f5 : Int32) (f6 : Int32) (f7 : Int32) (f8 : Int32) (f9 : Int32) (f10 : Int32) : RC l J yX10_settle cX10_settle 4 none ({ frames := 0, cells := 0, slots := 0, locals := 0 }) [.ref w] [(w, .inr (10, [.ref t, .ref we, .ref jo, .ref la, .int 0, .int f5, .int f6, .int f7, .int f8, .int f9, .int f10]))] (va_Sv (fun _ => True)) := by
  refine rc_of (by decide) (Nat.le_of_ble_eq_true rfl) ?_
  intro p e s m below meth c ls hE hl hP hK
  obtain ⟨hx, hb, hr, hml, hown, hts, hlk, hin⟩ := hE
  have hown : s.vm.findClass RX10 = some m.cls := hown
  have hl : lv_has ls 4 [(0, .ref w)] := hl
  refine lv_aload_n hx hb dX10_settle_0 rfl (lv_at hl 0 rfl) ?_
  refine va_get (D := J.1) (ci := 10) (v := .int 0) (C := RX10) (T := TX10) (N := 11) hx hb hts inX10 hown hK.1 hP 0 rfl rfl 4 (by decide) (hts _ q_176) (fun _ h9 => h9) rfl dX10_settle_1 ?_
  refine lv_if_ne (tgt := 8) hx hb dX10_settle_4 (by decide) (fun c => absurd c (by decide)) (fun _ => ?_)
  exact rz_v hx hb hr hlk dX10_settle_7
theorem dX10_changed_0 : decode cX10_changed 0 = .ok (.aload_n 0, 1) := by decide +kernel
theorem dX10_changed_1 : decode cX10_changed 1 = .ok (.iconst 1, 1) := by decide +kernel
theorem dX10_changed_2 : decode cX10_changed 2 = .ok (.putfield 29, 3) := by decide +kernel
theorem dX10_changed_5 : decode cX10_changed 5 = .ok (.aload_n 0, 1) := by decide +kernel
theorem dX10_changed_6 : decode cX10_changed 6 = .ok (.dup, 1) := by decide +kernel
theorem q_191 : Cond.fieldLink RX10 33 RX10 "version" "I" ∈ lw_g := mem_q 191 (by decide +kernel) rfl
theorem dX10_changed_7 : decode cX10_changed 7 = .ok (.getfield 33, 3) := by decide +kernel
theorem dX10_changed_10 : decode cX10_changed 10 = .ok (.iconst 1, 1) := by decide +kernel
theorem dX10_changed_11 : decode cX10_changed 11 = .ok (.iadd, 1) := by decide +kernel
theorem dX10_changed_12 : decode cX10_changed 12 = .ok (.putfield 33, 3) := by decide +kernel
theorem dX10_changed_15 : decode cX10_changed 15 = .ok (.return_, 1) := by decide +kernel
set_option maxHeartbeats 4000000 in
set_option maxRecDepth 100000 in
theorem cW_changed (l : Launch) (J : va_J9) (sz : Nat) (w : Nat) (t : Nat) (we : Nat) (jo : Nat) (la : Nat) (f6 : Int32) : WC l J yX10_changed cX10_changed 1 none ({ frames := 0, cells := 0, slots := 0, locals := 0 }) [.ref w] [(w, .inr (10, [.ref t, .ref we, .ref jo, .ref la, .int 0, .int 0, .int f6, .int 0, .int 1, .int 0, .int 0]))] sz (Qv J (fun (u : Unit) => True) (fun (_ : Unit) => [(w, .inr (10, [.ref t, .ref we, .ref jo, .ref la, .int 1, .int 0, .int f6, .int 0, .int 1, .int 0, .int 1]))])) 0 0 := by
  refine wc_of (by decide) (Nat.le_of_ble_eq_true rfl) ?_
  intro p e s m below meth c ls A hE hl hP hK hD hS hA
  obtain ⟨hx, hb, hr, hml, hown, hts, hlk, hin⟩ := hE
  have hown : s.vm.findClass RX10 = some m.cls := hown
  have hl : lv_has ls 1 [(0, .ref w)] := hl
  refine lv_aload_n hx hb dX10_changed_0 rfl (lv_at hl 0 rfl) ?_
  refine lv_iconst (v := 1) hx hb dX10_changed_1 (by decide) ?_
  refine va_put (D := J.1) (ci := 10) (v := .int 1) (ty := (.boolean)) (C := RX10) (T := TX10) (N := 11) hx hb hts inX10 tyX10 tyX10_ok nmX10 hown hK.1 hP hD hS 0 rfl rfl 4 (by decide) (hts _ q_176) (fun _ h9 => h9) rfl (by decide +kernel) rfl rfl (Nat.le_of_ble_eq_true rfl) dX10_changed_2 (fun H locs hP hD hS => ?_)
  have hP : va_P J.1 cls [(w, .inr (10, [.ref t, .ref we, .ref jo, .ref la, .int 1, .int 0, .int f6, .int 0, .int 1, .int 0, .int 0]))] H := hP
  have hD : va_D A [(w, .inr (10, [.ref t, .ref we, .ref jo, .ref la, .int 1, .int 0, .int f6, .int 0, .int 1, .int 0, .int 0]))] := hD
  refine lv_aload_n hx hb dX10_changed_5 rfl (lv_at hl 0 rfl) ?_
  refine lv_dup hx hb dX10_changed_6 rfl ?_
  refine va_get (D := J.1) (ci := 10) (v := .int 0) (C := RX10) (T := TX10) (N := 11) hx hb hts inX10 hown hK.1 hP 0 rfl rfl 10 (by decide) (hts _ q_191) (fun _ h9 => h9) rfl dX10_changed_7 ?_
  refine lv_iconst (v := 1) hx hb dX10_changed_10 (by decide) ?_
  refine lv_iadd hx hb dX10_changed_11 ?_
  refine top_i (y := 1) (by decide) ?_
  refine va_put (D := J.1) (ci := 10) (v := .int 1) (ty := (.int)) (C := RX10) (T := TX10) (N := 11) hx hb hts inX10 tyX10 tyX10_ok nmX10 hown hK.1 hP hD hS 0 rfl rfl 10 (by decide) (hts _ q_191) (fun _ h9 => h9) rfl (by decide +kernel) rfl rfl (Nat.le_of_ble_eq_true rfl) dX10_changed_12 (fun H locs hP hD hS => ?_)
  have hP : va_P J.1 cls [(w, .inr (10, [.ref t, .ref we, .ref jo, .ref la, .int 1, .int 0, .int f6, .int 0, .int 1, .int 0, .int 1]))] H := hP
  have hD : va_D A [(w, .inr (10, [.ref t, .ref we, .ref jo, .ref la, .int 1, .int 0, .int f6, .int 0, .int 1, .int 0, .int 1]))] := hD
  exact wz_v () hx hb hr hlk trivial hP hD hS dX10_changed_15
theorem dX10_addHole_0 : decode cX10_addHole 0 = .ok (.aload_n 0, 1) := by decide +kernel
theorem dX10_addHole_1 : decode cX10_addHole 1 = .ok (.getfield 36, 3) := by decide +kernel
theorem dX10_addHole_4 : decode cX10_addHole 4 = .ok (.bipush 10, 2) := by decide +kernel
theorem dX10_addHole_6 : decode cX10_addHole 6 = .ok (.if_icmp .lt 6, 3) := by decide +kernel
theorem dX10_addHole_12 : decode cX10_addHole 12 = .ok (.aload_n 0, 1) := by decide +kernel
theorem q_173 : Cond.fieldLink RX10 9 RX10 "weights" "[I" ∈ lw_g := mem_q 173 (by decide +kernel) rfl
theorem dX10_addHole_13 : decode cX10_addHole 13 = .ok (.getfield 9, 3) := by decide +kernel
theorem dX10_addHole_16 : decode cX10_addHole 16 = .ok (.aload_n 0, 1) := by decide +kernel
theorem dX10_addHole_17 : decode cX10_addHole 17 = .ok (.dup, 1) := by decide +kernel
theorem dX10_addHole_18 : decode cX10_addHole 18 = .ok (.getfield 36, 3) := by decide +kernel
theorem dX10_addHole_21 : decode cX10_addHole 21 = .ok (.dup_x1, 1) := by decide +kernel
theorem dX10_addHole_22 : decode cX10_addHole 22 = .ok (.iconst 1, 1) := by decide +kernel
theorem dX10_addHole_23 : decode cX10_addHole 23 = .ok (.iadd, 1) := by decide +kernel
theorem dX10_addHole_24 : decode cX10_addHole 24 = .ok (.putfield 36, 3) := by decide +kernel
theorem dX10_addHole_27 : decode cX10_addHole 27 = .ok (.iload_n 1, 1) := by decide +kernel
theorem dX10_addHole_28 : decode cX10_addHole 28 = .ok (.iastore, 1) := by decide +kernel
theorem dX10_addHole_29 : decode cX10_addHole 29 = .ok (.aload_n 0, 1) := by decide +kernel
theorem q_512 : Cond.methodLink RX10 46 yX10_changed ∈ lw_g := mem_q 512 (by decide +kernel) rfl
theorem q_513 : Cond.instanceMethod yX10_changed ∈ lw_g := mem_q 513 (by decide +kernel) rfl
theorem q_514 : Cond.selects RX10 yX10_changed yX10_changed ∈ lw_g := mem_q 514 (by decide +kernel) rfl
theorem q_515 : Cond.code yX10_changed cX10_changed 1 none ∈ lw_g := mem_q 515 (by decide +kernel) rfl
theorem kV_RX10_46 : CV RX10 46 RX10 yX10_changed cX10_changed 1 none 0 := cv_of q_512 q_513 q_514 q_105 q_515 (by decide +kernel)
theorem dX10_addHole_30 : decode cX10_addHole 30 = .ok (.invokevirtual 46, 3) := by decide +kernel
theorem dX10_addHole_33 : decode cX10_addHole 33 = .ok (.aload_n 0, 1) := by decide +kernel
theorem dX10_addHole_34 : decode cX10_addHole 34 = .ok (.getfield 36, 3) := by decide +kernel
theorem dX10_addHole_37 : decode cX10_addHole 37 = .ok (.iconst 1, 1) := by decide +kernel
theorem dX10_addHole_38 : decode cX10_addHole 38 = .ok (.isub, 1) := by decide +kernel
theorem dX10_addHole_39 : decode cX10_addHole 39 = .ok (.ireturn, 1) := by decide +kernel
set_option maxHeartbeats 4000000 in
set_option maxRecDepth 100000 in
theorem cW_addHole (l : Launch) (J : va_J9) (sz : Nat) (w : Nat) (t : Nat) (we : Nat) (jo : Nat) (la : Nat) (n : Int32) : WC l J yX10_addHole cX10_addHole 2 (some .int) ({ frames := 1, cells := 0, slots := 0, locals := 20 }) [.ref w, .int n] [(w, .inr (10, [.ref t, .ref we, .ref jo, .ref la, .int 0, .int 0, .int 0, .int 0, .int 1, .int 0, .int 0])), (we, .inl (J.2.1, 10, .inl (fun _ => 0)))] sz (Qi J (fun (r : Int32) (_ : Unit) => r = 0) (fun (_ : Unit) => [(w, .inr (10, [.ref t, .ref we, .ref jo, .ref la, .int 1, .int 0, .int 1, .int 0, .int 1, .int 0, .int 1])), (we, .inl (J.2.1, 10, .inl (upd (fun _ => 0) (0 : Int32).toNatClampNeg n)))])) 0 0 := by
  refine wc_of (by decide) (Nat.le_of_ble_eq_true rfl) ?_
  intro p e s m below meth c ls A hE hl hP hK hD hS hA
  obtain ⟨hx, hb, hr, hml, hown, hts, hlk, hin⟩ := hE
  have hown : s.vm.findClass RX10 = some m.cls := hown
  have hl : lv_has ls 2 [(0, .ref w), (1, .int n)] := hl
  have rg_n := i_rng n
  refine lv_aload_n hx hb dX10_addHole_0 rfl (lv_at hl 0 rfl) ?_
  refine va_get (D := J.1) (ci := 10) (v := .int 0) (C := RX10) (T := TX10) (N := 11) hx hb hts inX10 hown hK.1 hP 0 rfl rfl 6 (by decide) (hts _ q_178) (fun _ h9 => h9) rfl dX10_addHole_1 ?_
  refine lv_bipush (v := 10) hx hb dX10_addHole_4 (by decide) ?_
  refine lv_icmp_lt (tgt := 12) hx hb dX10_addHole_6 (by decide) (fun _ => ?_) (fun c => absurd c (by decide))
  refine lv_aload_n hx hb dX10_addHole_12 rfl (lv_at hl 0 rfl) ?_
  refine va_get (D := J.1) (ci := 10) (v := .ref we) (C := RX10) (T := TX10) (N := 11) hx hb hts inX10 hown hK.1 hP 0 rfl rfl 1 (by decide) (hts _ q_173) (fun _ h9 => h9) rfl dX10_addHole_13 ?_
  refine lv_aload_n hx hb dX10_addHole_16 rfl (lv_at hl 0 rfl) ?_
  refine lv_dup hx hb dX10_addHole_17 rfl ?_
  refine va_get (D := J.1) (ci := 10) (v := .int 0) (C := RX10) (T := TX10) (N := 11) hx hb hts inX10 hown hK.1 hP 0 rfl rfl 6 (by decide) (hts _ q_178) (fun _ h9 => h9) rfl dX10_addHole_18 ?_
  refine lv_dup_x1 hx hb dX10_addHole_21 rfl rfl ?_
  refine lv_iconst (v := 1) hx hb dX10_addHole_22 (by decide) ?_
  refine lv_iadd hx hb dX10_addHole_23 ?_
  refine top_i (y := 1) (by decide) ?_
  refine va_put (D := J.1) (ci := 10) (v := .int 1) (ty := (.int)) (C := RX10) (T := TX10) (N := 11) hx hb hts inX10 tyX10 tyX10_ok nmX10 hown hK.1 hP hD hS 0 rfl rfl 6 (by decide) (hts _ q_178) (fun _ h9 => h9) rfl (by decide +kernel) rfl rfl (Nat.le_of_ble_eq_true rfl) dX10_addHole_24 (fun H locs hP hD hS => ?_)
  have hP : va_P J.1 cls [(w, .inr (10, [.ref t, .ref we, .ref jo, .ref la, .int 0, .int 0, .int 1, .int 0, .int 1, .int 0, .int 0])), (we, .inl (J.2.1, 10, .inl (fun _ => 0)))] H := hP
  have hD : va_D A [(w, .inr (10, [.ref t, .ref we, .ref jo, .ref la, .int 0, .int 0, .int 1, .int 0, .int 1, .int 0, .int 0])), (we, .inl (J.2.1, 10, .inl (fun _ => 0)))] := hD
  refine lv_iload_n hx hb dX10_addHole_27 rfl (lv_at hl 1 rfl) ?_
  have h1 : vp_in 0 10 := (i_in (a := 0) (by decide) (by omega) (by omega))
  refine va_iast hx hb hK.1 hP hD hS 1 0 rfl rfl h1 dX10_addHole_28 (fun H locs hP hD hS => ?_)
  have hP : va_P J.1 cls [(w, .inr (10, [.ref t, .ref we, .ref jo, .ref la, .int 0, .int 0, .int 1, .int 0, .int 1, .int 0, .int 0])), (we, .inl (J.2.1, 10, .inl (upd (fun _ => 0) (0 : Int32).toNatClampNeg n)))] H := hP
  have hD : va_D A [(w, .inr (10, [.ref t, .ref we, .ref jo, .ref la, .int 0, .int 0, .int 1, .int 0, .int 1, .int 0, .int 0])), (we, .inl (J.2.1, 10, .inl (upd (fun _ => 0) (0 : Int32).toNatClampNeg n)))] := hD
  refine lv_aload_n hx hb dX10_addHole_29 rfl (lv_at hl 0 rfl) ?_
  refine gw_v (wc := [(w, .inr (10, [.ref t, .ref we, .ref jo, .ref la, .int 0, .int 0, .int 1, .int 0, .int 1, .int 0, .int 0]))]) (wr := [(we, .inl (J.2.1, 10, .inl (upd (fun _ => 0) (0 : Int32).toNatClampNeg n)))]) hP hD hS hA [0] [1] rfl rfl (by decide) (by decide) (wn_V (As := []) (rest := []) hx hb hml hown hts hK (cW_changed l J _ w t we jo la 1) kV_RX10_46 (hP.sub (ws' := [(w, .inr (10, [.ref t, .ref we, .ref jo, .ref la, .int 0, .int 0, .int 1, .int 0, .int 1, .int 0, .int 0]))]) [0] rfl) ((hD.sub (ws' := [(w, .inr (10, [.ref t, .ref we, .ref jo, .ref la, .int 0, .int 0, .int 1, .int 0, .int 1, .int 0, .int 0]))]) [0] (by decide) rfl).weaken (fun _ _ _ _ => trivial)) rfl rfl rfl ⟨Nat.le_of_ble_eq_true rfl, Nat.le_of_ble_eq_true rfl⟩ rfl rfl rfl hl.1 rfl (Nat.le_of_ble_eq_true rfl) ⟨Nat.le_of_ble_eq_true rfl, Nat.le_of_ble_eq_true rfl⟩ dX10_addHole_30) (fun u2 H locs hw hP hD hS => ?_)
  have hP : va_P J.1 cls [(we, .inl (J.2.1, 10, .inl (upd (fun _ => 0) (0 : Int32).toNatClampNeg n))), (w, .inr (10, [.ref t, .ref we, .ref jo, .ref la, .int 1, .int 0, .int 1, .int 0, .int 1, .int 0, .int 1]))] H := hP
  have hD : va_D A [(we, .inl (J.2.1, 10, .inl (upd (fun _ => 0) (0 : Int32).toNatClampNeg n))), (w, .inr (10, [.ref t, .ref we, .ref jo, .ref la, .int 1, .int 0, .int 1, .int 0, .int 1, .int 0, .int 1]))] := hD
  refine W.widen (k := 0) (n := 0) (Nat.le_of_ble_eq_true rfl) (Nat.le_of_ble_eq_true rfl) ?_
  refine lv_aload_n hx hb dX10_addHole_33 rfl (lv_at hl 0 rfl) ?_
  refine va_get (D := J.1) (ci := 10) (v := .int 1) (C := RX10) (T := TX10) (N := 11) hx hb hts inX10 hown hK.1 hP 1 rfl rfl 6 (by decide) (hts _ q_178) (fun _ h9 => h9) rfl dX10_addHole_34 ?_
  refine lv_iconst (v := 1) hx hb dX10_addHole_37 (by decide) ?_
  refine lv_isub hx hb dX10_addHole_38 ?_
  refine top_i (y := 0) (by decide) ?_
  exact wz_i () hx hb hr hlk (by decide) (hP.sub (ws' := [(w, .inr (10, [.ref t, .ref we, .ref jo, .ref la, .int 1, .int 0, .int 1, .int 0, .int 1, .int 0, .int 1])), (we, .inl (J.2.1, 10, .inl (upd (fun _ => 0) (0 : Int32).toNatClampNeg n)))]) [1, 0] rfl) (hD.sub (ws' := [(w, .inr (10, [.ref t, .ref we, .ref jo, .ref la, .int 1, .int 0, .int 1, .int 0, .int 1, .int 0, .int 1])), (we, .inl (J.2.1, 10, .inl (upd (fun _ => 0) (0 : Int32).toNatClampNeg n)))]) [1, 0] (by decide) rfl) hS dX10_addHole_39
end
section
theorem dX7_worth_0 : decode cX7_worth 0 = .ok (.aload_n 0, 1) := by decide +kernel
theorem q_141 : Cond.fieldLink RX7 47 RX7 "codeSize" "I" ∈ lw_g := mem_q 141 (by decide +kernel) rfl
theorem dX7_worth_1 : decode cX7_worth 1 = .ok (.getfield 47, 3) := by decide +kernel
theorem dX7_worth_4 : decode cX7_worth 4 = .ok (.ifCond .ne 5, 3) := by decide +kernel
theorem dX7_worth_7 : decode cX7_worth 7 = .ok (.iload_n 3, 1) := by decide +kernel
theorem dX7_worth_8 : decode cX7_worth 8 = .ok (.ireturn, 1) := by decide +kernel
set_option maxHeartbeats 4000000 in
set_option maxRecDepth 100000 in
theorem cL_worth (l : Launch) (J : va_J9) (t : Nat) (ta : Nat) (dr : Nat) (co : Nat) (sk : Nat) (x : Int32) (y : Int32) (jn : Int32) (we : Int32) (n : Int32) : RC l J yX7_worth cX7_worth 9 (some .int) ({ frames := 0, cells := 0, slots := 0, locals := 0 }) [.ref t, .int x, .int y, .int jn, .int we, .int n] [(t, .inr (7, [.ref ta, .int 0, .ref dr, .int 0, .int 0, .int 0, .ref co, .int 0, .ref sk, .int 0]))] (vp_Si (fun r => r = jn)) := by
  refine rc_of (by decide) (Nat.le_of_ble_eq_true rfl) ?_
  intro p e s m below meth c ls hE hl hP hK
  obtain ⟨hx, hb, hr, hml, hown, hts, hlk, hin⟩ := hE
  have hown : s.vm.findClass RX7 = some m.cls := hown
  have hl : lv_has ls 9 [(0, .ref t), (1, .int x), (2, .int y), (3, .int jn), (4, .int we), (5, .int n)] := hl
  have rg_x := i_rng x
  have rg_y := i_rng y
  have rg_jn := i_rng jn
  have rg_we := i_rng we
  have rg_n := i_rng n
  refine lv_aload_n hx hb dX7_worth_0 rfl (lv_at hl 0 rfl) ?_
  refine va_get (D := J.1) (ci := 7) (v := .int 0) (C := RX7) (T := TX7) (N := 10) hx hb hts inX7 hown hK.1 hP 0 rfl rfl 7 (by decide) (hts _ q_141) (fun _ h9 => h9) rfl dX7_worth_1 ?_
  refine lv_if_ne (tgt := 9) hx hb dX7_worth_4 (by decide) (fun c => absurd c (by decide)) (fun _ => ?_)
  refine lv_iload_n hx hb dX7_worth_7 rfl (lv_at hl 3 rfl) ?_
  exact rz_i hx hb hr hlk rfl dX7_worth_8
theorem dX7_write_0 : decode cX7_write 0 = .ok (.aload_n 0, 1) := by decide +kernel
theorem q_134 : Cond.fieldLink RX7 24 RX7 "tapeSize" "I" ∈ lw_g := mem_q 134 (by decide +kernel) rfl
theorem dX7_write_1 : decode cX7_write 1 = .ok (.getfield 24, 3) := by decide +kernel
theorem dX7_write_4 : decode cX7_write 4 = .ok (.bipush 120, 2) := by decide +kernel
theorem dX7_write_6 : decode cX7_write 6 = .ok (.if_icmp .lt 6, 3) := by decide +kernel
theorem dX7_write_12 : decode cX7_write 12 = .ok (.aload_n 0, 1) := by decide +kernel
theorem q_133 : Cond.fieldLink RX7 11 RX7 "tape" "[I" ∈ lw_g := mem_q 133 (by decide +kernel) rfl
theorem dX7_write_13 : decode cX7_write 13 = .ok (.getfield 11, 3) := by decide +kernel
theorem dX7_write_16 : decode cX7_write 16 = .ok (.aload_n 0, 1) := by decide +kernel
theorem dX7_write_17 : decode cX7_write 17 = .ok (.dup, 1) := by decide +kernel
theorem dX7_write_18 : decode cX7_write 18 = .ok (.getfield 24, 3) := by decide +kernel
theorem dX7_write_21 : decode cX7_write 21 = .ok (.dup_x1, 1) := by decide +kernel
theorem dX7_write_22 : decode cX7_write 22 = .ok (.iconst 1, 1) := by decide +kernel
theorem dX7_write_23 : decode cX7_write 23 = .ok (.iadd, 1) := by decide +kernel
theorem dX7_write_24 : decode cX7_write 24 = .ok (.putfield 24, 3) := by decide +kernel
theorem dX7_write_27 : decode cX7_write 27 = .ok (.iload_n 1, 1) := by decide +kernel
theorem dX7_write_28 : decode cX7_write 28 = .ok (.iastore, 1) := by decide +kernel
theorem dX7_write_29 : decode cX7_write 29 = .ok (.aload_n 0, 1) := by decide +kernel
theorem dX7_write_30 : decode cX7_write 30 = .ok (.getfield 24, 3) := by decide +kernel
theorem dX7_write_33 : decode cX7_write 33 = .ok (.ireturn, 1) := by decide +kernel
set_option maxHeartbeats 4000000 in
set_option maxRecDepth 100000 in
theorem cL_write (l : Launch) (J : va_J9) (sz : Nat) (t : Nat) (ta : Nat) (dr : Nat) (co : Nat) (sk : Nat) (x : Int32) : WC l J yX7_write cX7_write 2 (some .int) ({ frames := 0, cells := 0, slots := 0, locals := 0 }) [.ref t, .int x] [(t, .inr (7, [.ref ta, .int 0, .ref dr, .int 0, .int 0, .int 0, .ref co, .int 0, .ref sk, .int 0])), (ta, .inl (J.2.1, 120, .inl (fun _ => 0)))] sz (Qi J (fun (r : Int32) (_ : Unit) => r = 1) (fun (_ : Unit) => [])) 0 0 := by
  refine wc_of (by decide) (Nat.le_of_ble_eq_true rfl) ?_
  intro p e s m below meth c ls A hE hl hP hK hD hS hA
  obtain ⟨hx, hb, hr, hml, hown, hts, hlk, hin⟩ := hE
  have hown : s.vm.findClass RX7 = some m.cls := hown
  have hl : lv_has ls 2 [(0, .ref t), (1, .int x)] := hl
  have rg_x := i_rng x
  refine lv_aload_n hx hb dX7_write_0 rfl (lv_at hl 0 rfl) ?_
  refine va_get (D := J.1) (ci := 7) (v := .int 0) (C := RX7) (T := TX7) (N := 10) hx hb hts inX7 hown hK.1 hP 0 rfl rfl 1 (by decide) (hts _ q_134) (fun _ h9 => h9) rfl dX7_write_1 ?_
  refine lv_bipush (v := 120) hx hb dX7_write_4 (by decide) ?_
  refine lv_icmp_lt (tgt := 12) hx hb dX7_write_6 (by decide) (fun _ => ?_) (fun c => absurd c (by decide))
  refine lv_aload_n hx hb dX7_write_12 rfl (lv_at hl 0 rfl) ?_
  refine va_get (D := J.1) (ci := 7) (v := .ref ta) (C := RX7) (T := TX7) (N := 10) hx hb hts inX7 hown hK.1 hP 0 rfl rfl 0 (by decide) (hts _ q_133) (fun _ h9 => h9) rfl dX7_write_13 ?_
  refine lv_aload_n hx hb dX7_write_16 rfl (lv_at hl 0 rfl) ?_
  refine lv_dup hx hb dX7_write_17 rfl ?_
  refine va_get (D := J.1) (ci := 7) (v := .int 0) (C := RX7) (T := TX7) (N := 10) hx hb hts inX7 hown hK.1 hP 0 rfl rfl 1 (by decide) (hts _ q_134) (fun _ h9 => h9) rfl dX7_write_18 ?_
  refine lv_dup_x1 hx hb dX7_write_21 rfl rfl ?_
  refine lv_iconst (v := 1) hx hb dX7_write_22 (by decide) ?_
  refine lv_iadd hx hb dX7_write_23 ?_
  refine top_i (y := 1) (by decide) ?_
  refine va_put (D := J.1) (ci := 7) (v := .int 1) (ty := (.int)) (C := RX7) (T := TX7) (N := 10) hx hb hts inX7 tyX7 tyX7_ok nmX7 hown hK.1 hP hD hS 0 rfl rfl 1 (by decide) (hts _ q_134) (fun _ h9 => h9) rfl (by decide +kernel) rfl rfl (Nat.le_of_ble_eq_true rfl) dX7_write_24 (fun H locs hP hD hS => ?_)
  have hP : va_P J.1 cls [(t, .inr (7, [.ref ta, .int 1, .ref dr, .int 0, .int 0, .int 0, .ref co, .int 0, .ref sk, .int 0])), (ta, .inl (J.2.1, 120, .inl (fun _ => 0)))] H := hP
  have hD : va_D A [(t, .inr (7, [.ref ta, .int 1, .ref dr, .int 0, .int 0, .int 0, .ref co, .int 0, .ref sk, .int 0])), (ta, .inl (J.2.1, 120, .inl (fun _ => 0)))] := hD
  refine lv_iload_n hx hb dX7_write_27 rfl (lv_at hl 1 rfl) ?_
  have h1 : vp_in 0 120 := (i_in (a := 0) (by decide) (by omega) (by omega))
  refine va_iast hx hb hK.1 hP hD hS 1 0 rfl rfl h1 dX7_write_28 (fun H locs hP hD hS => ?_)
  have hP : va_P J.1 cls [(t, .inr (7, [.ref ta, .int 1, .ref dr, .int 0, .int 0, .int 0, .ref co, .int 0, .ref sk, .int 0])), (ta, .inl (J.2.1, 120, .inl (upd (fun _ => 0) (0 : Int32).toNatClampNeg x)))] H := hP
  have hD : va_D A [(t, .inr (7, [.ref ta, .int 1, .ref dr, .int 0, .int 0, .int 0, .ref co, .int 0, .ref sk, .int 0])), (ta, .inl (J.2.1, 120, .inl (upd (fun _ => 0) (0 : Int32).toNatClampNeg x)))] := hD
  refine lv_aload_n hx hb dX7_write_29 rfl (lv_at hl 0 rfl) ?_
  refine va_get (D := J.1) (ci := 7) (v := .int 1) (C := RX7) (T := TX7) (N := 10) hx hb hts inX7 hown hK.1 hP 0 rfl rfl 1 (by decide) (hts _ q_134) (fun _ h9 => h9) rfl dX7_write_30 ?_
  exact wz_i () hx hb hr hlk (by decide) (hP.sub (ws' := []) [] rfl) (hD.sub (ws' := []) [] (by decide) rfl) hS dX7_write_33
theorem dX7_here_0 : decode cX7_here 0 = .ok (.aload_n 0, 1) := by decide +kernel
theorem q_138 : Cond.fieldLink RX7 28 RX7 "place" "I" ∈ lw_g := mem_q 138 (by decide +kernel) rfl
theorem dX7_here_1 : decode cX7_here 1 = .ok (.getfield 28, 3) := by decide +kernel
theorem dX7_here_4 : decode cX7_here 4 = .ok (.ifCond .lt 26, 3) := by decide +kernel
theorem dX7_here_7 : decode cX7_here 7 = .ok (.aload_n 0, 1) := by decide +kernel
theorem dX7_here_8 : decode cX7_here 8 = .ok (.getfield 28, 3) := by decide +kernel
theorem dX7_here_11 : decode cX7_here 11 = .ok (.aload_n 0, 1) := by decide +kernel
theorem dX7_here_12 : decode cX7_here 12 = .ok (.getfield 24, 3) := by decide +kernel
theorem dX7_here_15 : decode cX7_here 15 = .ok (.if_icmp .ge 15, 3) := by decide +kernel
theorem dX7_here_30 : decode cX7_here 30 = .ok (.iconst (-1), 1) := by decide +kernel
theorem dX7_here_31 : decode cX7_here 31 = .ok (.ireturn, 1) := by decide +kernel
set_option maxHeartbeats 4000000 in
set_option maxRecDepth 100000 in
theorem cL_here (l : Launch) (J : va_J9) (t : Nat) (ta : Nat) (dr : Nat) (co : Nat) (sk : Nat) (ds : Int32) (fa : Int32) : RC l J yX7_here cX7_here 1 (some .int) ({ frames := 0, cells := 0, slots := 0, locals := 0 }) [.ref t] [(t, .inr (7, [.ref ta, .int 0, .ref dr, .int ds, .int 0, .int fa, .ref co, .int 0, .ref sk, .int 0]))] (vp_Si (fun r => r = (-1))) := by
  refine rc_of (by decide) (Nat.le_of_ble_eq_true rfl) ?_
  intro p e s m below meth c ls hE hl hP hK
  obtain ⟨hx, hb, hr, hml, hown, hts, hlk, hin⟩ := hE
  have hown : s.vm.findClass RX7 = some m.cls := hown
  have hl : lv_has ls 1 [(0, .ref t)] := hl
  refine lv_aload_n hx hb dX7_here_0 rfl (lv_at hl 0 rfl) ?_
  refine va_get (D := J.1) (ci := 7) (v := .int 0) (C := RX7) (T := TX7) (N := 10) hx hb hts inX7 hown hK.1 hP 0 rfl rfl 4 (by decide) (hts _ q_138) (fun _ h9 => h9) rfl dX7_here_1 ?_
  refine lv_if_lt (tgt := 30) hx hb dX7_here_4 (by decide) (fun c => absurd c (by decide)) (fun _ => ?_)
  refine lv_aload_n hx hb dX7_here_7 rfl (lv_at hl 0 rfl) ?_
  refine va_get (D := J.1) (ci := 7) (v := .int 0) (C := RX7) (T := TX7) (N := 10) hx hb hts inX7 hown hK.1 hP 0 rfl rfl 4 (by decide) (hts _ q_138) (fun _ h9 => h9) rfl dX7_here_8 ?_
  refine lv_aload_n hx hb dX7_here_11 rfl (lv_at hl 0 rfl) ?_
  refine va_get (D := J.1) (ci := 7) (v := .int 0) (C := RX7) (T := TX7) (N := 10) hx hb hts inX7 hown hK.1 hP 0 rfl rfl 1 (by decide) (hts _ q_134) (fun _ h9 => h9) rfl dX7_here_12 ?_
  refine lv_icmp_ge (tgt := 30) hx hb dX7_here_15 (by decide) (fun _ => ?_) (fun c => absurd c (by decide))
  refine lv_iconst (v := (-1)) hx hb dX7_here_30 (by decide) ?_
  exact rz_i hx hb hr hlk (by decide) dX7_here_31
theorem dX7_isDigit_0 : decode cX7_isDigit 0 = .ok (.iload_n 0, 1) := by decide +kernel
theorem dX7_isDigit_1 : decode cX7_isDigit 1 = .ok (.bipush 48, 2) := by decide +kernel
theorem dX7_isDigit_3 : decode cX7_isDigit 3 = .ok (.if_icmp .lt 13, 3) := by decide +kernel
theorem dX7_isDigit_16 : decode cX7_isDigit 16 = .ok (.iconst 0, 1) := by decide +kernel
theorem dX7_isDigit_17 : decode cX7_isDigit 17 = .ok (.ireturn, 1) := by decide +kernel
set_option maxHeartbeats 4000000 in
set_option maxRecDepth 100000 in
theorem cL_isDigit (l : Launch) (J : va_J9)  : RC l J yX7_isDigit cX7_isDigit 1 (some .boolean) ({ frames := 0, cells := 0, slots := 0, locals := 0 }) [.int (-1)] [] (vp_Si (fun r => r = 0)) := by
  refine rc_of (by decide) (Nat.le_of_ble_eq_true rfl) ?_
  intro p e s m below meth c ls hE hl hP hK
  obtain ⟨hx, hb, hr, hml, hown, hts, hlk, hin⟩ := hE
  have hown : s.vm.findClass RX7 = some m.cls := hown
  have hl : lv_has ls 1 [(0, .int (-1))] := hl
  refine lv_iload_n hx hb dX7_isDigit_0 rfl (lv_at hl 0 rfl) ?_
  refine lv_bipush (v := 48) hx hb dX7_isDigit_1 (by decide) ?_
  refine lv_icmp_lt (tgt := 16) hx hb dX7_isDigit_3 (by decide) (fun _ => ?_) (fun c => absurd c (by decide))
  refine lv_iconst (v := 0) hx hb dX7_isDigit_16 (by decide) ?_
  exact rz_z hx hb hr hlk (by decide) (by decide) dX7_isDigit_17
theorem dX7_isName_0 : decode cX7_isName 0 = .ok (.iload_n 0, 1) := by decide +kernel
theorem dX7_isName_1 : decode cX7_isName 1 = .ok (.bipush 97, 2) := by decide +kernel
theorem dX7_isName_3 : decode cX7_isName 3 = .ok (.if_icmp .eq 27, 3) := by decide +kernel
theorem dX7_isName_6 : decode cX7_isName 6 = .ok (.iload_n 0, 1) := by decide +kernel
theorem dX7_isName_7 : decode cX7_isName 7 = .ok (.bipush 98, 2) := by decide +kernel
theorem dX7_isName_9 : decode cX7_isName 9 = .ok (.if_icmp .eq 21, 3) := by decide +kernel
theorem dX7_isName_12 : decode cX7_isName 12 = .ok (.iload_n 0, 1) := by decide +kernel
theorem dX7_isName_13 : decode cX7_isName 13 = .ok (.bipush 112, 2) := by decide +kernel
theorem dX7_isName_15 : decode cX7_isName 15 = .ok (.if_icmp .eq 15, 3) := by decide +kernel
theorem dX7_isName_18 : decode cX7_isName 18 = .ok (.iload_n 0, 1) := by decide +kernel
theorem dX7_isName_19 : decode cX7_isName 19 = .ok (.bipush 119, 2) := by decide +kernel
theorem dX7_isName_21 : decode cX7_isName 21 = .ok (.if_icmp .eq 9, 3) := by decide +kernel
theorem dX7_isName_24 : decode cX7_isName 24 = .ok (.iload_n 0, 1) := by decide +kernel
theorem dX7_isName_25 : decode cX7_isName 25 = .ok (.bipush 110, 2) := by decide +kernel
theorem dX7_isName_27 : decode cX7_isName 27 = .ok (.if_icmp .ne 7, 3) := by decide +kernel
theorem dX7_isName_34 : decode cX7_isName 34 = .ok (.iconst 0, 1) := by decide +kernel
theorem dX7_isName_35 : decode cX7_isName 35 = .ok (.ireturn, 1) := by decide +kernel
set_option maxHeartbeats 4000000 in
set_option maxRecDepth 100000 in
theorem cL_isName (l : Launch) (J : va_J9)  : RC l J yX7_isName cX7_isName 1 (some .boolean) ({ frames := 0, cells := 0, slots := 0, locals := 0 }) [.int (-1)] [] (vp_Si (fun r => r = 0)) := by
  refine rc_of (by decide) (Nat.le_of_ble_eq_true rfl) ?_
  intro p e s m below meth c ls hE hl hP hK
  obtain ⟨hx, hb, hr, hml, hown, hts, hlk, hin⟩ := hE
  have hown : s.vm.findClass RX7 = some m.cls := hown
  have hl : lv_has ls 1 [(0, .int (-1))] := hl
  refine lv_iload_n hx hb dX7_isName_0 rfl (lv_at hl 0 rfl) ?_
  refine lv_bipush (v := 97) hx hb dX7_isName_1 (by decide) ?_
  refine lv_icmp_eq (tgt := 30) hx hb dX7_isName_3 (by decide) (fun c => absurd c (by decide)) (fun _ => ?_)
  refine lv_iload_n hx hb dX7_isName_6 rfl (lv_at hl 0 rfl) ?_
  refine lv_bipush (v := 98) hx hb dX7_isName_7 (by decide) ?_
  refine lv_icmp_eq (tgt := 30) hx hb dX7_isName_9 (by decide) (fun c => absurd c (by decide)) (fun _ => ?_)
  refine lv_iload_n hx hb dX7_isName_12 rfl (lv_at hl 0 rfl) ?_
  refine lv_bipush (v := 112) hx hb dX7_isName_13 (by decide) ?_
  refine lv_icmp_eq (tgt := 30) hx hb dX7_isName_15 (by decide) (fun c => absurd c (by decide)) (fun _ => ?_)
  refine lv_iload_n hx hb dX7_isName_18 rfl (lv_at hl 0 rfl) ?_
  refine lv_bipush (v := 119) hx hb dX7_isName_19 (by decide) ?_
  refine lv_icmp_eq (tgt := 30) hx hb dX7_isName_21 (by decide) (fun c => absurd c (by decide)) (fun _ => ?_)
  refine lv_iload_n hx hb dX7_isName_24 rfl (lv_at hl 0 rfl) ?_
  refine lv_bipush (v := 110) hx hb dX7_isName_25 (by decide) ?_
  refine lv_icmp_ne (tgt := 34) hx hb dX7_isName_27 (by decide) (fun _ => ?_) (fun c => absurd c (by decide))
  refine lv_iconst (v := 0) hx hb dX7_isName_34 (by decide) ?_
  exact rz_z hx hb hr hlk (by decide) (by decide) dX7_isName_35
theorem dX7_readOperand_0 : decode cX7_readOperand 0 = .ok (.aload_n 0, 1) := by decide +kernel
theorem q_704 : Cond.methodLink RX7 61 yX7_here ∈ lw_g := mem_q 704 (by decide +kernel) rfl
theorem q_706 : Cond.instanceMethod yX7_here ∈ lw_g := mem_q 706 (by decide +kernel) rfl
theorem q_13 : Cond.selects RX7 yX7_here yX7_here ∈ lw_g := mem_q 13 (by decide +kernel) rfl
theorem q_104 : Cond.initialized RX7 ∈ lw_g := mem_q 104 (by decide +kernel) rfl
theorem q_707 : Cond.code yX7_here cX7_here 1 (some .int) ∈ lw_g := mem_q 707 (by decide +kernel) rfl
theorem kV_RX7_61 : CV RX7 61 RX7 yX7_here cX7_here 1 (some .int) 0 := cv_of q_704 q_706 q_13 q_104 q_707 (by decide +kernel)
theorem dX7_readOperand_1 : decode cX7_readOperand 1 = .ok (.invokevirtual 61, 3) := by decide +kernel
theorem dX7_readOperand_4 : decode cX7_readOperand 4 = .ok (.istore_n 2, 1) := by decide +kernel
theorem dX7_readOperand_5 : decode cX7_readOperand 5 = .ok (.iload_n 2, 1) := by decide +kernel
theorem q_708 : Cond.methodLink RX7 75 yX7_isDigit ∈ lw_g := mem_q 708 (by decide +kernel) rfl
theorem q_709 : Cond.static yX7_isDigit ∈ lw_g := mem_q 709 (by decide +kernel) rfl
theorem q_710 : Cond.code yX7_isDigit cX7_isDigit 1 (some .boolean) ∈ lw_g := mem_q 710 (by decide +kernel) rfl
theorem kS_RX7_75 : CS RX7 75 yX7_isDigit cX7_isDigit 1 (some .boolean) 1 := cs_of q_708 q_709 q_104 q_710 (by decide +kernel)
theorem dX7_readOperand_6 : decode cX7_readOperand 6 = .ok (.invokestatic 75, 3) := by decide +kernel
theorem dX7_readOperand_9 : decode cX7_readOperand 9 = .ok (.ifCond .eq 10, 3) := by decide +kernel
theorem dX7_readOperand_19 : decode cX7_readOperand 19 = .ok (.iload_n 2, 1) := by decide +kernel
theorem q_539 : Cond.methodLink RX7 82 yX7_isName ∈ lw_g := mem_q 539 (by decide +kernel) rfl
theorem q_540 : Cond.static yX7_isName ∈ lw_g := mem_q 540 (by decide +kernel) rfl
theorem q_541 : Cond.code yX7_isName cX7_isName 1 (some .boolean) ∈ lw_g := mem_q 541 (by decide +kernel) rfl
theorem kS_RX7_82 : CS RX7 82 yX7_isName cX7_isName 1 (some .boolean) 1 := cs_of q_539 q_540 q_104 q_541 (by decide +kernel)
theorem dX7_readOperand_20 : decode cX7_readOperand 20 = .ok (.invokestatic 82, 3) := by decide +kernel
theorem dX7_readOperand_23 : decode cX7_readOperand 23 = .ok (.ifCond .eq 22, 3) := by decide +kernel
theorem dX7_readOperand_45 : decode cX7_readOperand 45 = .ok (.iload_n 1, 1) := by decide +kernel
theorem dX7_readOperand_46 : decode cX7_readOperand 46 = .ok (.bipush 6, 2) := by decide +kernel
theorem dX7_readOperand_48 : decode cX7_readOperand 48 = .ok (.if_icmp .ge 52, 3) := by decide +kernel
theorem dX7_readOperand_51 : decode cX7_readOperand 51 = .ok (.iload_n 2, 1) := by decide +kernel
theorem dX7_readOperand_52 : decode cX7_readOperand 52 = .ok (.bipush 33, 2) := by decide +kernel
theorem dX7_readOperand_54 : decode cX7_readOperand 54 = .ok (.if_icmp .eq 9, 3) := by decide +kernel
theorem dX7_readOperand_57 : decode cX7_readOperand 57 = .ok (.iload_n 2, 1) := by decide +kernel
theorem dX7_readOperand_58 : decode cX7_readOperand 58 = .ok (.bipush 45, 2) := by decide +kernel
theorem dX7_readOperand_60 : decode cX7_readOperand 60 = .ok (.if_icmp .ne 40, 3) := by decide +kernel
theorem dX7_readOperand_100 : decode cX7_readOperand 100 = .ok (.iload_n 1, 1) := by decide +kernel
theorem dX7_readOperand_101 : decode cX7_readOperand 101 = .ok (.bipush 6, 2) := by decide +kernel
theorem dX7_readOperand_103 : decode cX7_readOperand 103 = .ok (.if_icmp .ge 36, 3) := by decide +kernel
theorem dX7_readOperand_106 : decode cX7_readOperand 106 = .ok (.iload_n 2, 1) := by decide +kernel
theorem dX7_readOperand_107 : decode cX7_readOperand 107 = .ok (.bipush 40, 2) := by decide +kernel
theorem dX7_readOperand_109 : decode cX7_readOperand 109 = .ok (.if_icmp .ne 30, 3) := by decide +kernel
theorem dX7_readOperand_139 : decode cX7_readOperand 139 = .ok (.aload_n 0, 1) := by decide +kernel
theorem dX7_readOperand_140 : decode cX7_readOperand 140 = .ok (.iconst 1, 1) := by decide +kernel
theorem q_139 : Cond.fieldLink RX7 34 RX7 "faulty" "Z" ∈ lw_g := mem_q 139 (by decide +kernel) rfl
theorem dX7_readOperand_141 : decode cX7_readOperand 141 = .ok (.putfield 34, 3) := by decide +kernel
theorem dX7_readOperand_144 : decode cX7_readOperand 144 = .ok (.return_, 1) := by decide +kernel
set_option maxHeartbeats 4000000 in
set_option maxRecDepth 100000 in
theorem cL_operand (l : Launch) (J : va_J9) (sz : Nat) (t : Nat) (ta : Nat) (dr : Nat) (co : Nat) (sk : Nat) : WC l J yX7_readOperand cX7_readOperand 3 none ({ frames := 1, cells := 0, slots := 0, locals := 20 }) [.ref t, .int 0] [(t, .inr (7, [.ref ta, .int 0, .ref dr, .int 0, .int 0, .int 0, .ref co, .int 0, .ref sk, .int 0]))] sz (Qv J (fun (u : Unit) => True) (fun (_ : Unit) => [(t, .inr (7, [.ref ta, .int 0, .ref dr, .int 0, .int 0, .int 1, .ref co, .int 0, .ref sk, .int 0]))])) 0 0 := by
  refine wc_of (by decide) (Nat.le_of_ble_eq_true rfl) ?_
  intro p e s m below meth c ls A hE hl hP hK hD hS hA
  obtain ⟨hx, hb, hr, hml, hown, hts, hlk, hin⟩ := hE
  have hown : s.vm.findClass RX7 = some m.cls := hown
  have hl : lv_has ls 3 [(0, .ref t), (1, .int 0)] := hl
  refine lv_aload_n hx hb dX7_readOperand_0 rfl (lv_at hl 0 rfl) ?_
  refine go_i (rn_V (As := []) (rest := []) hx hb hml hown hts hK (cL_here l J t ta dr co sk 0 0) kV_RX7_61 hP rfl rfl rfl ⟨Nat.le_of_ble_eq_true rfl, Nat.le_of_ble_eq_true rfl⟩ rfl rfl rfl hl.1 rfl (Nat.le_of_ble_eq_true rfl) ⟨Nat.le_of_ble_eq_true rfl, Nat.le_of_ble_eq_true rfl⟩ dX7_readOperand_1) ?_
  refine lv_istore_n (lv' := [(2, .int (-1)), (0, .ref t), (1, .int 0)]) hx hb dX7_readOperand_4 rfl hl (by decide) rfl (fun ls hl => ?_)
  refine lv_iload_n hx hb dX7_readOperand_5 rfl (lv_at hl 0 rfl) ?_
  refine go_i (rn_S (As := [.int (-1)]) (rest := []) hx hb hml hown hts hK (cL_isDigit l J ) kS_RX7_75 (hP.sub (ws' := []) [] rfl) ⟨Nat.le_of_ble_eq_true rfl, Nat.le_of_ble_eq_true rfl⟩ rfl rfl rfl hl.1 rfl (Nat.le_of_ble_eq_true rfl) ⟨Nat.le_of_ble_eq_true rfl, Nat.le_of_ble_eq_true rfl⟩ dX7_readOperand_6) ?_
  refine lv_if_eq (tgt := 19) hx hb dX7_readOperand_9 (by decide) (fun _ => ?_) (fun c => absurd c (by decide))
  refine lv_iload_n hx hb dX7_readOperand_19 rfl (lv_at hl 0 rfl) ?_
  refine go_i (rn_S (As := [.int (-1)]) (rest := []) hx hb hml hown hts hK (cL_isName l J ) kS_RX7_82 (hP.sub (ws' := []) [] rfl) ⟨Nat.le_of_ble_eq_true rfl, Nat.le_of_ble_eq_true rfl⟩ rfl rfl rfl hl.1 rfl (Nat.le_of_ble_eq_true rfl) ⟨Nat.le_of_ble_eq_true rfl, Nat.le_of_ble_eq_true rfl⟩ dX7_readOperand_20) ?_
  refine lv_if_eq (tgt := 45) hx hb dX7_readOperand_23 (by decide) (fun _ => ?_) (fun c => absurd c (by decide))
  refine lv_iload_n hx hb dX7_readOperand_45 rfl (lv_at hl 2 rfl) ?_
  refine lv_bipush (v := 6) hx hb dX7_readOperand_46 (by decide) ?_
  refine lv_icmp_ge (tgt := 100) hx hb dX7_readOperand_48 (by decide) (fun c => absurd c (by decide)) (fun _ => ?_)
  refine lv_iload_n hx hb dX7_readOperand_51 rfl (lv_at hl 0 rfl) ?_
  refine lv_bipush (v := 33) hx hb dX7_readOperand_52 (by decide) ?_
  refine lv_icmp_eq (tgt := 63) hx hb dX7_readOperand_54 (by decide) (fun c => absurd c (by decide)) (fun _ => ?_)
  refine lv_iload_n hx hb dX7_readOperand_57 rfl (lv_at hl 0 rfl) ?_
  refine lv_bipush (v := 45) hx hb dX7_readOperand_58 (by decide) ?_
  refine lv_icmp_ne (tgt := 100) hx hb dX7_readOperand_60 (by decide) (fun _ => ?_) (fun c => absurd c (by decide))
  refine lv_iload_n hx hb dX7_readOperand_100 rfl (lv_at hl 2 rfl) ?_
  refine lv_bipush (v := 6) hx hb dX7_readOperand_101 (by decide) ?_
  refine lv_icmp_ge (tgt := 139) hx hb dX7_readOperand_103 (by decide) (fun c => absurd c (by decide)) (fun _ => ?_)
  refine lv_iload_n hx hb dX7_readOperand_106 rfl (lv_at hl 0 rfl) ?_
  refine lv_bipush (v := 40) hx hb dX7_readOperand_107 (by decide) ?_
  refine lv_icmp_ne (tgt := 139) hx hb dX7_readOperand_109 (by decide) (fun _ => ?_) (fun c => absurd c (by decide))
  refine lv_aload_n hx hb dX7_readOperand_139 rfl (lv_at hl 1 rfl) ?_
  refine lv_iconst (v := 1) hx hb dX7_readOperand_140 (by decide) ?_
  refine va_put (D := J.1) (ci := 7) (v := .int 1) (ty := (.boolean)) (C := RX7) (T := TX7) (N := 10) hx hb hts inX7 tyX7 tyX7_ok nmX7 hown hK.1 hP hD hS 0 rfl rfl 5 (by decide) (hts _ q_139) (fun _ h9 => h9) rfl (by decide +kernel) rfl rfl (Nat.le_of_ble_eq_true rfl) dX7_readOperand_141 (fun H locs hP hD hS => ?_)
  have hP : va_P J.1 cls [(t, .inr (7, [.ref ta, .int 0, .ref dr, .int 0, .int 0, .int 1, .ref co, .int 0, .ref sk, .int 0]))] H := hP
  have hD : va_D A [(t, .inr (7, [.ref ta, .int 0, .ref dr, .int 0, .int 0, .int 1, .ref co, .int 0, .ref sk, .int 0]))] := hD
  exact wz_v () hx hb hr hlk trivial hP hD hS dX7_readOperand_144
theorem dX7_readChain_0 : decode cX7_readChain 0 = .ok (.iload_n 1, 1) := by decide +kernel
theorem dX7_readChain_1 : decode cX7_readChain 1 = .ok (.iconst 4, 1) := by decide +kernel
theorem dX7_readChain_2 : decode cX7_readChain 2 = .ok (.if_icmp .le 9, 3) := by decide +kernel
theorem dX7_readChain_5 : decode cX7_readChain 5 = .ok (.aload_n 0, 1) := by decide +kernel
theorem dX7_readChain_6 : decode cX7_readChain 6 = .ok (.iload_n 2, 1) := by decide +kernel
theorem q_700 : Cond.methodLink RX7 68 yX7_readOperand ∈ lw_g := mem_q 700 (by decide +kernel) rfl
theorem q_702 : Cond.instanceMethod yX7_readOperand ∈ lw_g := mem_q 702 (by decide +kernel) rfl
theorem q_12 : Cond.selects RX7 yX7_readOperand yX7_readOperand ∈ lw_g := mem_q 12 (by decide +kernel) rfl
theorem q_703 : Cond.code yX7_readOperand cX7_readOperand 3 none ∈ lw_g := mem_q 703 (by decide +kernel) rfl
theorem kV_RX7_68 : CV RX7 68 RX7 yX7_readOperand cX7_readOperand 3 none 1 := cv_of q_700 q_702 q_12 q_104 q_703 (by decide +kernel)
theorem dX7_readChain_7 : decode cX7_readChain 7 = .ok (.invokevirtual 68, 3) := by decide +kernel
theorem dX7_readChain_10 : decode cX7_readChain 10 = .ok (.return_, 1) := by decide +kernel
set_option maxHeartbeats 4000000 in
set_option maxRecDepth 100000 in
theorem cL_chain5 (l : Launch) (J : va_J9) (sz : Nat) (t : Nat) (ta : Nat) (dr : Nat) (co : Nat) (sk : Nat) : WC l J yX7_readChain cX7_readChain 5 none ({ frames := 2, cells := 0, slots := 0, locals := 42 }) [.ref t, .int 5, .int 0] [(t, .inr (7, [.ref ta, .int 0, .ref dr, .int 0, .int 0, .int 0, .ref co, .int 0, .ref sk, .int 0]))] sz (Qv J (fun (u : Unit) => True) (fun (_ : Unit) => [(t, .inr (7, [.ref ta, .int 0, .ref dr, .int 0, .int 0, .int 1, .ref co, .int 0, .ref sk, .int 0]))])) 0 0 := by
  refine wc_of (by decide) (Nat.le_of_ble_eq_true rfl) ?_
  intro p e s m below meth c ls A hE hl hP hK hD hS hA
  obtain ⟨hx, hb, hr, hml, hown, hts, hlk, hin⟩ := hE
  have hown : s.vm.findClass RX7 = some m.cls := hown
  have hl : lv_has ls 5 [(0, .ref t), (1, .int 5), (2, .int 0)] := hl
  refine lv_iload_n hx hb dX7_readChain_0 rfl (lv_at hl 1 rfl) ?_
  refine lv_iconst (v := 4) hx hb dX7_readChain_1 (by decide) ?_
  refine lv_icmp_le (tgt := 11) hx hb dX7_readChain_2 (by decide) (fun c => absurd c (by decide)) (fun _ => ?_)
  refine lv_aload_n hx hb dX7_readChain_5 rfl (lv_at hl 0 rfl) ?_
  refine lv_iload_n hx hb dX7_readChain_6 rfl (lv_at hl 2 rfl) ?_
  refine gw_v (wc := [(t, .inr (7, [.ref ta, .int 0, .ref dr, .int 0, .int 0, .int 0, .ref co, .int 0, .ref sk, .int 0]))]) (wr := []) hP hD hS hA [0] [] rfl rfl (by decide) (by decide) (wn_V (As := [.int 0]) (rest := []) hx hb hml hown hts hK (cL_operand l J _ t ta dr co sk) kV_RX7_68 hP ((hD.sub (ws' := [(t, .inr (7, [.ref ta, .int 0, .ref dr, .int 0, .int 0, .int 0, .ref co, .int 0, .ref sk, .int 0]))]) [0] (by decide) rfl).weaken (fun _ _ _ _ => trivial)) rfl rfl rfl ⟨Nat.le_of_ble_eq_true rfl, Nat.le_of_ble_eq_true rfl⟩ rfl rfl rfl hl.1 rfl (Nat.le_of_ble_eq_true rfl) ⟨Nat.le_of_ble_eq_true rfl, Nat.le_of_ble_eq_true rfl⟩ dX7_readChain_7) (fun u1 H locs hw hP hD hS => ?_)
  have hP : va_P J.1 cls [(t, .inr (7, [.ref ta, .int 0, .ref dr, .int 0, .int 0, .int 1, .ref co, .int 0, .ref sk, .int 0]))] H := hP
  have hD : va_D A [(t, .inr (7, [.ref ta, .int 0, .ref dr, .int 0, .int 0, .int 1, .ref co, .int 0, .ref sk, .int 0]))] := hD
  refine W.widen (k := 0) (n := 0) (Nat.le_of_ble_eq_true rfl) (Nat.le_of_ble_eq_true rfl) ?_
  exact wz_v () hx hb hr hlk trivial hP hD hS dX7_readChain_10
theorem dX7_readChain_11 : decode cX7_readChain 11 = .ok (.aload_n 0, 1) := by decide +kernel
theorem dX7_readChain_12 : decode cX7_readChain 12 = .ok (.iload_n 1, 1) := by decide +kernel
theorem dX7_readChain_13 : decode cX7_readChain 13 = .ok (.iconst 1, 1) := by decide +kernel
theorem dX7_readChain_14 : decode cX7_readChain 14 = .ok (.iadd, 1) := by decide +kernel
theorem dX7_readChain_15 : decode cX7_readChain 15 = .ok (.iload_n 2, 1) := by decide +kernel
theorem q_696 : Cond.methodLink RX7 57 yX7_readChain ∈ lw_g := mem_q 696 (by decide +kernel) rfl
theorem q_698 : Cond.instanceMethod yX7_readChain ∈ lw_g := mem_q 698 (by decide +kernel) rfl
theorem q_11 : Cond.selects RX7 yX7_readChain yX7_readChain ∈ lw_g := mem_q 11 (by decide +kernel) rfl
theorem q_699 : Cond.code yX7_readChain cX7_readChain 5 none ∈ lw_g := mem_q 699 (by decide +kernel) rfl
theorem kV_RX7_57 : CV RX7 57 RX7 yX7_readChain cX7_readChain 5 none 2 := cv_of q_696 q_698 q_11 q_104 q_699 (by decide +kernel)
theorem dX7_readChain_16 : decode cX7_readChain 16 = .ok (.invokevirtual 57, 3) := by decide +kernel
theorem dX7_readChain_19 : decode cX7_readChain 19 = .ok (.iconst 0, 1) := by decide +kernel
theorem dX7_readChain_20 : decode cX7_readChain 20 = .ok (.istore_n 3, 1) := by decide +kernel
theorem dX7_readChain_21 : decode cX7_readChain 21 = .ok (.iload_n 3, 1) := by decide +kernel
theorem dX7_readChain_22 : decode cX7_readChain 22 = .ok (.bipush 120, 2) := by decide +kernel
theorem dX7_readChain_24 : decode cX7_readChain 24 = .ok (.if_icmp .ge 64, 3) := by decide +kernel
theorem dX7_readChain_27 : decode cX7_readChain 27 = .ok (.aload_n 0, 1) := by decide +kernel
theorem dX7_readChain_28 : decode cX7_readChain 28 = .ok (.getfield 34, 3) := by decide +kernel
theorem dX7_readChain_31 : decode cX7_readChain 31 = .ok (.ifCond .ne 57, 3) := by decide +kernel
theorem dX7_readChain_88 : decode cX7_readChain 88 = .ok (.return_, 1) := by decide +kernel
set_option maxHeartbeats 4000000 in
set_option maxRecDepth 100000 in
theorem cL_chain4 (l : Launch) (J : va_J9) (sz : Nat) (t : Nat) (ta : Nat) (dr : Nat) (co : Nat) (sk : Nat) : WC l J yX7_readChain cX7_readChain 5 none ({ frames := 3, cells := 0, slots := 0, locals := 66 }) [.ref t, .int 4, .int 0] [(t, .inr (7, [.ref ta, .int 0, .ref dr, .int 0, .int 0, .int 0, .ref co, .int 0, .ref sk, .int 0]))] sz (Qv J (fun (u : Unit) => True) (fun (_ : Unit) => [(t, .inr (7, [.ref ta, .int 0, .ref dr, .int 0, .int 0, .int 1, .ref co, .int 0, .ref sk, .int 0]))])) 0 0 := by
  refine wc_of (by decide) (Nat.le_of_ble_eq_true rfl) ?_
  intro p e s m below meth c ls A hE hl hP hK hD hS hA
  obtain ⟨hx, hb, hr, hml, hown, hts, hlk, hin⟩ := hE
  have hown : s.vm.findClass RX7 = some m.cls := hown
  have hl : lv_has ls 5 [(0, .ref t), (1, .int 4), (2, .int 0)] := hl
  refine lv_iload_n hx hb dX7_readChain_0 rfl (lv_at hl 1 rfl) ?_
  refine lv_iconst (v := 4) hx hb dX7_readChain_1 (by decide) ?_
  refine lv_icmp_le (tgt := 11) hx hb dX7_readChain_2 (by decide) (fun _ => ?_) (fun c => absurd c (by decide))
  refine lv_aload_n hx hb dX7_readChain_11 rfl (lv_at hl 0 rfl) ?_
  refine lv_iload_n hx hb dX7_readChain_12 rfl (lv_at hl 1 rfl) ?_
  refine lv_iconst (v := 1) hx hb dX7_readChain_13 (by decide) ?_
  refine lv_iadd hx hb dX7_readChain_14 ?_
  refine top_i (y := 5) (by decide) ?_
  refine lv_iload_n hx hb dX7_readChain_15 rfl (lv_at hl 2 rfl) ?_
  refine gw_v (wc := [(t, .inr (7, [.ref ta, .int 0, .ref dr, .int 0, .int 0, .int 0, .ref co, .int 0, .ref sk, .int 0]))]) (wr := []) hP hD hS hA [0] [] rfl rfl (by decide) (by decide) (wn_V (As := [.int 5, .int 0]) (rest := []) hx hb hml hown hts hK (cL_chain5 l J _ t ta dr co sk) kV_RX7_57 hP ((hD.sub (ws' := [(t, .inr (7, [.ref ta, .int 0, .ref dr, .int 0, .int 0, .int 0, .ref co, .int 0, .ref sk, .int 0]))]) [0] (by decide) rfl).weaken (fun _ _ _ _ => trivial)) rfl rfl rfl ⟨Nat.le_of_ble_eq_true rfl, Nat.le_of_ble_eq_true rfl⟩ rfl rfl rfl hl.1 rfl (Nat.le_of_ble_eq_true rfl) ⟨Nat.le_of_ble_eq_true rfl, Nat.le_of_ble_eq_true rfl⟩ dX7_readChain_16) (fun u1 H locs hw hP hD hS => ?_)
  have hP : va_P J.1 cls [(t, .inr (7, [.ref ta, .int 0, .ref dr, .int 0, .int 0, .int 1, .ref co, .int 0, .ref sk, .int 0]))] H := hP
  have hD : va_D A [(t, .inr (7, [.ref ta, .int 0, .ref dr, .int 0, .int 0, .int 1, .ref co, .int 0, .ref sk, .int 0]))] := hD
  refine W.widen (k := 0) (n := 0) (Nat.le_of_ble_eq_true rfl) (Nat.le_of_ble_eq_true rfl) ?_
  refine lv_iconst (v := 0) hx hb dX7_readChain_19 (by decide) ?_
  refine lv_istore_n (lv' := [(3, .int 0), (0, .ref t), (1, .int 4), (2, .int 0)]) hx hb dX7_readChain_20 rfl hl (by decide) rfl (fun ls hl => ?_)
  refine lv_iload_n hx hb dX7_readChain_21 rfl (lv_at hl 0 rfl) ?_
  refine lv_bipush (v := 120) hx hb dX7_readChain_22 (by decide) ?_
  refine lv_icmp_ge (tgt := 88) hx hb dX7_readChain_24 (by decide) (fun c => absurd c (by decide)) (fun _ => ?_)
  refine lv_aload_n hx hb dX7_readChain_27 rfl (lv_at hl 1 rfl) ?_
  refine va_get (D := J.1) (ci := 7) (v := .int 1) (C := RX7) (T := TX7) (N := 10) hx hb hts inX7 hown hK.1 hP 0 rfl rfl 5 (by decide) (hts _ q_139) (fun _ h9 => h9) rfl dX7_readChain_28 ?_
  refine lv_if_ne (tgt := 88) hx hb dX7_readChain_31 (by decide) (fun _ => ?_) (fun c => absurd c (by decide))
  exact wz_v () hx hb hr hlk trivial hP hD hS dX7_readChain_88
set_option maxHeartbeats 4000000 in
set_option maxRecDepth 100000 in
theorem cL_chain3 (l : Launch) (J : va_J9) (sz : Nat) (t : Nat) (ta : Nat) (dr : Nat) (co : Nat) (sk : Nat) : WC l J yX7_readChain cX7_readChain 5 none ({ frames := 4, cells := 0, slots := 0, locals := 90 }) [.ref t, .int 3, .int 0] [(t, .inr (7, [.ref ta, .int 0, .ref dr, .int 0, .int 0, .int 0, .ref co, .int 0, .ref sk, .int 0]))] sz (Qv J (fun (u : Unit) => True) (fun (_ : Unit) => [(t, .inr (7, [.ref ta, .int 0, .ref dr, .int 0, .int 0, .int 1, .ref co, .int 0, .ref sk, .int 0]))])) 0 0 := by
  refine wc_of (by decide) (Nat.le_of_ble_eq_true rfl) ?_
  intro p e s m below meth c ls A hE hl hP hK hD hS hA
  obtain ⟨hx, hb, hr, hml, hown, hts, hlk, hin⟩ := hE
  have hown : s.vm.findClass RX7 = some m.cls := hown
  have hl : lv_has ls 5 [(0, .ref t), (1, .int 3), (2, .int 0)] := hl
  refine lv_iload_n hx hb dX7_readChain_0 rfl (lv_at hl 1 rfl) ?_
  refine lv_iconst (v := 4) hx hb dX7_readChain_1 (by decide) ?_
  refine lv_icmp_le (tgt := 11) hx hb dX7_readChain_2 (by decide) (fun _ => ?_) (fun c => absurd c (by decide))
  refine lv_aload_n hx hb dX7_readChain_11 rfl (lv_at hl 0 rfl) ?_
  refine lv_iload_n hx hb dX7_readChain_12 rfl (lv_at hl 1 rfl) ?_
  refine lv_iconst (v := 1) hx hb dX7_readChain_13 (by decide) ?_
  refine lv_iadd hx hb dX7_readChain_14 ?_
  refine top_i (y := 4) (by decide) ?_
  refine lv_iload_n hx hb dX7_readChain_15 rfl (lv_at hl 2 rfl) ?_
  refine gw_v (wc := [(t, .inr (7, [.ref ta, .int 0, .ref dr, .int 0, .int 0, .int 0, .ref co, .int 0, .ref sk, .int 0]))]) (wr := []) hP hD hS hA [0] [] rfl rfl (by decide) (by decide) (wn_V (As := [.int 4, .int 0]) (rest := []) hx hb hml hown hts hK (cL_chain4 l J _ t ta dr co sk) kV_RX7_57 hP ((hD.sub (ws' := [(t, .inr (7, [.ref ta, .int 0, .ref dr, .int 0, .int 0, .int 0, .ref co, .int 0, .ref sk, .int 0]))]) [0] (by decide) rfl).weaken (fun _ _ _ _ => trivial)) rfl rfl rfl ⟨Nat.le_of_ble_eq_true rfl, Nat.le_of_ble_eq_true rfl⟩ rfl rfl rfl hl.1 rfl (Nat.le_of_ble_eq_true rfl) ⟨Nat.le_of_ble_eq_true rfl, Nat.le_of_ble_eq_true rfl⟩ dX7_readChain_16) (fun u1 H locs hw hP hD hS => ?_)
  have hP : va_P J.1 cls [(t, .inr (7, [.ref ta, .int 0, .ref dr, .int 0, .int 0, .int 1, .ref co, .int 0, .ref sk, .int 0]))] H := hP
  have hD : va_D A [(t, .inr (7, [.ref ta, .int 0, .ref dr, .int 0, .int 0, .int 1, .ref co, .int 0, .ref sk, .int 0]))] := hD
  refine W.widen (k := 0) (n := 0) (Nat.le_of_ble_eq_true rfl) (Nat.le_of_ble_eq_true rfl) ?_
  refine lv_iconst (v := 0) hx hb dX7_readChain_19 (by decide) ?_
  refine lv_istore_n (lv' := [(3, .int 0), (0, .ref t), (1, .int 3), (2, .int 0)]) hx hb dX7_readChain_20 rfl hl (by decide) rfl (fun ls hl => ?_)
  refine lv_iload_n hx hb dX7_readChain_21 rfl (lv_at hl 0 rfl) ?_
  refine lv_bipush (v := 120) hx hb dX7_readChain_22 (by decide) ?_
  refine lv_icmp_ge (tgt := 88) hx hb dX7_readChain_24 (by decide) (fun c => absurd c (by decide)) (fun _ => ?_)
  refine lv_aload_n hx hb dX7_readChain_27 rfl (lv_at hl 1 rfl) ?_
  refine va_get (D := J.1) (ci := 7) (v := .int 1) (C := RX7) (T := TX7) (N := 10) hx hb hts inX7 hown hK.1 hP 0 rfl rfl 5 (by decide) (hts _ q_139) (fun _ h9 => h9) rfl dX7_readChain_28 ?_
  refine lv_if_ne (tgt := 88) hx hb dX7_readChain_31 (by decide) (fun _ => ?_) (fun c => absurd c (by decide))
  exact wz_v () hx hb hr hlk trivial hP hD hS dX7_readChain_88
set_option maxHeartbeats 4000000 in
set_option maxRecDepth 100000 in
theorem cL_chain2 (l : Launch) (J : va_J9) (sz : Nat) (t : Nat) (ta : Nat) (dr : Nat) (co : Nat) (sk : Nat) : WC l J yX7_readChain cX7_readChain 5 none ({ frames := 5, cells := 0, slots := 0, locals := 114 }) [.ref t, .int 2, .int 0] [(t, .inr (7, [.ref ta, .int 0, .ref dr, .int 0, .int 0, .int 0, .ref co, .int 0, .ref sk, .int 0]))] sz (Qv J (fun (u : Unit) => True) (fun (_ : Unit) => [(t, .inr (7, [.ref ta, .int 0, .ref dr, .int 0, .int 0, .int 1, .ref co, .int 0, .ref sk, .int 0]))])) 0 0 := by
  refine wc_of (by decide) (Nat.le_of_ble_eq_true rfl) ?_
  intro p e s m below meth c ls A hE hl hP hK hD hS hA
  obtain ⟨hx, hb, hr, hml, hown, hts, hlk, hin⟩ := hE
  have hown : s.vm.findClass RX7 = some m.cls := hown
  have hl : lv_has ls 5 [(0, .ref t), (1, .int 2), (2, .int 0)] := hl
  refine lv_iload_n hx hb dX7_readChain_0 rfl (lv_at hl 1 rfl) ?_
  refine lv_iconst (v := 4) hx hb dX7_readChain_1 (by decide) ?_
  refine lv_icmp_le (tgt := 11) hx hb dX7_readChain_2 (by decide) (fun _ => ?_) (fun c => absurd c (by decide))
  refine lv_aload_n hx hb dX7_readChain_11 rfl (lv_at hl 0 rfl) ?_
  refine lv_iload_n hx hb dX7_readChain_12 rfl (lv_at hl 1 rfl) ?_
  refine lv_iconst (v := 1) hx hb dX7_readChain_13 (by decide) ?_
  refine lv_iadd hx hb dX7_readChain_14 ?_
  refine top_i (y := 3) (by decide) ?_
  refine lv_iload_n hx hb dX7_readChain_15 rfl (lv_at hl 2 rfl) ?_
  refine gw_v (wc := [(t, .inr (7, [.ref ta, .int 0, .ref dr, .int 0, .int 0, .int 0, .ref co, .int 0, .ref sk, .int 0]))]) (wr := []) hP hD hS hA [0] [] rfl rfl (by decide) (by decide) (wn_V (As := [.int 3, .int 0]) (rest := []) hx hb hml hown hts hK (cL_chain3 l J _ t ta dr co sk) kV_RX7_57 hP ((hD.sub (ws' := [(t, .inr (7, [.ref ta, .int 0, .ref dr, .int 0, .int 0, .int 0, .ref co, .int 0, .ref sk, .int 0]))]) [0] (by decide) rfl).weaken (fun _ _ _ _ => trivial)) rfl rfl rfl ⟨Nat.le_of_ble_eq_true rfl, Nat.le_of_ble_eq_true rfl⟩ rfl rfl rfl hl.1 rfl (Nat.le_of_ble_eq_true rfl) ⟨Nat.le_of_ble_eq_true rfl, Nat.le_of_ble_eq_true rfl⟩ dX7_readChain_16) (fun u1 H locs hw hP hD hS => ?_)
  have hP : va_P J.1 cls [(t, .inr (7, [.ref ta, .int 0, .ref dr, .int 0, .int 0, .int 1, .ref co, .int 0, .ref sk, .int 0]))] H := hP
  have hD : va_D A [(t, .inr (7, [.ref ta, .int 0, .ref dr, .int 0, .int 0, .int 1, .ref co, .int 0, .ref sk, .int 0]))] := hD
  refine W.widen (k := 0) (n := 0) (Nat.le_of_ble_eq_true rfl) (Nat.le_of_ble_eq_true rfl) ?_
  refine lv_iconst (v := 0) hx hb dX7_readChain_19 (by decide) ?_
  refine lv_istore_n (lv' := [(3, .int 0), (0, .ref t), (1, .int 2), (2, .int 0)]) hx hb dX7_readChain_20 rfl hl (by decide) rfl (fun ls hl => ?_)
  refine lv_iload_n hx hb dX7_readChain_21 rfl (lv_at hl 0 rfl) ?_
  refine lv_bipush (v := 120) hx hb dX7_readChain_22 (by decide) ?_
  refine lv_icmp_ge (tgt := 88) hx hb dX7_readChain_24 (by decide) (fun c => absurd c (by decide)) (fun _ => ?_)
  refine lv_aload_n hx hb dX7_readChain_27 rfl (lv_at hl 1 rfl) ?_
  refine va_get (D := J.1) (ci := 7) (v := .int 1) (C := RX7) (T := TX7) (N := 10) hx hb hts inX7 hown hK.1 hP 0 rfl rfl 5 (by decide) (hts _ q_139) (fun _ h9 => h9) rfl dX7_readChain_28 ?_
  refine lv_if_ne (tgt := 88) hx hb dX7_readChain_31 (by decide) (fun _ => ?_) (fun c => absurd c (by decide))
  exact wz_v () hx hb hr hlk trivial hP hD hS dX7_readChain_88
set_option maxHeartbeats 4000000 in
set_option maxRecDepth 100000 in
theorem cL_chain1 (l : Launch) (J : va_J9) (sz : Nat) (t : Nat) (ta : Nat) (dr : Nat) (co : Nat) (sk : Nat) : WC l J yX7_readChain cX7_readChain 5 none ({ frames := 6, cells := 0, slots := 0, locals := 138 }) [.ref t, .int 1, .int 0] [(t, .inr (7, [.ref ta, .int 0, .ref dr, .int 0, .int 0, .int 0, .ref co, .int 0, .ref sk, .int 0]))] sz (Qv J (fun (u : Unit) => True) (fun (_ : Unit) => [(t, .inr (7, [.ref ta, .int 0, .ref dr, .int 0, .int 0, .int 1, .ref co, .int 0, .ref sk, .int 0]))])) 0 0 := by
  refine wc_of (by decide) (Nat.le_of_ble_eq_true rfl) ?_
  intro p e s m below meth c ls A hE hl hP hK hD hS hA
  obtain ⟨hx, hb, hr, hml, hown, hts, hlk, hin⟩ := hE
  have hown : s.vm.findClass RX7 = some m.cls := hown
  have hl : lv_has ls 5 [(0, .ref t), (1, .int 1), (2, .int 0)] := hl
  refine lv_iload_n hx hb dX7_readChain_0 rfl (lv_at hl 1 rfl) ?_
  refine lv_iconst (v := 4) hx hb dX7_readChain_1 (by decide) ?_
  refine lv_icmp_le (tgt := 11) hx hb dX7_readChain_2 (by decide) (fun _ => ?_) (fun c => absurd c (by decide))
  refine lv_aload_n hx hb dX7_readChain_11 rfl (lv_at hl 0 rfl) ?_
  refine lv_iload_n hx hb dX7_readChain_12 rfl (lv_at hl 1 rfl) ?_
  refine lv_iconst (v := 1) hx hb dX7_readChain_13 (by decide) ?_
  refine lv_iadd hx hb dX7_readChain_14 ?_
  refine top_i (y := 2) (by decide) ?_
  refine lv_iload_n hx hb dX7_readChain_15 rfl (lv_at hl 2 rfl) ?_
  refine gw_v (wc := [(t, .inr (7, [.ref ta, .int 0, .ref dr, .int 0, .int 0, .int 0, .ref co, .int 0, .ref sk, .int 0]))]) (wr := []) hP hD hS hA [0] [] rfl rfl (by decide) (by decide) (wn_V (As := [.int 2, .int 0]) (rest := []) hx hb hml hown hts hK (cL_chain2 l J _ t ta dr co sk) kV_RX7_57 hP ((hD.sub (ws' := [(t, .inr (7, [.ref ta, .int 0, .ref dr, .int 0, .int 0, .int 0, .ref co, .int 0, .ref sk, .int 0]))]) [0] (by decide) rfl).weaken (fun _ _ _ _ => trivial)) rfl rfl rfl ⟨Nat.le_of_ble_eq_true rfl, Nat.le_of_ble_eq_true rfl⟩ rfl rfl rfl hl.1 rfl (Nat.le_of_ble_eq_true rfl) ⟨Nat.le_of_ble_eq_true rfl, Nat.le_of_ble_eq_true rfl⟩ dX7_readChain_16) (fun u1 H locs hw hP hD hS => ?_)
  have hP : va_P J.1 cls [(t, .inr (7, [.ref ta, .int 0, .ref dr, .int 0, .int 0, .int 1, .ref co, .int 0, .ref sk, .int 0]))] H := hP
  have hD : va_D A [(t, .inr (7, [.ref ta, .int 0, .ref dr, .int 0, .int 0, .int 1, .ref co, .int 0, .ref sk, .int 0]))] := hD
  refine W.widen (k := 0) (n := 0) (Nat.le_of_ble_eq_true rfl) (Nat.le_of_ble_eq_true rfl) ?_
  refine lv_iconst (v := 0) hx hb dX7_readChain_19 (by decide) ?_
  refine lv_istore_n (lv' := [(3, .int 0), (0, .ref t), (1, .int 1), (2, .int 0)]) hx hb dX7_readChain_20 rfl hl (by decide) rfl (fun ls hl => ?_)
  refine lv_iload_n hx hb dX7_readChain_21 rfl (lv_at hl 0 rfl) ?_
  refine lv_bipush (v := 120) hx hb dX7_readChain_22 (by decide) ?_
  refine lv_icmp_ge (tgt := 88) hx hb dX7_readChain_24 (by decide) (fun c => absurd c (by decide)) (fun _ => ?_)
  refine lv_aload_n hx hb dX7_readChain_27 rfl (lv_at hl 1 rfl) ?_
  refine va_get (D := J.1) (ci := 7) (v := .int 1) (C := RX7) (T := TX7) (N := 10) hx hb hts inX7 hown hK.1 hP 0 rfl rfl 5 (by decide) (hts _ q_139) (fun _ h9 => h9) rfl dX7_readChain_28 ?_
  refine lv_if_ne (tgt := 88) hx hb dX7_readChain_31 (by decide) (fun _ => ?_) (fun c => absurd c (by decide))
  exact wz_v () hx hb hr hlk trivial hP hD hS dX7_readChain_88
set_option maxHeartbeats 4000000 in
set_option maxRecDepth 100000 in
theorem cL_chain0 (l : Launch) (J : va_J9) (sz : Nat) (t : Nat) (ta : Nat) (dr : Nat) (co : Nat) (sk : Nat) : WC l J yX7_readChain cX7_readChain 5 none ({ frames := 7, cells := 0, slots := 0, locals := 162 }) [.ref t, .int 0, .int 0] [(t, .inr (7, [.ref ta, .int 0, .ref dr, .int 0, .int 0, .int 0, .ref co, .int 0, .ref sk, .int 0]))] sz (Qv J (fun (u : Unit) => True) (fun (_ : Unit) => [(t, .inr (7, [.ref ta, .int 0, .ref dr, .int 0, .int 0, .int 1, .ref co, .int 0, .ref sk, .int 0]))])) 0 0 := by
  refine wc_of (by decide) (Nat.le_of_ble_eq_true rfl) ?_
  intro p e s m below meth c ls A hE hl hP hK hD hS hA
  obtain ⟨hx, hb, hr, hml, hown, hts, hlk, hin⟩ := hE
  have hown : s.vm.findClass RX7 = some m.cls := hown
  have hl : lv_has ls 5 [(0, .ref t), (1, .int 0), (2, .int 0)] := hl
  refine lv_iload_n hx hb dX7_readChain_0 rfl (lv_at hl 1 rfl) ?_
  refine lv_iconst (v := 4) hx hb dX7_readChain_1 (by decide) ?_
  refine lv_icmp_le (tgt := 11) hx hb dX7_readChain_2 (by decide) (fun _ => ?_) (fun c => absurd c (by decide))
  refine lv_aload_n hx hb dX7_readChain_11 rfl (lv_at hl 0 rfl) ?_
  refine lv_iload_n hx hb dX7_readChain_12 rfl (lv_at hl 1 rfl) ?_
  refine lv_iconst (v := 1) hx hb dX7_readChain_13 (by decide) ?_
  refine lv_iadd hx hb dX7_readChain_14 ?_
  refine top_i (y := 1) (by decide) ?_
  refine lv_iload_n hx hb dX7_readChain_15 rfl (lv_at hl 2 rfl) ?_
  refine gw_v (wc := [(t, .inr (7, [.ref ta, .int 0, .ref dr, .int 0, .int 0, .int 0, .ref co, .int 0, .ref sk, .int 0]))]) (wr := []) hP hD hS hA [0] [] rfl rfl (by decide) (by decide) (wn_V (As := [.int 1, .int 0]) (rest := []) hx hb hml hown hts hK (cL_chain1 l J _ t ta dr co sk) kV_RX7_57 hP ((hD.sub (ws' := [(t, .inr (7, [.ref ta, .int 0, .ref dr, .int 0, .int 0, .int 0, .ref co, .int 0, .ref sk, .int 0]))]) [0] (by decide) rfl).weaken (fun _ _ _ _ => trivial)) rfl rfl rfl ⟨Nat.le_of_ble_eq_true rfl, Nat.le_of_ble_eq_true rfl⟩ rfl rfl rfl hl.1 rfl (Nat.le_of_ble_eq_true rfl) ⟨Nat.le_of_ble_eq_true rfl, Nat.le_of_ble_eq_true rfl⟩ dX7_readChain_16) (fun u1 H locs hw hP hD hS => ?_)
  have hP : va_P J.1 cls [(t, .inr (7, [.ref ta, .int 0, .ref dr, .int 0, .int 0, .int 1, .ref co, .int 0, .ref sk, .int 0]))] H := hP
  have hD : va_D A [(t, .inr (7, [.ref ta, .int 0, .ref dr, .int 0, .int 0, .int 1, .ref co, .int 0, .ref sk, .int 0]))] := hD
  refine W.widen (k := 0) (n := 0) (Nat.le_of_ble_eq_true rfl) (Nat.le_of_ble_eq_true rfl) ?_
  refine lv_iconst (v := 0) hx hb dX7_readChain_19 (by decide) ?_
  refine lv_istore_n (lv' := [(3, .int 0), (0, .ref t), (1, .int 0), (2, .int 0)]) hx hb dX7_readChain_20 rfl hl (by decide) rfl (fun ls hl => ?_)
  refine lv_iload_n hx hb dX7_readChain_21 rfl (lv_at hl 0 rfl) ?_
  refine lv_bipush (v := 120) hx hb dX7_readChain_22 (by decide) ?_
  refine lv_icmp_ge (tgt := 88) hx hb dX7_readChain_24 (by decide) (fun c => absurd c (by decide)) (fun _ => ?_)
  refine lv_aload_n hx hb dX7_readChain_27 rfl (lv_at hl 1 rfl) ?_
  refine va_get (D := J.1) (ci := 7) (v := .int 1) (C := RX7) (T := TX7) (N := 10) hx hb hts inX7 hown hK.1 hP 0 rfl rfl 5 (by decide) (hts _ q_139) (fun _ h9 => h9) rfl dX7_readChain_28 ?_
  refine lv_if_ne (tgt := 88) hx hb dX7_readChain_31 (by decide) (fun _ => ?_) (fun c => absurd c (by decide))
  exact wz_v () hx hb hr hlk trivial hP hD hS dX7_readChain_88
theorem dX7_emit_0 : decode cX7_emit 0 = .ok (.aload_n 0, 1) := by decide +kernel
theorem q_137 : Cond.fieldLink RX7 31 RX7 "draftSize" "I" ∈ lw_g := mem_q 137 (by decide +kernel) rfl
theorem dX7_emit_1 : decode cX7_emit 1 = .ok (.getfield 31, 3) := by decide +kernel
theorem dX7_emit_4 : decode cX7_emit 4 = .ok (.sipush 256, 3) := by decide +kernel
theorem dX7_emit_7 : decode cX7_emit 7 = .ok (.if_icmp .ge 20, 3) := by decide +kernel
theorem dX7_emit_10 : decode cX7_emit 10 = .ok (.aload_n 0, 1) := by decide +kernel
theorem q_136 : Cond.fieldLink RX7 15 RX7 "draft" "[I" ∈ lw_g := mem_q 136 (by decide +kernel) rfl
theorem dX7_emit_11 : decode cX7_emit 11 = .ok (.getfield 15, 3) := by decide +kernel
theorem dX7_emit_14 : decode cX7_emit 14 = .ok (.aload_n 0, 1) := by decide +kernel
theorem dX7_emit_15 : decode cX7_emit 15 = .ok (.dup, 1) := by decide +kernel
theorem dX7_emit_16 : decode cX7_emit 16 = .ok (.getfield 31, 3) := by decide +kernel
theorem dX7_emit_19 : decode cX7_emit 19 = .ok (.dup_x1, 1) := by decide +kernel
theorem dX7_emit_20 : decode cX7_emit 20 = .ok (.iconst 1, 1) := by decide +kernel
theorem dX7_emit_21 : decode cX7_emit 21 = .ok (.iadd, 1) := by decide +kernel
theorem dX7_emit_22 : decode cX7_emit 22 = .ok (.putfield 31, 3) := by decide +kernel
theorem dX7_emit_25 : decode cX7_emit 25 = .ok (.iload_n 1, 1) := by decide +kernel
theorem dX7_emit_26 : decode cX7_emit 26 = .ok (.iastore, 1) := by decide +kernel
theorem dX7_emit_27 : decode cX7_emit 27 = .ok (.return_, 1) := by decide +kernel
set_option maxHeartbeats 4000000 in
set_option maxRecDepth 100000 in
theorem cL_emit (l : Launch) (J : va_J9) (sz : Nat) (t : Nat) (ta : Nat) (dr : Nat) (co : Nat) (sk : Nat) : WC l J yX7_emit cX7_emit 2 none ({ frames := 0, cells := 0, slots := 0, locals := 0 }) [.ref t, .int (-59)] [(t, .inr (7, [.ref ta, .int 0, .ref dr, .int 0, .int 0, .int 1, .ref co, .int 0, .ref sk, .int 0])), (dr, .inl (J.2.1, 256, .inl (fun _ => 0)))] sz (Qv J (fun (u : Unit) => True) (fun (_ : Unit) => [(t, .inr (7, [.ref ta, .int 0, .ref dr, .int 1, .int 0, .int 1, .ref co, .int 0, .ref sk, .int 0])), (dr, .inl (J.2.1, 256, .inl (upd (fun _ => 0) (0 : Int32).toNatClampNeg (-59))))])) 0 0 := by
  refine wc_of (by decide) (Nat.le_of_ble_eq_true rfl) ?_
  intro p e s m below meth c ls A hE hl hP hK hD hS hA
  obtain ⟨hx, hb, hr, hml, hown, hts, hlk, hin⟩ := hE
  have hown : s.vm.findClass RX7 = some m.cls := hown
  have hl : lv_has ls 2 [(0, .ref t), (1, .int (-59))] := hl
  refine lv_aload_n hx hb dX7_emit_0 rfl (lv_at hl 0 rfl) ?_
  refine va_get (D := J.1) (ci := 7) (v := .int 0) (C := RX7) (T := TX7) (N := 10) hx hb hts inX7 hown hK.1 hP 0 rfl rfl 3 (by decide) (hts _ q_137) (fun _ h9 => h9) rfl dX7_emit_1 ?_
  refine lv_sipush (v := 256) hx hb dX7_emit_4 (by decide) ?_
  refine lv_icmp_ge (tgt := 27) hx hb dX7_emit_7 (by decide) (fun c => absurd c (by decide)) (fun _ => ?_)
  refine lv_aload_n hx hb dX7_emit_10 rfl (lv_at hl 0 rfl) ?_
  refine va_get (D := J.1) (ci := 7) (v := .ref dr) (C := RX7) (T := TX7) (N := 10) hx hb hts inX7 hown hK.1 hP 0 rfl rfl 2 (by decide) (hts _ q_136) (fun _ h9 => h9) rfl dX7_emit_11 ?_
  refine lv_aload_n hx hb dX7_emit_14 rfl (lv_at hl 0 rfl) ?_
  refine lv_dup hx hb dX7_emit_15 rfl ?_
  refine va_get (D := J.1) (ci := 7) (v := .int 0) (C := RX7) (T := TX7) (N := 10) hx hb hts inX7 hown hK.1 hP 0 rfl rfl 3 (by decide) (hts _ q_137) (fun _ h9 => h9) rfl dX7_emit_16 ?_
  refine lv_dup_x1 hx hb dX7_emit_19 rfl rfl ?_
  refine lv_iconst (v := 1) hx hb dX7_emit_20 (by decide) ?_
  refine lv_iadd hx hb dX7_emit_21 ?_
  refine top_i (y := 1) (by decide) ?_
  refine va_put (D := J.1) (ci := 7) (v := .int 1) (ty := (.int)) (C := RX7) (T := TX7) (N := 10) hx hb hts inX7 tyX7 tyX7_ok nmX7 hown hK.1 hP hD hS 0 rfl rfl 3 (by decide) (hts _ q_137) (fun _ h9 => h9) rfl (by decide +kernel) rfl rfl (Nat.le_of_ble_eq_true rfl) dX7_emit_22 (fun H locs hP hD hS => ?_)
  have hP : va_P J.1 cls [(t, .inr (7, [.ref ta, .int 0, .ref dr, .int 1, .int 0, .int 1, .ref co, .int 0, .ref sk, .int 0])), (dr, .inl (J.2.1, 256, .inl (fun _ => 0)))] H := hP
  have hD : va_D A [(t, .inr (7, [.ref ta, .int 0, .ref dr, .int 1, .int 0, .int 1, .ref co, .int 0, .ref sk, .int 0])), (dr, .inl (J.2.1, 256, .inl (fun _ => 0)))] := hD
  refine lv_iload_n hx hb dX7_emit_25 rfl (lv_at hl 1 rfl) ?_
  have h1 : vp_in 0 256 := (i_in (a := 0) (by decide) (by omega) (by omega))
  refine va_iast hx hb hK.1 hP hD hS 1 0 rfl rfl h1 dX7_emit_26 (fun H locs hP hD hS => ?_)
  have hP : va_P J.1 cls [(t, .inr (7, [.ref ta, .int 0, .ref dr, .int 1, .int 0, .int 1, .ref co, .int 0, .ref sk, .int 0])), (dr, .inl (J.2.1, 256, .inl (upd (fun _ => 0) (0 : Int32).toNatClampNeg (-59))))] H := hP
  have hD : va_D A [(t, .inr (7, [.ref ta, .int 0, .ref dr, .int 1, .int 0, .int 1, .ref co, .int 0, .ref sk, .int 0])), (dr, .inl (J.2.1, 256, .inl (upd (fun _ => 0) (0 : Int32).toNatClampNeg (-59))))] := hD
  exact wz_v () hx hb hr hlk trivial hP hD hS dX7_emit_27
theorem dX7_readLine_0 : decode cX7_readLine 0 = .ok (.aload_n 0, 1) := by decide +kernel
theorem dX7_readLine_1 : decode cX7_readLine 1 = .ok (.iconst 0, 1) := by decide +kernel
theorem dX7_readLine_2 : decode cX7_readLine 2 = .ok (.iconst 0, 1) := by decide +kernel
theorem dX7_readLine_3 : decode cX7_readLine 3 = .ok (.invokevirtual 57, 3) := by decide +kernel
theorem dX7_readLine_6 : decode cX7_readLine 6 = .ok (.iconst (-1), 1) := by decide +kernel
theorem dX7_readLine_7 : decode cX7_readLine 7 = .ok (.istore_n 1, 1) := by decide +kernel
theorem dX7_readLine_8 : decode cX7_readLine 8 = .ok (.aload_n 0, 1) := by decide +kernel
theorem dX7_readLine_9 : decode cX7_readLine 9 = .ok (.getfield 34, 3) := by decide +kernel
theorem dX7_readLine_12 : decode cX7_readLine 12 = .ok (.ifCond .ne 44, 3) := by decide +kernel
theorem dX7_readLine_56 : decode cX7_readLine 56 = .ok (.aload_n 0, 1) := by decide +kernel
theorem dX7_readLine_57 : decode cX7_readLine 57 = .ok (.bipush (-59), 2) := by decide +kernel
theorem q_715 : Cond.methodLink RX7 65 yX7_emit ∈ lw_g := mem_q 715 (by decide +kernel) rfl
theorem q_717 : Cond.instanceMethod yX7_emit ∈ lw_g := mem_q 717 (by decide +kernel) rfl
theorem q_15 : Cond.selects RX7 yX7_emit yX7_emit ∈ lw_g := mem_q 15 (by decide +kernel) rfl
theorem q_718 : Cond.code yX7_emit cX7_emit 2 none ∈ lw_g := mem_q 718 (by decide +kernel) rfl
theorem kV_RX7_65 : CV RX7 65 RX7 yX7_emit cX7_emit 2 none 1 := cv_of q_715 q_717 q_15 q_104 q_718 (by decide +kernel)
theorem dX7_readLine_59 : decode cX7_readLine 59 = .ok (.invokevirtual 65, 3) := by decide +kernel
theorem dX7_readLine_62 : decode cX7_readLine 62 = .ok (.iload_n 1, 1) := by decide +kernel
theorem dX7_readLine_63 : decode cX7_readLine 63 = .ok (.ifCond .lt 20, 3) := by decide +kernel
theorem dX7_readLine_83 : decode cX7_readLine 83 = .ok (.return_, 1) := by decide +kernel
set_option maxHeartbeats 4000000 in
set_option maxRecDepth 100000 in
theorem cL_line (l : Launch) (J : va_J9) (sz : Nat) (t : Nat) (ta : Nat) (dr : Nat) (co : Nat) (sk : Nat) : WC l J yX7_readLine cX7_readLine 2 none ({ frames := 8, cells := 0, slots := 0, locals := 186 }) [.ref t] [(t, .inr (7, [.ref ta, .int 0, .ref dr, .int 0, .int 0, .int 0, .ref co, .int 0, .ref sk, .int 0])), (dr, .inl (J.2.1, 256, .inl (fun _ => 0)))] sz (Qv J (fun (u : Unit) => True) (fun (_ : Unit) => [(t, .inr (7, [.ref ta, .int 0, .ref dr, .int 1, .int 0, .int 1, .ref co, .int 0, .ref sk, .int 0])), (dr, .inl (J.2.1, 256, .inl (upd (fun _ => 0) (0 : Int32).toNatClampNeg (-59))))])) 0 0 := by
  refine wc_of (by decide) (Nat.le_of_ble_eq_true rfl) ?_
  intro p e s m below meth c ls A hE hl hP hK hD hS hA
  obtain ⟨hx, hb, hr, hml, hown, hts, hlk, hin⟩ := hE
  have hown : s.vm.findClass RX7 = some m.cls := hown
  have hl : lv_has ls 2 [(0, .ref t)] := hl
  refine lv_aload_n hx hb dX7_readLine_0 rfl (lv_at hl 0 rfl) ?_
  refine lv_iconst (v := 0) hx hb dX7_readLine_1 (by decide) ?_
  refine lv_iconst (v := 0) hx hb dX7_readLine_2 (by decide) ?_
  refine gw_v (wc := [(t, .inr (7, [.ref ta, .int 0, .ref dr, .int 0, .int 0, .int 0, .ref co, .int 0, .ref sk, .int 0]))]) (wr := [(dr, .inl (J.2.1, 256, .inl (fun _ => 0)))]) hP hD hS hA [0] [1] rfl rfl (by decide) (by decide) (wn_V (As := [.int 0, .int 0]) (rest := []) hx hb hml hown hts hK (cL_chain0 l J _ t ta dr co sk) kV_RX7_57 (hP.sub (ws' := [(t, .inr (7, [.ref ta, .int 0, .ref dr, .int 0, .int 0, .int 0, .ref co, .int 0, .ref sk, .int 0]))]) [0] rfl) ((hD.sub (ws' := [(t, .inr (7, [.ref ta, .int 0, .ref dr, .int 0, .int 0, .int 0, .ref co, .int 0, .ref sk, .int 0]))]) [0] (by decide) rfl).weaken (fun _ _ _ _ => trivial)) rfl rfl rfl ⟨Nat.le_of_ble_eq_true rfl, Nat.le_of_ble_eq_true rfl⟩ rfl rfl rfl hl.1 rfl (Nat.le_of_ble_eq_true rfl) ⟨Nat.le_of_ble_eq_true rfl, Nat.le_of_ble_eq_true rfl⟩ dX7_readLine_3) (fun u1 H locs hw hP hD hS => ?_)
  have hP : va_P J.1 cls [(dr, .inl (J.2.1, 256, .inl (fun _ => 0))), (t, .inr (7, [.ref ta, .int 0, .ref dr, .int 0, .int 0, .int 1, .ref co, .int 0, .ref sk, .int 0]))] H := hP
  have hD : va_D A [(dr, .inl (J.2.1, 256, .inl (fun _ => 0))), (t, .inr (7, [.ref ta, .int 0, .ref dr, .int 0, .int 0, .int 1, .ref co, .int 0, .ref sk, .int 0]))] := hD
  refine W.widen (k := 0) (n := 0) (Nat.le_of_ble_eq_true rfl) (Nat.le_of_ble_eq_true rfl) ?_
  refine lv_iconst (v := (-1)) hx hb dX7_readLine_6 (by decide) ?_
  refine lv_istore_n (lv' := [(1, .int (-1)), (0, .ref t)]) hx hb dX7_readLine_7 rfl hl (by decide) rfl (fun ls hl => ?_)
  refine lv_aload_n hx hb dX7_readLine_8 rfl (lv_at hl 1 rfl) ?_
  refine va_get (D := J.1) (ci := 7) (v := .int 1) (C := RX7) (T := TX7) (N := 10) hx hb hts inX7 hown hK.1 hP 1 rfl rfl 5 (by decide) (hts _ q_139) (fun _ h9 => h9) rfl dX7_readLine_9 ?_
  refine lv_if_ne (tgt := 56) hx hb dX7_readLine_12 (by decide) (fun _ => ?_) (fun c => absurd c (by decide))
  refine lv_aload_n hx hb dX7_readLine_56 rfl (lv_at hl 1 rfl) ?_
  refine lv_bipush (v := (-59)) hx hb dX7_readLine_57 (by decide) ?_
  refine gw_v (wc := [(t, .inr (7, [.ref ta, .int 0, .ref dr, .int 0, .int 0, .int 1, .ref co, .int 0, .ref sk, .int 0])), (dr, .inl (J.2.1, 256, .inl (fun _ => 0)))]) (wr := []) hP hD hS hA [1, 0] [] rfl rfl (by decide) (by decide) (wn_V (As := [.int (-59)]) (rest := []) hx hb hml hown hts hK (cL_emit l J _ t ta dr co sk) kV_RX7_65 (hP.sub (ws' := [(t, .inr (7, [.ref ta, .int 0, .ref dr, .int 0, .int 0, .int 1, .ref co, .int 0, .ref sk, .int 0])), (dr, .inl (J.2.1, 256, .inl (fun _ => 0)))]) [1, 0] rfl) ((hD.sub (ws' := [(t, .inr (7, [.ref ta, .int 0, .ref dr, .int 0, .int 0, .int 1, .ref co, .int 0, .ref sk, .int 0])), (dr, .inl (J.2.1, 256, .inl (fun _ => 0)))]) [1, 0] (by decide) rfl).weaken (fun _ _ _ _ => trivial)) rfl rfl rfl ⟨Nat.le_of_ble_eq_true rfl, Nat.le_of_ble_eq_true rfl⟩ rfl rfl rfl hl.1 rfl (Nat.le_of_ble_eq_true rfl) ⟨Nat.le_of_ble_eq_true rfl, Nat.le_of_ble_eq_true rfl⟩ dX7_readLine_59) (fun u2 H locs hw hP hD hS => ?_)
  have hP : va_P J.1 cls [(t, .inr (7, [.ref ta, .int 0, .ref dr, .int 1, .int 0, .int 1, .ref co, .int 0, .ref sk, .int 0])), (dr, .inl (J.2.1, 256, .inl (upd (fun _ => 0) (0 : Int32).toNatClampNeg (-59))))] H := hP
  have hD : va_D A [(t, .inr (7, [.ref ta, .int 0, .ref dr, .int 1, .int 0, .int 1, .ref co, .int 0, .ref sk, .int 0])), (dr, .inl (J.2.1, 256, .inl (upd (fun _ => 0) (0 : Int32).toNatClampNeg (-59))))] := hD
  refine W.widen (k := 0) (n := 0) (Nat.le_of_ble_eq_true rfl) (Nat.le_of_ble_eq_true rfl) ?_
  refine lv_iload_n hx hb dX7_readLine_62 rfl (lv_at hl 0 rfl) ?_
  refine lv_if_lt (tgt := 83) hx hb dX7_readLine_63 (by decide) (fun _ => ?_) (fun c => absurd c (by decide))
  exact wz_v () hx hb hr hlk trivial hP hD hS dX7_readLine_83
theorem dX7_readLines_0 : decode cX7_readLines 0 = .ok (.iconst 0, 1) := by decide +kernel
theorem dX7_readLines_1 : decode cX7_readLines 1 = .ok (.istore_n 1, 1) := by decide +kernel
theorem dX7_readLines_2 : decode cX7_readLines 2 = .ok (.iload_n 1, 1) := by decide +kernel
theorem dX7_readLines_3 : decode cX7_readLines 3 = .ok (.bipush 120, 2) := by decide +kernel
theorem dX7_readLines_5 : decode cX7_readLines 5 = .ok (.if_icmp .gt 45, 3) := by decide +kernel
theorem dX7_readLines_8 : decode cX7_readLines 8 = .ok (.aload_n 0, 1) := by decide +kernel
theorem dX7_readLines_9 : decode cX7_readLines 9 = .ok (.getfield 34, 3) := by decide +kernel
theorem dX7_readLines_12 : decode cX7_readLines 12 = .ok (.ifCond .ne 38, 3) := by decide +kernel
theorem dX7_readLines_15 : decode cX7_readLines 15 = .ok (.aload_n 0, 1) := by decide +kernel
theorem q_692 : Cond.methodLink RX7 50 yX7_readLine ∈ lw_g := mem_q 692 (by decide +kernel) rfl
theorem q_694 : Cond.instanceMethod yX7_readLine ∈ lw_g := mem_q 694 (by decide +kernel) rfl
theorem q_10 : Cond.selects RX7 yX7_readLine yX7_readLine ∈ lw_g := mem_q 10 (by decide +kernel) rfl
theorem q_695 : Cond.code yX7_readLine cX7_readLine 2 none ∈ lw_g := mem_q 695 (by decide +kernel) rfl
theorem kV_RX7_50 : CV RX7 50 RX7 yX7_readLine cX7_readLine 2 none 0 := cv_of q_692 q_694 q_10 q_104 q_695 (by decide +kernel)
theorem dX7_readLines_16 : decode cX7_readLines 16 = .ok (.invokevirtual 50, 3) := by decide +kernel
theorem dX7_readLines_19 : decode cX7_readLines 19 = .ok (.aload_n 0, 1) := by decide +kernel
theorem dX7_readLines_20 : decode cX7_readLines 20 = .ok (.getfield 34, 3) := by decide +kernel
theorem dX7_readLines_23 : decode cX7_readLines 23 = .ok (.ifCond .ne 14, 3) := by decide +kernel
theorem dX7_readLines_37 : decode cX7_readLines 37 = .ok (.return_, 1) := by decide +kernel
set_option maxHeartbeats 4000000 in
set_option maxRecDepth 100000 in
theorem cL_lines (l : Launch) (J : va_J9) (sz : Nat) (t : Nat) (ta : Nat) (dr : Nat) (co : Nat) (sk : Nat) : WC l J yX7_readLines cX7_readLines 2 none ({ frames := 9, cells := 0, slots := 0, locals := 207 }) [.ref t] [(t, .inr (7, [.ref ta, .int 0, .ref dr, .int 0, .int 0, .int 0, .ref co, .int 0, .ref sk, .int 0])), (dr, .inl (J.2.1, 256, .inl (fun _ => 0)))] sz (Qv J (fun (u : Unit) => True) (fun (_ : Unit) => [(t, .inr (7, [.ref ta, .int 0, .ref dr, .int 1, .int 0, .int 1, .ref co, .int 0, .ref sk, .int 0])), (dr, .inl (J.2.1, 256, .inl (upd (fun _ => 0) (0 : Int32).toNatClampNeg (-59))))])) 0 0 := by
  refine wc_of (by decide) (Nat.le_of_ble_eq_true rfl) ?_
  intro p e s m below meth c ls A hE hl hP hK hD hS hA
  obtain ⟨hx, hb, hr, hml, hown, hts, hlk, hin⟩ := hE
  have hown : s.vm.findClass RX7 = some m.cls := hown
  have hl : lv_has ls 2 [(0, .ref t)] := hl
  refine lv_iconst (v := 0) hx hb dX7_readLines_0 (by decide) ?_
  refine lv_istore_n (lv' := [(1, .int 0), (0, .ref t)]) hx hb dX7_readLines_1 rfl hl (by decide) rfl (fun ls hl => ?_)
  refine lv_iload_n hx hb dX7_readLines_2 rfl (lv_at hl 0 rfl) ?_
  refine lv_bipush (v := 120) hx hb dX7_readLines_3 (by decide) ?_
  refine lv_icmp_gt (tgt := 50) hx hb dX7_readLines_5 (by decide) (fun c => absurd c (by decide)) (fun _ => ?_)
  refine lv_aload_n hx hb dX7_readLines_8 rfl (lv_at hl 1 rfl) ?_
  refine va_get (D := J.1) (ci := 7) (v := .int 0) (C := RX7) (T := TX7) (N := 10) hx hb hts inX7 hown hK.1 hP 0 rfl rfl 5 (by decide) (hts _ q_139) (fun _ h9 => h9) rfl dX7_readLines_9 ?_
  refine lv_if_ne (tgt := 50) hx hb dX7_readLines_12 (by decide) (fun c => absurd c (by decide)) (fun _ => ?_)
  refine lv_aload_n hx hb dX7_readLines_15 rfl (lv_at hl 1 rfl) ?_
  refine gw_v (wc := [(t, .inr (7, [.ref ta, .int 0, .ref dr, .int 0, .int 0, .int 0, .ref co, .int 0, .ref sk, .int 0])), (dr, .inl (J.2.1, 256, .inl (fun _ => 0)))]) (wr := []) hP hD hS hA [0, 1] [] rfl rfl (by decide) (by decide) (wn_V (As := []) (rest := []) hx hb hml hown hts hK (cL_line l J _ t ta dr co sk) kV_RX7_50 hP ((hD.sub (ws' := [(t, .inr (7, [.ref ta, .int 0, .ref dr, .int 0, .int 0, .int 0, .ref co, .int 0, .ref sk, .int 0])), (dr, .inl (J.2.1, 256, .inl (fun _ => 0)))]) [0, 1] (by decide) rfl).weaken (fun _ _ _ _ => trivial)) rfl rfl rfl ⟨Nat.le_of_ble_eq_true rfl, Nat.le_of_ble_eq_true rfl⟩ rfl rfl rfl hl.1 rfl (Nat.le_of_ble_eq_true rfl) ⟨Nat.le_of_ble_eq_true rfl, Nat.le_of_ble_eq_true rfl⟩ dX7_readLines_16) (fun u1 H locs hw hP hD hS => ?_)
  have hP : va_P J.1 cls [(t, .inr (7, [.ref ta, .int 0, .ref dr, .int 1, .int 0, .int 1, .ref co, .int 0, .ref sk, .int 0])), (dr, .inl (J.2.1, 256, .inl (upd (fun _ => 0) (0 : Int32).toNatClampNeg (-59))))] H := hP
  have hD : va_D A [(t, .inr (7, [.ref ta, .int 0, .ref dr, .int 1, .int 0, .int 1, .ref co, .int 0, .ref sk, .int 0])), (dr, .inl (J.2.1, 256, .inl (upd (fun _ => 0) (0 : Int32).toNatClampNeg (-59))))] := hD
  refine W.widen (k := 0) (n := 0) (Nat.le_of_ble_eq_true rfl) (Nat.le_of_ble_eq_true rfl) ?_
  refine lv_aload_n hx hb dX7_readLines_19 rfl (lv_at hl 1 rfl) ?_
  refine va_get (D := J.1) (ci := 7) (v := .int 1) (C := RX7) (T := TX7) (N := 10) hx hb hts inX7 hown hK.1 hP 0 rfl rfl 5 (by decide) (hts _ q_139) (fun _ h9 => h9) rfl dX7_readLines_20 ?_
  refine lv_if_ne (tgt := 37) hx hb dX7_readLines_23 (by decide) (fun _ => ?_) (fun c => absurd c (by decide))
  exact wz_v () hx hb hr hlk trivial hP hD hS dX7_readLines_37
theorem dX7_read_0 : decode cX7_read 0 = .ok (.aload_n 0, 1) := by decide +kernel
theorem dX7_read_1 : decode cX7_read 1 = .ok (.iconst 0, 1) := by decide +kernel
theorem dX7_read_2 : decode cX7_read 2 = .ok (.putfield 28, 3) := by decide +kernel
theorem dX7_read_5 : decode cX7_read 5 = .ok (.aload_n 0, 1) := by decide +kernel
theorem dX7_read_6 : decode cX7_read 6 = .ok (.iconst 0, 1) := by decide +kernel
theorem dX7_read_7 : decode cX7_read 7 = .ok (.putfield 31, 3) := by decide +kernel
theorem dX7_read_10 : decode cX7_read 10 = .ok (.aload_n 0, 1) := by decide +kernel
theorem dX7_read_11 : decode cX7_read 11 = .ok (.iconst 0, 1) := by decide +kernel
theorem dX7_read_12 : decode cX7_read 12 = .ok (.putfield 34, 3) := by decide +kernel
theorem dX7_read_15 : decode cX7_read 15 = .ok (.aload_n 0, 1) := by decide +kernel
theorem q_688 : Cond.methodLink RX7 38 yX7_readLines ∈ lw_g := mem_q 688 (by decide +kernel) rfl
theorem q_690 : Cond.instanceMethod yX7_readLines ∈ lw_g := mem_q 690 (by decide +kernel) rfl
theorem q_9 : Cond.selects RX7 yX7_readLines yX7_readLines ∈ lw_g := mem_q 9 (by decide +kernel) rfl
theorem q_691 : Cond.code yX7_readLines cX7_readLines 2 none ∈ lw_g := mem_q 691 (by decide +kernel) rfl
theorem kV_RX7_38 : CV RX7 38 RX7 yX7_readLines cX7_readLines 2 none 0 := cv_of q_688 q_690 q_9 q_104 q_691 (by decide +kernel)
theorem dX7_read_16 : decode cX7_read 16 = .ok (.invokevirtual 38, 3) := by decide +kernel
theorem dX7_read_19 : decode cX7_read 19 = .ok (.aload_n 0, 1) := by decide +kernel
theorem dX7_read_20 : decode cX7_read 20 = .ok (.iconst 0, 1) := by decide +kernel
theorem dX7_read_21 : decode cX7_read 21 = .ok (.putfield 24, 3) := by decide +kernel
theorem dX7_read_24 : decode cX7_read 24 = .ok (.aload_n 0, 1) := by decide +kernel
theorem dX7_read_25 : decode cX7_read 25 = .ok (.getfield 34, 3) := by decide +kernel
theorem dX7_read_28 : decode cX7_read 28 = .ok (.ifCond .eq 11, 3) := by decide +kernel
theorem dX7_read_31 : decode cX7_read 31 = .ok (.bipush (-100), 2) := by decide +kernel
theorem dX7_read_33 : decode cX7_read 33 = .ok (.aload_n 0, 1) := by decide +kernel
theorem dX7_read_34 : decode cX7_read 34 = .ok (.getfield 28, 3) := by decide +kernel
theorem dX7_read_37 : decode cX7_read 37 = .ok (.isub, 1) := by decide +kernel
theorem dX7_read_38 : decode cX7_read 38 = .ok (.ireturn, 1) := by decide +kernel
set_option maxHeartbeats 4000000 in
set_option maxRecDepth 100000 in
theorem cL_read (l : Launch) (J : va_J9) (sz : Nat) (t : Nat) (ta : Nat) (dr : Nat) (co : Nat) (sk : Nat) : WC l J yX7_read cX7_read 1 (some .int) ({ frames := 10, cells := 0, slots := 0, locals := 228 }) [.ref t] [(t, .inr (7, [.ref ta, .int 0, .ref dr, .int 0, .int 0, .int 0, .ref co, .int 0, .ref sk, .int 0])), (dr, .inl (J.2.1, 256, .inl (fun _ => 0)))] sz (Qi J (fun (r : Int32) (_ : Unit) => r = (-100)) (fun (_ : Unit) => [])) 0 0 := by
  refine wc_of (by decide) (Nat.le_of_ble_eq_true rfl) ?_
  intro p e s m below meth c ls A hE hl hP hK hD hS hA
  obtain ⟨hx, hb, hr, hml, hown, hts, hlk, hin⟩ := hE
  have hown : s.vm.findClass RX7 = some m.cls := hown
  have hl : lv_has ls 1 [(0, .ref t)] := hl
  refine lv_aload_n hx hb dX7_read_0 rfl (lv_at hl 0 rfl) ?_
  refine lv_iconst (v := 0) hx hb dX7_read_1 (by decide) ?_
  refine va_put (D := J.1) (ci := 7) (v := .int 0) (ty := (.int)) (C := RX7) (T := TX7) (N := 10) hx hb hts inX7 tyX7 tyX7_ok nmX7 hown hK.1 hP hD hS 0 rfl rfl 4 (by decide) (hts _ q_138) (fun _ h9 => h9) rfl (by decide +kernel) rfl rfl (Nat.le_of_ble_eq_true rfl) dX7_read_2 (fun H locs hP hD hS => ?_)
  have hP : va_P J.1 cls [(t, .inr (7, [.ref ta, .int 0, .ref dr, .int 0, .int 0, .int 0, .ref co, .int 0, .ref sk, .int 0])), (dr, .inl (J.2.1, 256, .inl (fun _ => 0)))] H := hP
  have hD : va_D A [(t, .inr (7, [.ref ta, .int 0, .ref dr, .int 0, .int 0, .int 0, .ref co, .int 0, .ref sk, .int 0])), (dr, .inl (J.2.1, 256, .inl (fun _ => 0)))] := hD
  refine lv_aload_n hx hb dX7_read_5 rfl (lv_at hl 0 rfl) ?_
  refine lv_iconst (v := 0) hx hb dX7_read_6 (by decide) ?_
  refine va_put (D := J.1) (ci := 7) (v := .int 0) (ty := (.int)) (C := RX7) (T := TX7) (N := 10) hx hb hts inX7 tyX7 tyX7_ok nmX7 hown hK.1 hP hD hS 0 rfl rfl 3 (by decide) (hts _ q_137) (fun _ h9 => h9) rfl (by decide +kernel) rfl rfl (Nat.le_of_ble_eq_true rfl) dX7_read_7 (fun H locs hP hD hS => ?_)
  have hP : va_P J.1 cls [(t, .inr (7, [.ref ta, .int 0, .ref dr, .int 0, .int 0, .int 0, .ref co, .int 0, .ref sk, .int 0])), (dr, .inl (J.2.1, 256, .inl (fun _ => 0)))] H := hP
  have hD : va_D A [(t, .inr (7, [.ref ta, .int 0, .ref dr, .int 0, .int 0, .int 0, .ref co, .int 0, .ref sk, .int 0])), (dr, .inl (J.2.1, 256, .inl (fun _ => 0)))] := hD
  refine lv_aload_n hx hb dX7_read_10 rfl (lv_at hl 0 rfl) ?_
  refine lv_iconst (v := 0) hx hb dX7_read_11 (by decide) ?_
  refine va_put (D := J.1) (ci := 7) (v := .int 0) (ty := (.boolean)) (C := RX7) (T := TX7) (N := 10) hx hb hts inX7 tyX7 tyX7_ok nmX7 hown hK.1 hP hD hS 0 rfl rfl 5 (by decide) (hts _ q_139) (fun _ h9 => h9) rfl (by decide +kernel) rfl rfl (Nat.le_of_ble_eq_true rfl) dX7_read_12 (fun H locs hP hD hS => ?_)
  have hP : va_P J.1 cls [(t, .inr (7, [.ref ta, .int 0, .ref dr, .int 0, .int 0, .int 0, .ref co, .int 0, .ref sk, .int 0])), (dr, .inl (J.2.1, 256, .inl (fun _ => 0)))] H := hP
  have hD : va_D A [(t, .inr (7, [.ref ta, .int 0, .ref dr, .int 0, .int 0, .int 0, .ref co, .int 0, .ref sk, .int 0])), (dr, .inl (J.2.1, 256, .inl (fun _ => 0)))] := hD
  refine lv_aload_n hx hb dX7_read_15 rfl (lv_at hl 0 rfl) ?_
  refine gw_v (wc := [(t, .inr (7, [.ref ta, .int 0, .ref dr, .int 0, .int 0, .int 0, .ref co, .int 0, .ref sk, .int 0])), (dr, .inl (J.2.1, 256, .inl (fun _ => 0)))]) (wr := []) hP hD hS hA [0, 1] [] rfl rfl (by decide) (by decide) (wn_V (As := []) (rest := []) hx hb hml hown hts hK (cL_lines l J _ t ta dr co sk) kV_RX7_38 hP ((hD.sub (ws' := [(t, .inr (7, [.ref ta, .int 0, .ref dr, .int 0, .int 0, .int 0, .ref co, .int 0, .ref sk, .int 0])), (dr, .inl (J.2.1, 256, .inl (fun _ => 0)))]) [0, 1] (by decide) rfl).weaken (fun _ _ _ _ => trivial)) rfl rfl rfl ⟨Nat.le_of_ble_eq_true rfl, Nat.le_of_ble_eq_true rfl⟩ rfl rfl rfl hl.1 rfl (Nat.le_of_ble_eq_true rfl) ⟨Nat.le_of_ble_eq_true rfl, Nat.le_of_ble_eq_true rfl⟩ dX7_read_16) (fun u1 H locs hw hP hD hS => ?_)
  have hP : va_P J.1 cls [(t, .inr (7, [.ref ta, .int 0, .ref dr, .int 1, .int 0, .int 1, .ref co, .int 0, .ref sk, .int 0])), (dr, .inl (J.2.1, 256, .inl (upd (fun _ => 0) (0 : Int32).toNatClampNeg (-59))))] H := hP
  have hD : va_D A [(t, .inr (7, [.ref ta, .int 0, .ref dr, .int 1, .int 0, .int 1, .ref co, .int 0, .ref sk, .int 0])), (dr, .inl (J.2.1, 256, .inl (upd (fun _ => 0) (0 : Int32).toNatClampNeg (-59))))] := hD
  refine W.widen (k := 0) (n := 0) (Nat.le_of_ble_eq_true rfl) (Nat.le_of_ble_eq_true rfl) ?_
  refine lv_aload_n hx hb dX7_read_19 rfl (lv_at hl 0 rfl) ?_
  refine lv_iconst (v := 0) hx hb dX7_read_20 (by decide) ?_
  refine va_put (D := J.1) (ci := 7) (v := .int 0) (ty := (.int)) (C := RX7) (T := TX7) (N := 10) hx hb hts inX7 tyX7 tyX7_ok nmX7 hown hK.1 hP hD hS 0 rfl rfl 1 (by decide) (hts _ q_134) (fun _ h9 => h9) rfl (by decide +kernel) rfl rfl (Nat.le_of_ble_eq_true rfl) dX7_read_21 (fun H locs hP hD hS => ?_)
  have hP : va_P J.1 cls [(t, .inr (7, [.ref ta, .int 0, .ref dr, .int 1, .int 0, .int 1, .ref co, .int 0, .ref sk, .int 0])), (dr, .inl (J.2.1, 256, .inl (upd (fun _ => 0) (0 : Int32).toNatClampNeg (-59))))] H := hP
  have hD : va_D A [(t, .inr (7, [.ref ta, .int 0, .ref dr, .int 1, .int 0, .int 1, .ref co, .int 0, .ref sk, .int 0])), (dr, .inl (J.2.1, 256, .inl (upd (fun _ => 0) (0 : Int32).toNatClampNeg (-59))))] := hD
  refine lv_aload_n hx hb dX7_read_24 rfl (lv_at hl 0 rfl) ?_
  refine va_get (D := J.1) (ci := 7) (v := .int 1) (C := RX7) (T := TX7) (N := 10) hx hb hts inX7 hown hK.1 hP 0 rfl rfl 5 (by decide) (hts _ q_139) (fun _ h9 => h9) rfl dX7_read_25 ?_
  refine lv_if_eq (tgt := 39) hx hb dX7_read_28 (by decide) (fun c => absurd c (by decide)) (fun _ => ?_)
  refine lv_bipush (v := (-100)) hx hb dX7_read_31 (by decide) ?_
  refine lv_aload_n hx hb dX7_read_33 rfl (lv_at hl 0 rfl) ?_
  refine va_get (D := J.1) (ci := 7) (v := .int 0) (C := RX7) (T := TX7) (N := 10) hx hb hts inX7 hown hK.1 hP 0 rfl rfl 4 (by decide) (hts _ q_138) (fun _ h9 => h9) rfl dX7_read_34 ?_
  refine lv_isub hx hb dX7_read_37 ?_
  refine top_i (y := (-100)) (by decide) ?_
  exact wz_i () hx hb hr hlk (by decide) (hP.sub (ws' := []) [] rfl) (hD.sub (ws' := []) [] (by decide) rfl) hS dX7_read_38
theorem dX10_settle_8 : decode cX10_settle 8 = .ok (.iconst 0, 1) := by decide +kernel
theorem dX10_settle_9 : decode cX10_settle 9 = .ok (.istore_n 1, 1) := by decide +kernel
theorem dX10_settle_10 : decode cX10_settle 10 = .ok (.iload_n 1, 1) := by decide +kernel
theorem dX10_settle_11 : decode cX10_settle 11 = .ok (.aload_n 0, 1) := by decide +kernel
theorem dX10_settle_12 : decode cX10_settle 12 = .ok (.getfield 36, 3) := by decide +kernel
theorem dX10_settle_15 : decode cX10_settle 15 = .ok (.if_icmp .ge 72, 3) := by decide +kernel
theorem dX10_settle_18 : decode cX10_settle 18 = .ok (.iconst 0, 1) := by decide +kernel
theorem dX10_settle_19 : decode cX10_settle 19 = .ok (.istore_n 2, 1) := by decide +kernel
theorem dX10_settle_20 : decode cX10_settle 20 = .ok (.iconst 0, 1) := by decide +kernel
theorem dX10_settle_21 : decode cX10_settle 21 = .ok (.istore_n 3, 1) := by decide +kernel
theorem dX10_settle_22 : decode cX10_settle 22 = .ok (.iload_n 3, 1) := by decide +kernel
theorem dX10_settle_23 : decode cX10_settle 23 = .ok (.aload_n 0, 1) := by decide +kernel
theorem dX10_settle_24 : decode cX10_settle 24 = .ok (.getfield 36, 3) := by decide +kernel
theorem dX10_settle_27 : decode cX10_settle 27 = .ok (.if_icmp .ge 47, 3) := by decide +kernel
theorem dX10_settle_30 : decode cX10_settle 30 = .ok (.aload_n 0, 1) := by decide +kernel
theorem q_172 : Cond.fieldLink RX10 25 RX10 "text" "LFoxHoles$Law;" ∈ lw_g := mem_q 172 (by decide +kernel) rfl
theorem dX10_settle_31 : decode cX10_settle 31 = .ok (.getfield 25, 3) := by decide +kernel
theorem dX10_settle_34 : decode cX10_settle 34 = .ok (.iload_n 1, 1) := by decide +kernel
theorem dX10_settle_35 : decode cX10_settle 35 = .ok (.iload_n 3, 1) := by decide +kernel
theorem dX10_settle_36 : decode cX10_settle 36 = .ok (.aload_n 0, 1) := by decide +kernel
theorem q_174 : Cond.fieldLink RX10 15 RX10 "joined" "[I" ∈ lw_g := mem_q 174 (by decide +kernel) rfl
theorem dX10_settle_37 : decode cX10_settle 37 = .ok (.getfield 15, 3) := by decide +kernel
theorem dX10_settle_40 : decode cX10_settle 40 = .ok (.iload_n 1, 1) := by decide +kernel
theorem dX10_settle_41 : decode cX10_settle 41 = .ok (.iaload, 1) := by decide +kernel
theorem dX10_settle_42 : decode cX10_settle 42 = .ok (.iload_n 3, 1) := by decide +kernel
theorem dX10_settle_43 : decode cX10_settle 43 = .ok (.ishr, 1) := by decide +kernel
theorem dX10_settle_44 : decode cX10_settle 44 = .ok (.iconst 1, 1) := by decide +kernel
theorem dX10_settle_45 : decode cX10_settle 45 = .ok (.iand, 1) := by decide +kernel
theorem dX10_settle_46 : decode cX10_settle 46 = .ok (.aload_n 0, 1) := by decide +kernel
theorem dX10_settle_47 : decode cX10_settle 47 = .ok (.getfield 9, 3) := by decide +kernel
theorem dX10_settle_50 : decode cX10_settle 50 = .ok (.iload_n 3, 1) := by decide +kernel
theorem dX10_settle_51 : decode cX10_settle 51 = .ok (.iaload, 1) := by decide +kernel
theorem dX10_settle_52 : decode cX10_settle 52 = .ok (.aload_n 0, 1) := by decide +kernel
theorem dX10_settle_53 : decode cX10_settle 53 = .ok (.getfield 36, 3) := by decide +kernel
theorem q_520 : Cond.methodLink RX10 100 yX7_worth ∈ lw_g := mem_q 520 (by decide +kernel) rfl
theorem q_521 : Cond.instanceMethod yX7_worth ∈ lw_g := mem_q 521 (by decide +kernel) rfl
theorem q_522 : Cond.selects RX7 yX7_worth yX7_worth ∈ lw_g := mem_q 522 (by decide +kernel) rfl
theorem q_523 : Cond.code yX7_worth cX7_worth 9 (some .int) ∈ lw_g := mem_q 523 (by decide +kernel) rfl
theorem kV_RX10_100 : CV RX10 100 RX7 yX7_worth cX7_worth 9 (some .int) 5 := cv_of q_520 q_521 q_522 q_104 q_523 (by decide +kernel)
theorem dX10_settle_56 : decode cX10_settle 56 = .ok (.invokevirtual 100, 3) := by decide +kernel
theorem dX10_settle_59 : decode cX10_settle 59 = .ok (.ifCond .eq 9, 3) := by decide +kernel
theorem dX10_settle_68 : decode cX10_settle 68 = .ok (.iinc 3 1, 3) := by decide +kernel
theorem dX10_settle_71 : decode cX10_settle 71 = .ok (.goto (-49), 3) := by decide +kernel
theorem dX10_settle_74 : decode cX10_settle 74 = .ok (.aload_n 0, 1) := by decide +kernel
theorem q_175 : Cond.fieldLink RX10 18 RX10 "lawful" "[I" ∈ lw_g := mem_q 175 (by decide +kernel) rfl
theorem dX10_settle_75 : decode cX10_settle 75 = .ok (.getfield 18, 3) := by decide +kernel
theorem dX10_settle_78 : decode cX10_settle 78 = .ok (.iload_n 1, 1) := by decide +kernel
theorem dX10_settle_79 : decode cX10_settle 79 = .ok (.iload_n 2, 1) := by decide +kernel
theorem dX10_settle_80 : decode cX10_settle 80 = .ok (.iastore, 1) := by decide +kernel
theorem dX10_settle_81 : decode cX10_settle 81 = .ok (.iinc 1 1, 3) := by decide +kernel
theorem dX10_settle_84 : decode cX10_settle 84 = .ok (.goto (-74), 3) := by decide +kernel
theorem dX10_settle_87 : decode cX10_settle 87 = .ok (.aload_n 0, 1) := by decide +kernel
theorem dX10_settle_88 : decode cX10_settle 88 = .ok (.iconst 0, 1) := by decide +kernel
theorem dX10_settle_89 : decode cX10_settle 89 = .ok (.putfield 29, 3) := by decide +kernel
theorem dX10_settle_92 : decode cX10_settle 92 = .ok (.return_, 1) := by decide +kernel
set_option maxHeartbeats 4000000 in
set_option maxRecDepth 100000 in
theorem cW_settle1 (l : Launch) (J : va_J9) (sz : Nat) (w : Nat) (t : Nat) (we : Nat) (jo : Nat) (la : Nat) (ta : Nat) (dr : Nat) (co : Nat) (sk : Nat) (n : Int32) : WC l J yX10_settle cX10_settle 4 none ({ frames := 1, cells := 0, slots := 0, locals := 28 }) [.ref w] [(w, .inr (10, [.ref t, .ref we, .ref jo, .ref la, .int 1, .int 0, .int 1, .int 0, .int 1, .int 0, .int 1])), (t, .inr (7, [.ref ta, .int 0, .ref dr, .int 0, .int 0, .int 0, .ref co, .int 0, .ref sk, .int 0])), (we, .inl (J.2.1, 10, .inl (upd (fun _ => 0) (0 : Int32).toNatClampNeg n))), (jo, .inl (J.2.1, 10, .inl (fun _ => 0))), (la, .inl (J.2.1, 10, .inl (fun _ => 0)))] sz (Qv J (fun (u : Unit) => True) (fun (_ : Unit) => [])) 0 0 := by
  refine wc_of (by decide) (Nat.le_of_ble_eq_true rfl) ?_
  intro p e s m below meth c ls A hE hl hP hK hD hS hA
  obtain ⟨hx, hb, hr, hml, hown, hts, hlk, hin⟩ := hE
  have hown : s.vm.findClass RX10 = some m.cls := hown
  have hl : lv_has ls 4 [(0, .ref w)] := hl
  refine lv_aload_n hx hb dX10_settle_0 rfl (lv_at hl 0 rfl) ?_
  refine va_get (D := J.1) (ci := 10) (v := .int 1) (C := RX10) (T := TX10) (N := 11) hx hb hts inX10 hown hK.1 hP 0 rfl rfl 4 (by decide) (hts _ q_176) (fun _ h9 => h9) rfl dX10_settle_1 ?_
  refine lv_if_ne (tgt := 8) hx hb dX10_settle_4 (by decide) (fun _ => ?_) (fun c => absurd c (by decide))
  refine lv_iconst (v := 0) hx hb dX10_settle_8 (by decide) ?_
  refine lv_istore_n (lv' := [(1, .int 0), (0, .ref w)]) hx hb dX10_settle_9 rfl hl (by decide) rfl (fun ls hl => ?_)
  refine lv_iload_n hx hb dX10_settle_10 rfl (lv_at hl 0 rfl) ?_
  refine lv_aload_n hx hb dX10_settle_11 rfl (lv_at hl 1 rfl) ?_
  refine va_get (D := J.1) (ci := 10) (v := .int 1) (C := RX10) (T := TX10) (N := 11) hx hb hts inX10 hown hK.1 hP 0 rfl rfl 6 (by decide) (hts _ q_178) (fun _ h9 => h9) rfl dX10_settle_12 ?_
  refine lv_icmp_ge (tgt := 87) hx hb dX10_settle_15 (by decide) (fun c => absurd c (by decide)) (fun _ => ?_)
  refine lv_iconst (v := 0) hx hb dX10_settle_18 (by decide) ?_
  refine lv_istore_n (lv' := [(2, .int 0), (1, .int 0), (0, .ref w)]) hx hb dX10_settle_19 rfl hl (by decide) rfl (fun ls hl => ?_)
  refine lv_iconst (v := 0) hx hb dX10_settle_20 (by decide) ?_
  refine lv_istore_n (lv' := [(3, .int 0), (2, .int 0), (1, .int 0), (0, .ref w)]) hx hb dX10_settle_21 rfl hl (by decide) rfl (fun ls hl => ?_)
  refine lv_iload_n hx hb dX10_settle_22 rfl (lv_at hl 0 rfl) ?_
  refine lv_aload_n hx hb dX10_settle_23 rfl (lv_at hl 3 rfl) ?_
  refine va_get (D := J.1) (ci := 10) (v := .int 1) (C := RX10) (T := TX10) (N := 11) hx hb hts inX10 hown hK.1 hP 0 rfl rfl 6 (by decide) (hts _ q_178) (fun _ h9 => h9) rfl dX10_settle_24 ?_
  refine lv_icmp_ge (tgt := 74) hx hb dX10_settle_27 (by decide) (fun c => absurd c (by decide)) (fun _ => ?_)
  refine lv_aload_n hx hb dX10_settle_30 rfl (lv_at hl 3 rfl) ?_
  refine va_get (D := J.1) (ci := 10) (v := .ref t) (C := RX10) (T := TX10) (N := 11) hx hb hts inX10 hown hK.1 hP 0 rfl rfl 0 (by decide) (hts _ q_172) (fun _ h9 => h9) rfl dX10_settle_31 ?_
  refine lv_iload_n hx hb dX10_settle_34 rfl (lv_at hl 2 rfl) ?_
  refine lv_iload_n hx hb dX10_settle_35 rfl (lv_at hl 0 rfl) ?_
  refine lv_aload_n hx hb dX10_settle_36 rfl (lv_at hl 3 rfl) ?_
  refine va_get (D := J.1) (ci := 10) (v := .ref jo) (C := RX10) (T := TX10) (N := 11) hx hb hts inX10 hown hK.1 hP 0 rfl rfl 2 (by decide) (hts _ q_174) (fun _ h9 => h9) rfl dX10_settle_37 ?_
  refine lv_iload_n hx hb dX10_settle_40 rfl (lv_at hl 2 rfl) ?_
  have h1 : vp_in 0 10 := (i_in (a := 0) (by decide) (by omega) (by omega))
  refine va_iald hx hb hK.1 hP 3 0 rfl rfl h1 dX10_settle_41 ?_
  refine top_i (y := 0) rfl ?_
  refine lv_iload_n hx hb dX10_settle_42 rfl (lv_at hl 0 rfl) ?_
  refine lv_ishr hx hb dX10_settle_43 ?_
  refine top_i (y := 0) (by decide) ?_
  refine lv_iconst (v := 1) hx hb dX10_settle_44 (by decide) ?_
  refine lv_iand hx hb dX10_settle_45 ?_
  refine top_i (y := 0) (by decide) ?_
  refine lv_aload_n hx hb dX10_settle_46 rfl (lv_at hl 3 rfl) ?_
  refine va_get (D := J.1) (ci := 10) (v := .ref we) (C := RX10) (T := TX10) (N := 11) hx hb hts inX10 hown hK.1 hP 0 rfl rfl 1 (by decide) (hts _ q_173) (fun _ h9 => h9) rfl dX10_settle_47 ?_
  refine lv_iload_n hx hb dX10_settle_50 rfl (lv_at hl 0 rfl) ?_
  have h2 : vp_in 0 10 := (i_in (a := 0) (by decide) (by omega) (by omega))
  refine va_iald hx hb hK.1 hP 2 0 rfl rfl h2 dX10_settle_51 ?_
  refine top_i (y := n) rfl ?_
  refine lv_aload_n hx hb dX10_settle_52 rfl (lv_at hl 3 rfl) ?_
  refine va_get (D := J.1) (ci := 10) (v := .int 1) (C := RX10) (T := TX10) (N := 11) hx hb hts inX10 hown hK.1 hP 0 rfl rfl 6 (by decide) (hts _ q_178) (fun _ h9 => h9) rfl dX10_settle_53 ?_
  refine go_i (rn_V (As := [.int 0, .int 0, .int 0, .int n, .int 1]) (rest := []) hx hb hml hown hts hK (cL_worth l J t ta dr co sk 0 0 0 n 1) kV_RX10_100 (hP.sub (ws' := [(t, .inr (7, [.ref ta, .int 0, .ref dr, .int 0, .int 0, .int 0, .ref co, .int 0, .ref sk, .int 0]))]) [1] rfl) rfl rfl rfl ⟨Nat.le_of_ble_eq_true rfl, Nat.le_of_ble_eq_true rfl⟩ rfl rfl rfl hl.1 rfl (Nat.le_of_ble_eq_true rfl) ⟨Nat.le_of_ble_eq_true rfl, Nat.le_of_ble_eq_true rfl⟩ dX10_settle_56) ?_
  refine lv_if_eq (tgt := 68) hx hb dX10_settle_59 (by decide) (fun _ => ?_) (fun c => absurd c (by decide))
  refine lv_iinc (v := 1) (lv' := [(3, .int 1), (2, .int 0), (1, .int 0), (0, .ref w)]) hx hb dX10_settle_68 hl (k := 0) rfl (by decide) (by decide) rfl (fun ls hl => ?_)
  refine lv_goto (tgt := 22) hx hb dX10_settle_71 (by decide) ?_
  refine lv_iload_n hx hb dX10_settle_22 rfl (lv_at hl 0 rfl) ?_
  refine lv_aload_n hx hb dX10_settle_23 rfl (lv_at hl 3 rfl) ?_
  refine va_get (D := J.1) (ci := 10) (v := .int 1) (C := RX10) (T := TX10) (N := 11) hx hb hts inX10 hown hK.1 hP 0 rfl rfl 6 (by decide) (hts _ q_178) (fun _ h9 => h9) rfl dX10_settle_24 ?_
  refine lv_icmp_ge (tgt := 74) hx hb dX10_settle_27 (by decide) (fun _ => ?_) (fun c => absurd c (by decide))
  refine lv_aload_n hx hb dX10_settle_74 rfl (lv_at hl 3 rfl) ?_
  refine va_get (D := J.1) (ci := 10) (v := .ref la) (C := RX10) (T := TX10) (N := 11) hx hb hts inX10 hown hK.1 hP 0 rfl rfl 3 (by decide) (hts _ q_175) (fun _ h9 => h9) rfl dX10_settle_75 ?_
  refine lv_iload_n hx hb dX10_settle_78 rfl (lv_at hl 2 rfl) ?_
  refine lv_iload_n hx hb dX10_settle_79 rfl (lv_at hl 1 rfl) ?_
  have h3 : vp_in 0 10 := (i_in (a := 0) (by decide) (by omega) (by omega))
  refine va_iast hx hb hK.1 hP hD hS 4 0 rfl rfl h3 dX10_settle_80 (fun H locs hP hD hS => ?_)
  have hP : va_P J.1 cls [(w, .inr (10, [.ref t, .ref we, .ref jo, .ref la, .int 1, .int 0, .int 1, .int 0, .int 1, .int 0, .int 1])), (t, .inr (7, [.ref ta, .int 0, .ref dr, .int 0, .int 0, .int 0, .ref co, .int 0, .ref sk, .int 0])), (we, .inl (J.2.1, 10, .inl (upd (fun _ => 0) (0 : Int32).toNatClampNeg n))), (jo, .inl (J.2.1, 10, .inl (fun _ => 0))), (la, .inl (J.2.1, 10, .inl (upd (fun _ => 0) (0 : Int32).toNatClampNeg 0)))] H := hP
  have hD : va_D A [(w, .inr (10, [.ref t, .ref we, .ref jo, .ref la, .int 1, .int 0, .int 1, .int 0, .int 1, .int 0, .int 1])), (t, .inr (7, [.ref ta, .int 0, .ref dr, .int 0, .int 0, .int 0, .ref co, .int 0, .ref sk, .int 0])), (we, .inl (J.2.1, 10, .inl (upd (fun _ => 0) (0 : Int32).toNatClampNeg n))), (jo, .inl (J.2.1, 10, .inl (fun _ => 0))), (la, .inl (J.2.1, 10, .inl (upd (fun _ => 0) (0 : Int32).toNatClampNeg 0)))] := hD
  refine lv_iinc (v := 1) (lv' := [(1, .int 1), (3, .int 1), (2, .int 0), (0, .ref w)]) hx hb dX10_settle_81 hl (k := 2) rfl (by decide) (by decide) rfl (fun ls hl => ?_)
  refine lv_goto (tgt := 10) hx hb dX10_settle_84 (by decide) ?_
  refine lv_iload_n hx hb dX10_settle_10 rfl (lv_at hl 0 rfl) ?_
  refine lv_aload_n hx hb dX10_settle_11 rfl (lv_at hl 3 rfl) ?_
  refine va_get (D := J.1) (ci := 10) (v := .int 1) (C := RX10) (T := TX10) (N := 11) hx hb hts inX10 hown hK.1 hP 0 rfl rfl 6 (by decide) (hts _ q_178) (fun _ h9 => h9) rfl dX10_settle_12 ?_
  refine lv_icmp_ge (tgt := 87) hx hb dX10_settle_15 (by decide) (fun _ => ?_) (fun c => absurd c (by decide))
  refine lv_aload_n hx hb dX10_settle_87 rfl (lv_at hl 3 rfl) ?_
  refine lv_iconst (v := 0) hx hb dX10_settle_88 (by decide) ?_
  refine va_put (D := J.1) (ci := 10) (v := .int 0) (ty := (.boolean)) (C := RX10) (T := TX10) (N := 11) hx hb hts inX10 tyX10 tyX10_ok nmX10 hown hK.1 hP hD hS 0 rfl rfl 4 (by decide) (hts _ q_176) (fun _ h9 => h9) rfl (by decide +kernel) rfl rfl (Nat.le_of_ble_eq_true rfl) dX10_settle_89 (fun H locs hP hD hS => ?_)
  have hP : va_P J.1 cls [(w, .inr (10, [.ref t, .ref we, .ref jo, .ref la, .int 0, .int 0, .int 1, .int 0, .int 1, .int 0, .int 1])), (t, .inr (7, [.ref ta, .int 0, .ref dr, .int 0, .int 0, .int 0, .ref co, .int 0, .ref sk, .int 0])), (we, .inl (J.2.1, 10, .inl (upd (fun _ => 0) (0 : Int32).toNatClampNeg n))), (jo, .inl (J.2.1, 10, .inl (fun _ => 0))), (la, .inl (J.2.1, 10, .inl (upd (fun _ => 0) (0 : Int32).toNatClampNeg 0)))] H := hP
  have hD : va_D A [(w, .inr (10, [.ref t, .ref we, .ref jo, .ref la, .int 0, .int 0, .int 1, .int 0, .int 1, .int 0, .int 1])), (t, .inr (7, [.ref ta, .int 0, .ref dr, .int 0, .int 0, .int 0, .ref co, .int 0, .ref sk, .int 0])), (we, .inl (J.2.1, 10, .inl (upd (fun _ => 0) (0 : Int32).toNatClampNeg n))), (jo, .inl (J.2.1, 10, .inl (fun _ => 0))), (la, .inl (J.2.1, 10, .inl (upd (fun _ => 0) (0 : Int32).toNatClampNeg 0)))] := hD
  exact wz_v () hx hb hr hlk trivial (hP.sub (ws' := []) [] rfl) (hD.sub (ws' := []) [] (by decide) rfl) hS dX10_settle_92
theorem dX10_become_0 : decode cX10_become 0 = .ok (.aload_n 0, 1) := by decide +kernel
theorem dX10_become_1 : decode cX10_become 1 = .ok (.iload_n 1, 1) := by decide +kernel
theorem dX10_become_2 : decode cX10_become 2 = .ok (.iload_n 2, 1) := by decide +kernel
theorem dX10_become_3 : decode cX10_become 3 = .ok (.iload_n 3, 1) := by decide +kernel
theorem q_637 : Cond.methodLink RX10 80 yX10_mayBecome ∈ lw_g := mem_q 637 (by decide +kernel) rfl
theorem q_618 : Cond.instanceMethod yX10_mayBecome ∈ lw_g := mem_q 618 (by decide +kernel) rfl
theorem q_619 : Cond.selects RX10 yX10_mayBecome yX10_mayBecome ∈ lw_g := mem_q 619 (by decide +kernel) rfl
theorem q_620 : Cond.code yX10_mayBecome cX10_mayBecome 4 (some .boolean) ∈ lw_g := mem_q 620 (by decide +kernel) rfl
theorem kV_RX10_80 : CV RX10 80 RX10 yX10_mayBecome cX10_mayBecome 4 (some .boolean) 3 := cv_of q_637 q_618 q_619 q_105 q_620 (by decide +kernel)
theorem dX10_become_4 : decode cX10_become 4 = .ok (.invokevirtual 80, 3) := by decide +kernel
theorem dX10_become_7 : decode cX10_become 7 = .ok (.ifCond .ne 4, 3) := by decide +kernel
theorem dX10_become_11 : decode cX10_become 11 = .ok (.iload_n 2, 1) := by decide +kernel
theorem dX10_become_12 : decode cX10_become 12 = .ok (.tableswitch 67 0 2 #[28, 38, 59], 28) := by decide +kernel
theorem dX10_become_71 : decode cX10_become 71 = .ok (.aload_n 0, 1) := by decide +kernel
theorem dX10_become_72 : decode cX10_become 72 = .ok (.iload_n 3, 1) := by decide +kernel
theorem dX10_become_73 : decode cX10_become 73 = .ok (.putfield 21, 3) := by decide +kernel
theorem dX10_become_76 : decode cX10_become 76 = .ok (.goto 8, 3) := by decide +kernel
theorem dX10_become_84 : decode cX10_become 84 = .ok (.aload_n 0, 1) := by decide +kernel
theorem dX10_become_85 : decode cX10_become 85 = .ok (.dup, 1) := by decide +kernel
theorem dX10_become_86 : decode cX10_become 86 = .ok (.getfield 29, 3) := by decide +kernel
theorem dX10_become_89 : decode cX10_become 89 = .ok (.iload_n 2, 1) := by decide +kernel
theorem dX10_become_90 : decode cX10_become 90 = .ok (.ifCond .ne 7, 3) := by decide +kernel
theorem dX10_become_97 : decode cX10_become 97 = .ok (.iconst 0, 1) := by decide +kernel
theorem dX10_become_98 : decode cX10_become 98 = .ok (.ior, 1) := by decide +kernel
theorem dX10_become_99 : decode cX10_become 99 = .ok (.putfield 29, 3) := by decide +kernel
theorem dX10_become_102 : decode cX10_become 102 = .ok (.aload_n 0, 1) := by decide +kernel
theorem dX10_become_103 : decode cX10_become 103 = .ok (.dup, 1) := by decide +kernel
theorem dX10_become_104 : decode cX10_become 104 = .ok (.getfield 33, 3) := by decide +kernel
theorem dX10_become_107 : decode cX10_become 107 = .ok (.iconst 1, 1) := by decide +kernel
theorem dX10_become_108 : decode cX10_become 108 = .ok (.iadd, 1) := by decide +kernel
theorem dX10_become_109 : decode cX10_become 109 = .ok (.putfield 33, 3) := by decide +kernel
theorem dX10_become_112 : decode cX10_become 112 = .ok (.return_, 1) := by decide +kernel
set_option maxHeartbeats 4000000 in
set_option maxRecDepth 100000 in
theorem cW_become2 (l : Launch) (J : va_J9) (sz : Nat) (w : Nat) (t : Nat) (we : Nat) (jo : Nat) (la : Nat) (v : Int32) (hv : 1 ≤ v.toInt ∧ v.toInt ≤ 2) : WC l J yX10_become cX10_become 4 none ({ frames := 1, cells := 0, slots := 0, locals := 23 }) [.ref w, .int 0, .int 2, .int v] [(w, .inr (10, [.ref t, .ref we, .ref jo, .ref la, .int 0, .int 0, .int 0, .int 0, .int 1, .int 0, .int 0]))] sz (Qv J (fun (u : Unit) => True) (fun (_ : Unit) => [(w, .inr (10, [.ref t, .ref we, .ref jo, .ref la, .int 0, .int 0, .int 0, .int 0, .int v, .int 0, .int 1]))])) 0 0 := by
  refine wc_of (by decide) (Nat.le_of_ble_eq_true rfl) ?_
  intro p e s m below meth c ls A hE hl hP hK hD hS hA
  obtain ⟨hx, hb, hr, hml, hown, hts, hlk, hin⟩ := hE
  have hown : s.vm.findClass RX10 = some m.cls := hown
  have hl : lv_has ls 4 [(0, .ref w), (1, .int 0), (2, .int 2), (3, .int v)] := hl
  have rg_v := i_rng v
  refine lv_aload_n hx hb dX10_become_0 rfl (lv_at hl 0 rfl) ?_
  refine lv_iload_n hx hb dX10_become_1 rfl (lv_at hl 1 rfl) ?_
  refine lv_iload_n hx hb dX10_become_2 rfl (lv_at hl 2 rfl) ?_
  refine lv_iload_n hx hb dX10_become_3 rfl (lv_at hl 3 rfl) ?_
  refine go_i (rn_V (As := [.int 0, .int 2, .int v]) (rest := []) hx hb hml hown hts hK (cW_mayB2 l J w t we jo la v) kV_RX10_80 hP rfl rfl rfl ⟨Nat.le_of_ble_eq_true rfl, Nat.le_of_ble_eq_true rfl⟩ rfl rfl rfl hl.1 rfl (Nat.le_of_ble_eq_true rfl) ⟨Nat.le_of_ble_eq_true rfl, Nat.le_of_ble_eq_true rfl⟩ dX10_become_4) ?_
  refine lv_if_ne (tgt := 11) hx hb dX10_become_7 (by decide) (fun _ => ?_) (fun c1 => (b0 c1 (by omega)).elim)
  refine lv_iload_n hx hb dX10_become_11 rfl (lv_at hl 2 rfl) ?_
  refine lv_tableIn (tgt := 71) (off := 59) hx hb dX10_become_12 (by decide) (by decide) (by decide) (by decide) ?_
  refine lv_aload_n hx hb dX10_become_71 rfl (lv_at hl 0 rfl) ?_
  refine lv_iload_n hx hb dX10_become_72 rfl (lv_at hl 3 rfl) ?_
  refine va_put (D := J.1) (ci := 10) (v := .int v) (ty := (.int)) (C := RX10) (T := TX10) (N := 11) hx hb hts inX10 tyX10 tyX10_ok nmX10 hown hK.1 hP hD hS 0 rfl rfl 8 (by decide) (hts _ q_184) (fun _ h9 => h9) rfl (by decide +kernel) rfl rfl (Nat.le_of_ble_eq_true rfl) dX10_become_73 (fun H locs hP hD hS => ?_)
  have hP : va_P J.1 cls [(w, .inr (10, [.ref t, .ref we, .ref jo, .ref la, .int 0, .int 0, .int 0, .int 0, .int v, .int 0, .int 0]))] H := hP
  have hD : va_D A [(w, .inr (10, [.ref t, .ref we, .ref jo, .ref la, .int 0, .int 0, .int 0, .int 0, .int v, .int 0, .int 0]))] := hD
  refine lv_goto (tgt := 84) hx hb dX10_become_76 (by decide) ?_
  refine lv_aload_n hx hb dX10_become_84 rfl (lv_at hl 0 rfl) ?_
  refine lv_dup hx hb dX10_become_85 rfl ?_
  refine va_get (D := J.1) (ci := 10) (v := .int 0) (C := RX10) (T := TX10) (N := 11) hx hb hts inX10 hown hK.1 hP 0 rfl rfl 4 (by decide) (hts _ q_176) (fun _ h9 => h9) rfl dX10_become_86 ?_
  refine lv_iload_n hx hb dX10_become_89 rfl (lv_at hl 2 rfl) ?_
  refine lv_if_ne (tgt := 97) hx hb dX10_become_90 (by decide) (fun _ => ?_) (fun c => absurd c (by decide))
  refine lv_iconst (v := 0) hx hb dX10_become_97 (by decide) ?_
  refine lv_ior hx hb dX10_become_98 ?_
  refine top_i (y := 0) (by decide) ?_
  refine va_put (D := J.1) (ci := 10) (v := .int 0) (ty := (.boolean)) (C := RX10) (T := TX10) (N := 11) hx hb hts inX10 tyX10 tyX10_ok nmX10 hown hK.1 hP hD hS 0 rfl rfl 4 (by decide) (hts _ q_176) (fun _ h9 => h9) rfl (by decide +kernel) rfl rfl (Nat.le_of_ble_eq_true rfl) dX10_become_99 (fun H locs hP hD hS => ?_)
  have hP : va_P J.1 cls [(w, .inr (10, [.ref t, .ref we, .ref jo, .ref la, .int 0, .int 0, .int 0, .int 0, .int v, .int 0, .int 0]))] H := hP
  have hD : va_D A [(w, .inr (10, [.ref t, .ref we, .ref jo, .ref la, .int 0, .int 0, .int 0, .int 0, .int v, .int 0, .int 0]))] := hD
  refine lv_aload_n hx hb dX10_become_102 rfl (lv_at hl 0 rfl) ?_
  refine lv_dup hx hb dX10_become_103 rfl ?_
  refine va_get (D := J.1) (ci := 10) (v := .int 0) (C := RX10) (T := TX10) (N := 11) hx hb hts inX10 hown hK.1 hP 0 rfl rfl 10 (by decide) (hts _ q_191) (fun _ h9 => h9) rfl dX10_become_104 ?_
  refine lv_iconst (v := 1) hx hb dX10_become_107 (by decide) ?_
  refine lv_iadd hx hb dX10_become_108 ?_
  refine top_i (y := 1) (by decide) ?_
  refine va_put (D := J.1) (ci := 10) (v := .int 1) (ty := (.int)) (C := RX10) (T := TX10) (N := 11) hx hb hts inX10 tyX10 tyX10_ok nmX10 hown hK.1 hP hD hS 0 rfl rfl 10 (by decide) (hts _ q_191) (fun _ h9 => h9) rfl (by decide +kernel) rfl rfl (Nat.le_of_ble_eq_true rfl) dX10_become_109 (fun H locs hP hD hS => ?_)
  have hP : va_P J.1 cls [(w, .inr (10, [.ref t, .ref we, .ref jo, .ref la, .int 0, .int 0, .int 0, .int 0, .int v, .int 0, .int 1]))] H := hP
  have hD : va_D A [(w, .inr (10, [.ref t, .ref we, .ref jo, .ref la, .int 0, .int 0, .int 0, .int 0, .int v, .int 0, .int 1]))] := hD
  exact wz_v () hx hb hr hlk trivial hP hD hS dX10_become_112
theorem dX10_become_79 : decode cX10_become 79 = .ok (.aload_n 0, 1) := by decide +kernel
theorem dX10_become_80 : decode cX10_become 80 = .ok (.iload_n 3, 1) := by decide +kernel
theorem dX10_become_81 : decode cX10_become 81 = .ok (.putfield 77, 3) := by decide +kernel
set_option maxHeartbeats 4000000 in
set_option maxRecDepth 100000 in
theorem cW_become3 (l : Launch) (J : va_J9) (sz : Nat) (w : Nat) (t : Nat) (we : Nat) (jo : Nat) (la : Nat) (v : Int32) (hv : 0 ≤ v.toInt ∧ v.toInt ≤ 127) : WC l J yX10_become cX10_become 4 none ({ frames := 1, cells := 0, slots := 0, locals := 23 }) [.ref w, .int 0, .int 3, .int v] [(w, .inr (10, [.ref t, .ref we, .ref jo, .ref la, .int 0, .int 0, .int 0, .int 0, .int 1, .int 0, .int 0]))] sz (Qv J (fun (u : Unit) => True) (fun (_ : Unit) => [(w, .inr (10, [.ref t, .ref we, .ref jo, .ref la, .int 0, .int 0, .int 0, .int 0, .int 1, .int v, .int 1]))])) 0 0 := by
  refine wc_of (by decide) (Nat.le_of_ble_eq_true rfl) ?_
  intro p e s m below meth c ls A hE hl hP hK hD hS hA
  obtain ⟨hx, hb, hr, hml, hown, hts, hlk, hin⟩ := hE
  have hown : s.vm.findClass RX10 = some m.cls := hown
  have hl : lv_has ls 4 [(0, .ref w), (1, .int 0), (2, .int 3), (3, .int v)] := hl
  have rg_v := i_rng v
  refine lv_aload_n hx hb dX10_become_0 rfl (lv_at hl 0 rfl) ?_
  refine lv_iload_n hx hb dX10_become_1 rfl (lv_at hl 1 rfl) ?_
  refine lv_iload_n hx hb dX10_become_2 rfl (lv_at hl 2 rfl) ?_
  refine lv_iload_n hx hb dX10_become_3 rfl (lv_at hl 3 rfl) ?_
  refine go_i (rn_V (As := [.int 0, .int 3, .int v]) (rest := []) hx hb hml hown hts hK (cW_mayB3 l J w t we jo la v) kV_RX10_80 hP rfl rfl rfl ⟨Nat.le_of_ble_eq_true rfl, Nat.le_of_ble_eq_true rfl⟩ rfl rfl rfl hl.1 rfl (Nat.le_of_ble_eq_true rfl) ⟨Nat.le_of_ble_eq_true rfl, Nat.le_of_ble_eq_true rfl⟩ dX10_become_4) ?_
  refine lv_if_ne (tgt := 11) hx hb dX10_become_7 (by decide) (fun _ => ?_) (fun c1 => (b0 c1 (by omega)).elim)
  refine lv_iload_n hx hb dX10_become_11 rfl (lv_at hl 2 rfl) ?_
  refine lv_tableOut (tgt := 79) hx hb dX10_become_12 (by decide) (by decide) ?_
  refine lv_aload_n hx hb dX10_become_79 rfl (lv_at hl 0 rfl) ?_
  refine lv_iload_n hx hb dX10_become_80 rfl (lv_at hl 3 rfl) ?_
  refine va_put (D := J.1) (ci := 10) (v := .int v) (ty := (.int)) (C := RX10) (T := TX10) (N := 11) hx hb hts inX10 tyX10 tyX10_ok nmX10 hown hK.1 hP hD hS 0 rfl rfl 9 (by decide) (hts _ q_190) (fun _ h9 => h9) rfl (by decide +kernel) rfl rfl (Nat.le_of_ble_eq_true rfl) dX10_become_81 (fun H locs hP hD hS => ?_)
  have hP : va_P J.1 cls [(w, .inr (10, [.ref t, .ref we, .ref jo, .ref la, .int 0, .int 0, .int 0, .int 0, .int 1, .int v, .int 0]))] H := hP
  have hD : va_D A [(w, .inr (10, [.ref t, .ref we, .ref jo, .ref la, .int 0, .int 0, .int 0, .int 0, .int 1, .int v, .int 0]))] := hD
  refine lv_aload_n hx hb dX10_become_84 rfl (lv_at hl 0 rfl) ?_
  refine lv_dup hx hb dX10_become_85 rfl ?_
  refine va_get (D := J.1) (ci := 10) (v := .int 0) (C := RX10) (T := TX10) (N := 11) hx hb hts inX10 hown hK.1 hP 0 rfl rfl 4 (by decide) (hts _ q_176) (fun _ h9 => h9) rfl dX10_become_86 ?_
  refine lv_iload_n hx hb dX10_become_89 rfl (lv_at hl 2 rfl) ?_
  refine lv_if_ne (tgt := 97) hx hb dX10_become_90 (by decide) (fun _ => ?_) (fun c => absurd c (by decide))
  refine lv_iconst (v := 0) hx hb dX10_become_97 (by decide) ?_
  refine lv_ior hx hb dX10_become_98 ?_
  refine top_i (y := 0) (by decide) ?_
  refine va_put (D := J.1) (ci := 10) (v := .int 0) (ty := (.boolean)) (C := RX10) (T := TX10) (N := 11) hx hb hts inX10 tyX10 tyX10_ok nmX10 hown hK.1 hP hD hS 0 rfl rfl 4 (by decide) (hts _ q_176) (fun _ h9 => h9) rfl (by decide +kernel) rfl rfl (Nat.le_of_ble_eq_true rfl) dX10_become_99 (fun H locs hP hD hS => ?_)
  have hP : va_P J.1 cls [(w, .inr (10, [.ref t, .ref we, .ref jo, .ref la, .int 0, .int 0, .int 0, .int 0, .int 1, .int v, .int 0]))] H := hP
  have hD : va_D A [(w, .inr (10, [.ref t, .ref we, .ref jo, .ref la, .int 0, .int 0, .int 0, .int 0, .int 1, .int v, .int 0]))] := hD
  refine lv_aload_n hx hb dX10_become_102 rfl (lv_at hl 0 rfl) ?_
  refine lv_dup hx hb dX10_become_103 rfl ?_
  refine va_get (D := J.1) (ci := 10) (v := .int 0) (C := RX10) (T := TX10) (N := 11) hx hb hts inX10 hown hK.1 hP 0 rfl rfl 10 (by decide) (hts _ q_191) (fun _ h9 => h9) rfl dX10_become_104 ?_
  refine lv_iconst (v := 1) hx hb dX10_become_107 (by decide) ?_
  refine lv_iadd hx hb dX10_become_108 ?_
  refine top_i (y := 1) (by decide) ?_
  refine va_put (D := J.1) (ci := 10) (v := .int 1) (ty := (.int)) (C := RX10) (T := TX10) (N := 11) hx hb hts inX10 tyX10 tyX10_ok nmX10 hown hK.1 hP hD hS 0 rfl rfl 10 (by decide) (hts _ q_191) (fun _ h9 => h9) rfl (by decide +kernel) rfl rfl (Nat.le_of_ble_eq_true rfl) dX10_become_109 (fun H locs hP hD hS => ?_)
  have hP : va_P J.1 cls [(w, .inr (10, [.ref t, .ref we, .ref jo, .ref la, .int 0, .int 0, .int 0, .int 0, .int 1, .int v, .int 1]))] H := hP
  have hD : va_D A [(w, .inr (10, [.ref t, .ref we, .ref jo, .ref la, .int 0, .int 0, .int 0, .int 0, .int 1, .int v, .int 1]))] := hD
  exact wz_v () hx hb hr hlk trivial hP hD hS dX10_become_112
end
section
theorem dJ6_bitCount_0f7a4_0 : decode cJ6_bitCount_0f7a4 0 = .ok (.iload_n 0, 1) := by decide +kernel
theorem dJ6_bitCount_0f7a4_1 : decode cJ6_bitCount_0f7a4 1 = .ok (.iload_n 0, 1) := by decide +kernel
theorem dJ6_bitCount_0f7a4_2 : decode cJ6_bitCount_0f7a4 2 = .ok (.iconst 1, 1) := by decide +kernel
theorem dJ6_bitCount_0f7a4_3 : decode cJ6_bitCount_0f7a4 3 = .ok (.iushr, 1) := by decide +kernel
theorem q_610 : Cond.constant RJ6 265 1431655765 ∈ lw_g := mem_q 610 (by decide +kernel) rfl
theorem dJ6_bitCount_0f7a4_4 : decode cJ6_bitCount_0f7a4 4 = .ok (.ldc_w 265, 3) := by decide +kernel
theorem dJ6_bitCount_0f7a4_7 : decode cJ6_bitCount_0f7a4 7 = .ok (.iand, 1) := by decide +kernel
theorem dJ6_bitCount_0f7a4_8 : decode cJ6_bitCount_0f7a4 8 = .ok (.isub, 1) := by decide +kernel
theorem dJ6_bitCount_0f7a4_9 : decode cJ6_bitCount_0f7a4 9 = .ok (.istore_n 0, 1) := by decide +kernel
theorem dJ6_bitCount_0f7a4_10 : decode cJ6_bitCount_0f7a4 10 = .ok (.iload_n 0, 1) := by decide +kernel
theorem q_611 : Cond.constant RJ6 266 858993459 ∈ lw_g := mem_q 611 (by decide +kernel) rfl
theorem dJ6_bitCount_0f7a4_11 : decode cJ6_bitCount_0f7a4 11 = .ok (.ldc_w 266, 3) := by decide +kernel
theorem dJ6_bitCount_0f7a4_14 : decode cJ6_bitCount_0f7a4 14 = .ok (.iand, 1) := by decide +kernel
theorem dJ6_bitCount_0f7a4_15 : decode cJ6_bitCount_0f7a4 15 = .ok (.iload_n 0, 1) := by decide +kernel
theorem dJ6_bitCount_0f7a4_16 : decode cJ6_bitCount_0f7a4 16 = .ok (.iconst 2, 1) := by decide +kernel
theorem dJ6_bitCount_0f7a4_17 : decode cJ6_bitCount_0f7a4 17 = .ok (.iushr, 1) := by decide +kernel
theorem dJ6_bitCount_0f7a4_18 : decode cJ6_bitCount_0f7a4 18 = .ok (.ldc_w 266, 3) := by decide +kernel
theorem dJ6_bitCount_0f7a4_21 : decode cJ6_bitCount_0f7a4 21 = .ok (.iand, 1) := by decide +kernel
theorem dJ6_bitCount_0f7a4_22 : decode cJ6_bitCount_0f7a4 22 = .ok (.iadd, 1) := by decide +kernel
theorem dJ6_bitCount_0f7a4_23 : decode cJ6_bitCount_0f7a4 23 = .ok (.istore_n 0, 1) := by decide +kernel
theorem dJ6_bitCount_0f7a4_24 : decode cJ6_bitCount_0f7a4 24 = .ok (.iload_n 0, 1) := by decide +kernel
theorem dJ6_bitCount_0f7a4_25 : decode cJ6_bitCount_0f7a4 25 = .ok (.iload_n 0, 1) := by decide +kernel
theorem dJ6_bitCount_0f7a4_26 : decode cJ6_bitCount_0f7a4 26 = .ok (.iconst 4, 1) := by decide +kernel
theorem dJ6_bitCount_0f7a4_27 : decode cJ6_bitCount_0f7a4 27 = .ok (.iushr, 1) := by decide +kernel
theorem dJ6_bitCount_0f7a4_28 : decode cJ6_bitCount_0f7a4 28 = .ok (.iadd, 1) := by decide +kernel
theorem q_612 : Cond.constant RJ6 267 252645135 ∈ lw_g := mem_q 612 (by decide +kernel) rfl
theorem dJ6_bitCount_0f7a4_29 : decode cJ6_bitCount_0f7a4 29 = .ok (.ldc_w 267, 3) := by decide +kernel
theorem dJ6_bitCount_0f7a4_32 : decode cJ6_bitCount_0f7a4 32 = .ok (.iand, 1) := by decide +kernel
theorem dJ6_bitCount_0f7a4_33 : decode cJ6_bitCount_0f7a4 33 = .ok (.istore_n 0, 1) := by decide +kernel
theorem dJ6_bitCount_0f7a4_34 : decode cJ6_bitCount_0f7a4 34 = .ok (.iload_n 0, 1) := by decide +kernel
theorem dJ6_bitCount_0f7a4_35 : decode cJ6_bitCount_0f7a4 35 = .ok (.iload_n 0, 1) := by decide +kernel
theorem dJ6_bitCount_0f7a4_36 : decode cJ6_bitCount_0f7a4 36 = .ok (.bipush 8, 2) := by decide +kernel
theorem dJ6_bitCount_0f7a4_38 : decode cJ6_bitCount_0f7a4 38 = .ok (.iushr, 1) := by decide +kernel
theorem dJ6_bitCount_0f7a4_39 : decode cJ6_bitCount_0f7a4 39 = .ok (.iadd, 1) := by decide +kernel
theorem dJ6_bitCount_0f7a4_40 : decode cJ6_bitCount_0f7a4 40 = .ok (.istore_n 0, 1) := by decide +kernel
theorem dJ6_bitCount_0f7a4_41 : decode cJ6_bitCount_0f7a4 41 = .ok (.iload_n 0, 1) := by decide +kernel
theorem dJ6_bitCount_0f7a4_42 : decode cJ6_bitCount_0f7a4 42 = .ok (.iload_n 0, 1) := by decide +kernel
theorem dJ6_bitCount_0f7a4_43 : decode cJ6_bitCount_0f7a4 43 = .ok (.bipush 16, 2) := by decide +kernel
theorem dJ6_bitCount_0f7a4_45 : decode cJ6_bitCount_0f7a4 45 = .ok (.iushr, 1) := by decide +kernel
theorem dJ6_bitCount_0f7a4_46 : decode cJ6_bitCount_0f7a4 46 = .ok (.iadd, 1) := by decide +kernel
theorem dJ6_bitCount_0f7a4_47 : decode cJ6_bitCount_0f7a4 47 = .ok (.istore_n 0, 1) := by decide +kernel
theorem dJ6_bitCount_0f7a4_48 : decode cJ6_bitCount_0f7a4 48 = .ok (.iload_n 0, 1) := by decide +kernel
theorem dJ6_bitCount_0f7a4_49 : decode cJ6_bitCount_0f7a4 49 = .ok (.bipush 63, 2) := by decide +kernel
theorem dJ6_bitCount_0f7a4_51 : decode cJ6_bitCount_0f7a4 51 = .ok (.iand, 1) := by decide +kernel
theorem dJ6_bitCount_0f7a4_52 : decode cJ6_bitCount_0f7a4 52 = .ok (.ireturn, 1) := by decide +kernel
set_option maxHeartbeats 4000000 in
set_option maxRecDepth 100000 in
theorem cJ_bit0 (l : Launch) (J : va_J9)  : RC l J yJ6_bitCount_0f7a4 cJ6_bitCount_0f7a4 1 (some .int) ({ frames := 0, cells := 0, slots := 0, locals := 0 }) [.int 0] [] (vp_Si (fun r => r = 0)) := by
  refine rc_of (by decide) (Nat.le_of_ble_eq_true rfl) ?_
  intro p e s m below meth c ls hE hl hP hK
  obtain ⟨hx, hb, hr, hml, hown, hts, hlk, hin⟩ := hE
  have hown : s.vm.findClass RJ6 = some m.cls := hown
  have hl : lv_has ls 1 [(0, .int 0)] := hl
  refine lv_iload_n hx hb dJ6_bitCount_0f7a4_0 rfl (lv_at hl 0 rfl) ?_
  refine lv_iload_n hx hb dJ6_bitCount_0f7a4_1 rfl (lv_at hl 0 rfl) ?_
  refine lv_iconst (v := 1) hx hb dJ6_bitCount_0f7a4_2 (by decide) ?_
  refine lv_iushr (v := 0) hx hb dJ6_bitCount_0f7a4_3 (by decide) ?_
  refine lv_ldcw (v := 1431655765) hx hb hown (hts _ q_610) dJ6_bitCount_0f7a4_4 ?_
  refine lv_iand hx hb dJ6_bitCount_0f7a4_7 ?_
  refine top_i (y := 0) (by decide) ?_
  refine lv_isub hx hb dJ6_bitCount_0f7a4_8 ?_
  refine top_i (y := 0) (by decide) ?_
  refine lv_istore_n (lv' := [(0, .int 0)]) hx hb dJ6_bitCount_0f7a4_9 rfl hl (by decide) rfl (fun ls hl => ?_)
  refine lv_iload_n hx hb dJ6_bitCount_0f7a4_10 rfl (lv_at hl 0 rfl) ?_
  refine lv_ldcw (v := 858993459) hx hb hown (hts _ q_611) dJ6_bitCount_0f7a4_11 ?_
  refine lv_iand hx hb dJ6_bitCount_0f7a4_14 ?_
  refine top_i (y := 0) (by decide) ?_
  refine lv_iload_n hx hb dJ6_bitCount_0f7a4_15 rfl (lv_at hl 0 rfl) ?_
  refine lv_iconst (v := 2) hx hb dJ6_bitCount_0f7a4_16 (by decide) ?_
  refine lv_iushr (v := 0) hx hb dJ6_bitCount_0f7a4_17 (by decide) ?_
  refine lv_ldcw (v := 858993459) hx hb hown (hts _ q_611) dJ6_bitCount_0f7a4_18 ?_
  refine lv_iand hx hb dJ6_bitCount_0f7a4_21 ?_
  refine top_i (y := 0) (by decide) ?_
  refine lv_iadd hx hb dJ6_bitCount_0f7a4_22 ?_
  refine top_i (y := 0) (by decide) ?_
  refine lv_istore_n (lv' := [(0, .int 0)]) hx hb dJ6_bitCount_0f7a4_23 rfl hl (by decide) rfl (fun ls hl => ?_)
  refine lv_iload_n hx hb dJ6_bitCount_0f7a4_24 rfl (lv_at hl 0 rfl) ?_
  refine lv_iload_n hx hb dJ6_bitCount_0f7a4_25 rfl (lv_at hl 0 rfl) ?_
  refine lv_iconst (v := 4) hx hb dJ6_bitCount_0f7a4_26 (by decide) ?_
  refine lv_iushr (v := 0) hx hb dJ6_bitCount_0f7a4_27 (by decide) ?_
  refine lv_iadd hx hb dJ6_bitCount_0f7a4_28 ?_
  refine top_i (y := 0) (by decide) ?_
  refine lv_ldcw (v := 252645135) hx hb hown (hts _ q_612) dJ6_bitCount_0f7a4_29 ?_
  refine lv_iand hx hb dJ6_bitCount_0f7a4_32 ?_
  refine top_i (y := 0) (by decide) ?_
  refine lv_istore_n (lv' := [(0, .int 0)]) hx hb dJ6_bitCount_0f7a4_33 rfl hl (by decide) rfl (fun ls hl => ?_)
  refine lv_iload_n hx hb dJ6_bitCount_0f7a4_34 rfl (lv_at hl 0 rfl) ?_
  refine lv_iload_n hx hb dJ6_bitCount_0f7a4_35 rfl (lv_at hl 0 rfl) ?_
  refine lv_bipush (v := 8) hx hb dJ6_bitCount_0f7a4_36 (by decide) ?_
  refine lv_iushr (v := 0) hx hb dJ6_bitCount_0f7a4_38 (by decide) ?_
  refine lv_iadd hx hb dJ6_bitCount_0f7a4_39 ?_
  refine top_i (y := 0) (by decide) ?_
  refine lv_istore_n (lv' := [(0, .int 0)]) hx hb dJ6_bitCount_0f7a4_40 rfl hl (by decide) rfl (fun ls hl => ?_)
  refine lv_iload_n hx hb dJ6_bitCount_0f7a4_41 rfl (lv_at hl 0 rfl) ?_
  refine lv_iload_n hx hb dJ6_bitCount_0f7a4_42 rfl (lv_at hl 0 rfl) ?_
  refine lv_bipush (v := 16) hx hb dJ6_bitCount_0f7a4_43 (by decide) ?_
  refine lv_iushr (v := 0) hx hb dJ6_bitCount_0f7a4_45 (by decide) ?_
  refine lv_iadd hx hb dJ6_bitCount_0f7a4_46 ?_
  refine top_i (y := 0) (by decide) ?_
  refine lv_istore_n (lv' := [(0, .int 0)]) hx hb dJ6_bitCount_0f7a4_47 rfl hl (by decide) rfl (fun ls hl => ?_)
  refine lv_iload_n hx hb dJ6_bitCount_0f7a4_48 rfl (lv_at hl 0 rfl) ?_
  refine lv_bipush (v := 63) hx hb dJ6_bitCount_0f7a4_49 (by decide) ?_
  refine lv_iand hx hb dJ6_bitCount_0f7a4_51 ?_
  refine top_i (y := 0) (by decide) ?_
  exact rz_i hx hb hr hlk (by decide) dJ6_bitCount_0f7a4_52
set_option maxHeartbeats 4000000 in
set_option maxRecDepth 100000 in
theorem cJ_bit (l : Launch) (J : va_J9) (x : Int32) : RC l J yJ6_bitCount_0f7a4 cJ6_bitCount_0f7a4 1 (some .int) ({ frames := 0, cells := 0, slots := 0, locals := 0 }) [.int x] [] (vp_Si (fun _ => True)) := by
  refine rc_of (by decide) (Nat.le_of_ble_eq_true rfl) ?_
  intro p e s m below meth c ls hE hl hP hK
  obtain ⟨hx, hb, hr, hml, hown, hts, hlk, hin⟩ := hE
  have hown : s.vm.findClass RJ6 = some m.cls := hown
  have hl : lv_has ls 1 [(0, .int x)] := hl
  have rg_x := i_rng x
  refine lv_iload_n hx hb dJ6_bitCount_0f7a4_0 rfl (lv_at hl 0 rfl) ?_
  refine lv_iload_n hx hb dJ6_bitCount_0f7a4_1 rfl (lv_at hl 0 rfl) ?_
  refine lv_iconst (v := 1) hx hb dJ6_bitCount_0f7a4_2 (by decide) ?_
  refine lv_iushr (v := (x.toUInt32 >>> ((1 : Int32).toUInt32 &&& Int32.toUInt32 31)).toInt32) hx hb dJ6_bitCount_0f7a4_3 rfl ?_
  refine lv_ldcw (v := 1431655765) hx hb hown (hts _ q_610) dJ6_bitCount_0f7a4_4 ?_
  refine lv_iand hx hb dJ6_bitCount_0f7a4_7 ?_
  refine lv_topi (fun y1 ey1 => ?_)
  refine lv_isub hx hb dJ6_bitCount_0f7a4_8 ?_
  refine lv_istore_n (lv' := [(0, .int (x - y1))]) hx hb dJ6_bitCount_0f7a4_9 rfl hl (by decide) rfl (fun ls hl => ?_)
  refine lv_iload_n hx hb dJ6_bitCount_0f7a4_10 rfl (lv_at hl 0 rfl) ?_
  refine lv_ldcw (v := 858993459) hx hb hown (hts _ q_611) dJ6_bitCount_0f7a4_11 ?_
  refine lv_iand hx hb dJ6_bitCount_0f7a4_14 ?_
  refine lv_iload_n hx hb dJ6_bitCount_0f7a4_15 rfl (lv_at hl 0 rfl) ?_
  refine lv_iconst (v := 2) hx hb dJ6_bitCount_0f7a4_16 (by decide) ?_
  refine lv_iushr (v := ((x - y1).toUInt32 >>> ((2 : Int32).toUInt32 &&& Int32.toUInt32 31)).toInt32) hx hb dJ6_bitCount_0f7a4_17 rfl ?_
  refine lv_topi (fun y2 ey2 => ?_)
  refine lv_ldcw (v := 858993459) hx hb hown (hts _ q_611) dJ6_bitCount_0f7a4_18 ?_
  refine lv_iand hx hb dJ6_bitCount_0f7a4_21 ?_
  refine lv_iadd hx hb dJ6_bitCount_0f7a4_22 ?_
  refine lv_istore_n (lv' := [(0, .int (((x - y1) &&& 858993459) + (y2 &&& 858993459)))]) hx hb dJ6_bitCount_0f7a4_23 rfl hl (by decide) rfl (fun ls hl => ?_)
  refine lv_iload_n hx hb dJ6_bitCount_0f7a4_24 rfl (lv_at hl 0 rfl) ?_
  refine lv_iload_n hx hb dJ6_bitCount_0f7a4_25 rfl (lv_at hl 0 rfl) ?_
  refine lv_iconst (v := 4) hx hb dJ6_bitCount_0f7a4_26 (by decide) ?_
  refine lv_iushr (v := ((((x - y1) &&& 858993459) + (y2 &&& 858993459)).toUInt32 >>> ((4 : Int32).toUInt32 &&& Int32.toUInt32 31)).toInt32) hx hb dJ6_bitCount_0f7a4_27 rfl ?_
  refine lv_topi (fun y3 ey3 => ?_)
  refine lv_iadd hx hb dJ6_bitCount_0f7a4_28 ?_
  refine lv_ldcw (v := 252645135) hx hb hown (hts _ q_612) dJ6_bitCount_0f7a4_29 ?_
  refine lv_iand hx hb dJ6_bitCount_0f7a4_32 ?_
  refine lv_istore_n (lv' := [(0, .int (((((x - y1) &&& 858993459) + (y2 &&& 858993459)) + y3) &&& 252645135))]) hx hb dJ6_bitCount_0f7a4_33 rfl hl (by decide) rfl (fun ls hl => ?_)
  refine lv_iload_n hx hb dJ6_bitCount_0f7a4_34 rfl (lv_at hl 0 rfl) ?_
  refine lv_iload_n hx hb dJ6_bitCount_0f7a4_35 rfl (lv_at hl 0 rfl) ?_
  refine lv_bipush (v := 8) hx hb dJ6_bitCount_0f7a4_36 (by decide) ?_
  refine lv_iushr (v := ((((((x - y1) &&& 858993459) + (y2 &&& 858993459)) + y3) &&& 252645135).toUInt32 >>> ((8 : Int32).toUInt32 &&& Int32.toUInt32 31)).toInt32) hx hb dJ6_bitCount_0f7a4_38 rfl ?_
  refine lv_topi (fun y4 ey4 => ?_)
  refine lv_iadd hx hb dJ6_bitCount_0f7a4_39 ?_
  refine lv_topi (fun y5 ey5 => ?_)
  refine lv_istore_n (lv' := [(0, .int y5)]) hx hb dJ6_bitCount_0f7a4_40 rfl hl (by decide) rfl (fun ls hl => ?_)
  refine lv_iload_n hx hb dJ6_bitCount_0f7a4_41 rfl (lv_at hl 0 rfl) ?_
  refine lv_iload_n hx hb dJ6_bitCount_0f7a4_42 rfl (lv_at hl 0 rfl) ?_
  refine lv_bipush (v := 16) hx hb dJ6_bitCount_0f7a4_43 (by decide) ?_
  refine lv_iushr (v := (y5.toUInt32 >>> ((16 : Int32).toUInt32 &&& Int32.toUInt32 31)).toInt32) hx hb dJ6_bitCount_0f7a4_45 rfl ?_
  refine lv_topi (fun y6 ey6 => ?_)
  refine lv_iadd hx hb dJ6_bitCount_0f7a4_46 ?_
  refine lv_istore_n (lv' := [(0, .int (y5 + y6))]) hx hb dJ6_bitCount_0f7a4_47 rfl hl (by decide) rfl (fun ls hl => ?_)
  refine lv_iload_n hx hb dJ6_bitCount_0f7a4_48 rfl (lv_at hl 0 rfl) ?_
  refine lv_bipush (v := 63) hx hb dJ6_bitCount_0f7a4_49 (by decide) ?_
  refine lv_iand hx hb dJ6_bitCount_0f7a4_51 ?_
  exact rz_any hx hb hr hlk dJ6_bitCount_0f7a4_52
theorem dX9_isEmpty_0 : decode cX9_isEmpty 0 = .ok (.aload_n 0, 1) := by decide +kernel
theorem q_442 : Cond.fieldLink RX9 15 RX9 "holds" "I" ∈ lw_g := mem_q 442 (by decide +kernel) rfl
theorem dX9_isEmpty_1 : decode cX9_isEmpty 1 = .ok (.getfield 15, 3) := by decide +kernel
theorem dX9_isEmpty_4 : decode cX9_isEmpty 4 = .ok (.ifCond .ne 7, 3) := by decide +kernel
theorem dX9_isEmpty_7 : decode cX9_isEmpty 7 = .ok (.iconst 1, 1) := by decide +kernel
theorem dX9_isEmpty_8 : decode cX9_isEmpty 8 = .ok (.goto 4, 3) := by decide +kernel
theorem dX9_isEmpty_12 : decode cX9_isEmpty 12 = .ok (.ireturn, 1) := by decide +kernel
set_option maxHeartbeats 4000000 in
set_option maxRecDepth 100000 in
theorem cS_isEmpty (l : Launch) (J : va_J9) (sh : Nat) (ce : Nat) : RC l J yX9_isEmpty cX9_isEmpty 1 (some .boolean) ({ frames := 0, cells := 0, slots := 0, locals := 0 }) [.ref sh] [(sh, .inr (9, [.ref ce, .int 0, .int 0, .int 0, .int 0]))] (vp_Si (fun r => r = 1)) := by
  refine rc_of (by decide) (Nat.le_of_ble_eq_true rfl) ?_
  intro p e s m below meth c ls hE hl hP hK
  obtain ⟨hx, hb, hr, hml, hown, hts, hlk, hin⟩ := hE
  have hown : s.vm.findClass RX9 = some m.cls := hown
  have hl : lv_has ls 1 [(0, .ref sh)] := hl
  refine lv_aload_n hx hb dX9_isEmpty_0 rfl (lv_at hl 0 rfl) ?_
  refine va_get (D := J.1) (ci := 9) (v := .int 0) (C := RX9) (T := TX9) (N := 5) hx hb hts inX9 hown hK.1 hP 0 rfl rfl 1 (by decide) (hts _ q_442) (fun _ h9 => h9) rfl dX9_isEmpty_1 ?_
  refine lv_if_ne (tgt := 11) hx hb dX9_isEmpty_4 (by decide) (fun c => absurd c (by decide)) (fun _ => ?_)
  refine lv_iconst (v := 1) hx hb dX9_isEmpty_7 (by decide) ?_
  refine lv_goto (tgt := 12) hx hb dX9_isEmpty_8 (by decide) ?_
  exact rz_z hx hb hr hlk (by decide) (by decide) dX9_isEmpty_12
theorem dX9_isRowOf_0 : decode cX9_isRowOf 0 = .ok (.aload_n 0, 1) := by decide +kernel
theorem dX9_isRowOf_1 : decode cX9_isRowOf 1 = .ok (.getfield 15, 3) := by decide +kernel
theorem dX9_isRowOf_4 : decode cX9_isRowOf 4 = .ok (.iconst 2, 1) := by decide +kernel
theorem dX9_isRowOf_5 : decode cX9_isRowOf 5 = .ok (.if_icmp .ne 15, 3) := by decide +kernel
theorem dX9_isRowOf_20 : decode cX9_isRowOf 20 = .ok (.iconst 0, 1) := by decide +kernel
theorem dX9_isRowOf_21 : decode cX9_isRowOf 21 = .ok (.ireturn, 1) := by decide +kernel
set_option maxHeartbeats 4000000 in
set_option maxRecDepth 100000 in
theorem cS_isRowOf (l : Launch) (J : va_J9) (sh : Nat) (ce : Nat) (n : Int32) : RC l J yX9_isRowOf cX9_isRowOf 2 (some .boolean) ({ frames := 0, cells := 0, slots := 0, locals := 0 }) [.ref sh, .int n] [(sh, .inr (9, [.ref ce, .int 0, .int 0, .int 0, .int 0]))] (vp_Si (fun r => r = 0)) := by
  refine rc_of (by decide) (Nat.le_of_ble_eq_true rfl) ?_
  intro p e s m below meth c ls hE hl hP hK
  obtain ⟨hx, hb, hr, hml, hown, hts, hlk, hin⟩ := hE
  have hown : s.vm.findClass RX9 = some m.cls := hown
  have hl : lv_has ls 2 [(0, .ref sh), (1, .int n)] := hl
  have rg_n := i_rng n
  refine lv_aload_n hx hb dX9_isRowOf_0 rfl (lv_at hl 0 rfl) ?_
  refine va_get (D := J.1) (ci := 9) (v := .int 0) (C := RX9) (T := TX9) (N := 5) hx hb hts inX9 hown hK.1 hP 0 rfl rfl 1 (by decide) (hts _ q_442) (fun _ h9 => h9) rfl dX9_isRowOf_1 ?_
  refine lv_iconst (v := 2) hx hb dX9_isRowOf_4 (by decide) ?_
  refine lv_icmp_ne (tgt := 20) hx hb dX9_isRowOf_5 (by decide) (fun _ => ?_) (fun c => absurd c (by decide))
  refine lv_iconst (v := 0) hx hb dX9_isRowOf_20 (by decide) ?_
  exact rz_z hx hb hr hlk (by decide) (by decide) dX9_isRowOf_21
theorem dX9_clear_0 : decode cX9_clear 0 = .ok (.aload_n 0, 1) := by decide +kernel
theorem dX9_clear_1 : decode cX9_clear 1 = .ok (.iconst 0, 1) := by decide +kernel
theorem dX9_clear_2 : decode cX9_clear 2 = .ok (.putfield 15, 3) := by decide +kernel
theorem dX9_clear_5 : decode cX9_clear 5 = .ok (.return_, 1) := by decide +kernel
set_option maxHeartbeats 4000000 in
set_option maxRecDepth 100000 in
theorem cS_clear (l : Launch) (J : va_J9) (sz : Nat) (sh : Nat) (ce : Nat) : WC l J yX9_clear cX9_clear 1 none ({ frames := 0, cells := 0, slots := 0, locals := 0 }) [.ref sh] [(sh, .inr (9, [.ref ce, .int 0, .int 0, .int 0, .int 0]))] sz (Qv J (fun (u : Unit) => True) (fun (_ : Unit) => [])) 0 0 := by
  refine wc_of (by decide) (Nat.le_of_ble_eq_true rfl) ?_
  intro p e s m below meth c ls A hE hl hP hK hD hS hA
  obtain ⟨hx, hb, hr, hml, hown, hts, hlk, hin⟩ := hE
  have hown : s.vm.findClass RX9 = some m.cls := hown
  have hl : lv_has ls 1 [(0, .ref sh)] := hl
  refine lv_aload_n hx hb dX9_clear_0 rfl (lv_at hl 0 rfl) ?_
  refine lv_iconst (v := 0) hx hb dX9_clear_1 (by decide) ?_
  refine va_put (D := J.1) (ci := 9) (v := .int 0) (ty := (.int)) (C := RX9) (T := TX9) (N := 5) hx hb hts inX9 tyX9 tyX9_ok nmX9 hown hK.1 hP hD hS 0 rfl rfl 1 (by decide) (hts _ q_442) (fun _ h9 => h9) rfl (by decide +kernel) rfl rfl (Nat.le_of_ble_eq_true rfl) dX9_clear_2 (fun H locs hP hD hS => ?_)
  have hP : va_P J.1 cls [(sh, .inr (9, [.ref ce, .int 0, .int 0, .int 0, .int 0]))] H := hP
  have hD : va_D A [(sh, .inr (9, [.ref ce, .int 0, .int 0, .int 0, .int 0]))] := hD
  exact wz_v () hx hb hr hlk trivial (hP.sub (ws' := []) [] rfl) (hD.sub (ws' := []) [] (by decide) rfl) hS dX9_clear_5
theorem dX9_holdRow_0 : decode cX9_holdRow 0 = .ok (.aload_n 0, 1) := by decide +kernel
theorem dX9_holdRow_1 : decode cX9_holdRow 1 = .ok (.iconst 2, 1) := by decide +kernel
theorem dX9_holdRow_2 : decode cX9_holdRow 2 = .ok (.putfield 15, 3) := by decide +kernel
theorem dX9_holdRow_5 : decode cX9_holdRow 5 = .ok (.aload_n 0, 1) := by decide +kernel
theorem dX9_holdRow_6 : decode cX9_holdRow 6 = .ok (.iload_n 1, 1) := by decide +kernel
theorem q_445 : Cond.fieldLink RX9 22 RX9 "sort" "I" ∈ lw_g := mem_q 445 (by decide +kernel) rfl
theorem dX9_holdRow_7 : decode cX9_holdRow 7 = .ok (.putfield 22, 3) := by decide +kernel
theorem dX9_holdRow_10 : decode cX9_holdRow 10 = .ok (.aload_n 0, 1) := by decide +kernel
theorem dX9_holdRow_11 : decode cX9_holdRow 11 = .ok (.iload_n 2, 1) := by decide +kernel
theorem q_448 : Cond.fieldLink RX9 25 RX9 "length" "I" ∈ lw_g := mem_q 448 (by decide +kernel) rfl
theorem dX9_holdRow_12 : decode cX9_holdRow 12 = .ok (.putfield 25, 3) := by decide +kernel
theorem dX9_holdRow_15 : decode cX9_holdRow 15 = .ok (.iconst 0, 1) := by decide +kernel
theorem dX9_holdRow_16 : decode cX9_holdRow 16 = .ok (.istore_n 3, 1) := by decide +kernel
theorem dX9_holdRow_17 : decode cX9_holdRow 17 = .ok (.iload_n 3, 1) := by decide +kernel
theorem dX9_holdRow_18 : decode cX9_holdRow 18 = .ok (.bipush 60, 2) := by decide +kernel
theorem dX9_holdRow_20 : decode cX9_holdRow 20 = .ok (.if_icmp .ge 16, 3) := by decide +kernel
theorem dX9_holdRow_36 : decode cX9_holdRow 36 = .ok (.return_, 1) := by decide +kernel
theorem dX9_holdRow_23 : decode cX9_holdRow 23 = .ok (.aload_n 0, 1) := by decide +kernel
theorem q_440 : Cond.fieldLink RX9 9 RX9 "cells" "[J" ∈ lw_g := mem_q 440 (by decide +kernel) rfl
theorem dX9_holdRow_24 : decode cX9_holdRow 24 = .ok (.getfield 9, 3) := by decide +kernel
theorem dX9_holdRow_27 : decode cX9_holdRow 27 = .ok (.iload_n 3, 1) := by decide +kernel
theorem dX9_holdRow_28 : decode cX9_holdRow 28 = .ok (.lconst 0, 1) := by decide +kernel
theorem dX9_holdRow_29 : decode cX9_holdRow 29 = .ok (.lastore, 1) := by decide +kernel
theorem dX9_holdRow_30 : decode cX9_holdRow 30 = .ok (.iinc 3 1, 3) := by decide +kernel
theorem dX9_holdRow_33 : decode cX9_holdRow 33 = .ok (.goto (-16), 3) := by decide +kernel
set_option maxHeartbeats 4000000 in
set_option maxRecDepth 100000 in
theorem cS_holdRow (l : Launch) (J : va_J9) (sz : Nat) (sh : Nat) (ce : Nat) (x : Int32) (n : Int32) : WC l J yX9_holdRow cX9_holdRow 4 none ({ frames := 0, cells := 0, slots := 0, locals := 0 }) [.ref sh, .int x, .int n] [(sh, .inr (9, [.ref ce, .int 0, .int 0, .int 0, .int 0])), (ce, .inl (J.2.2.1, 60, .inr (.inl (fun _ => 0))))] sz (Qv J (fun (u : Unit) => True) (fun (_ : Unit) => [])) 0 0 := by
  refine wc_of (by decide) (Nat.le_of_ble_eq_true rfl) ?_
  intro p e s m below meth c ls A hE hl hP hK hD hS hA
  obtain ⟨hx, hb, hr, hml, hown, hts, hlk, hin⟩ := hE
  have hown : s.vm.findClass RX9 = some m.cls := hown
  have hl : lv_has ls 4 [(0, .ref sh), (1, .int x), (2, .int n)] := hl
  have rg_x := i_rng x
  have rg_n := i_rng n
  refine lv_aload_n hx hb dX9_holdRow_0 rfl (lv_at hl 0 rfl) ?_
  refine lv_iconst (v := 2) hx hb dX9_holdRow_1 (by decide) ?_
  refine va_put (D := J.1) (ci := 9) (v := .int 2) (ty := (.int)) (C := RX9) (T := TX9) (N := 5) hx hb hts inX9 tyX9 tyX9_ok nmX9 hown hK.1 hP hD hS 0 rfl rfl 1 (by decide) (hts _ q_442) (fun _ h9 => h9) rfl (by decide +kernel) rfl rfl (Nat.le_of_ble_eq_true rfl) dX9_holdRow_2 (fun H locs hP hD hS => ?_)
  have hP : va_P J.1 cls [(sh, .inr (9, [.ref ce, .int 2, .int 0, .int 0, .int 0])), (ce, .inl (J.2.2.1, 60, .inr (.inl (fun _ => 0))))] H := hP
  have hD : va_D A [(sh, .inr (9, [.ref ce, .int 2, .int 0, .int 0, .int 0])), (ce, .inl (J.2.2.1, 60, .inr (.inl (fun _ => 0))))] := hD
  refine lv_aload_n hx hb dX9_holdRow_5 rfl (lv_at hl 0 rfl) ?_
  refine lv_iload_n hx hb dX9_holdRow_6 rfl (lv_at hl 1 rfl) ?_
  refine va_put (D := J.1) (ci := 9) (v := .int x) (ty := (.int)) (C := RX9) (T := TX9) (N := 5) hx hb hts inX9 tyX9 tyX9_ok nmX9 hown hK.1 hP hD hS 0 rfl rfl 3 (by decide) (hts _ q_445) (fun _ h9 => h9) rfl (by decide +kernel) rfl rfl (Nat.le_of_ble_eq_true rfl) dX9_holdRow_7 (fun H locs hP hD hS => ?_)
  have hP : va_P J.1 cls [(sh, .inr (9, [.ref ce, .int 2, .int 0, .int x, .int 0])), (ce, .inl (J.2.2.1, 60, .inr (.inl (fun _ => 0))))] H := hP
  have hD : va_D A [(sh, .inr (9, [.ref ce, .int 2, .int 0, .int x, .int 0])), (ce, .inl (J.2.2.1, 60, .inr (.inl (fun _ => 0))))] := hD
  refine lv_aload_n hx hb dX9_holdRow_10 rfl (lv_at hl 0 rfl) ?_
  refine lv_iload_n hx hb dX9_holdRow_11 rfl (lv_at hl 2 rfl) ?_
  refine va_put (D := J.1) (ci := 9) (v := .int n) (ty := (.int)) (C := RX9) (T := TX9) (N := 5) hx hb hts inX9 tyX9 tyX9_ok nmX9 hown hK.1 hP hD hS 0 rfl rfl 4 (by decide) (hts _ q_448) (fun _ h9 => h9) rfl (by decide +kernel) rfl rfl (Nat.le_of_ble_eq_true rfl) dX9_holdRow_12 (fun H locs hP hD hS => ?_)
  have hP : va_P J.1 cls [(sh, .inr (9, [.ref ce, .int 2, .int 0, .int x, .int n])), (ce, .inl (J.2.2.1, 60, .inr (.inl (fun _ => 0))))] H := hP
  have hD : va_D A [(sh, .inr (9, [.ref ce, .int 2, .int 0, .int x, .int n])), (ce, .inl (J.2.2.1, 60, .inr (.inl (fun _ => 0))))] := hD
  refine lv_iconst (v := 0) hx hb dX9_holdRow_15 (by decide) ?_
  refine lv_istore_n (lv' := [(3, .int 0), (0, .ref sh), (1, .int x), (2, .int n)]) hx hb dX9_holdRow_16 rfl hl (by decide) rfl (fun ls hl => ?_)
  have LP3 : ∀ (k1 i2 : Nat), i2 + k1 = 60 → ∀ (f4 : Nat → Int64), ∀ (H : Heap) (locs : List Loc) (ls : Array Slot), va_P J.1 cls [(sh, .inr (9, [.ref ce, .int 2, .int 0, .int x, .int n])), (ce, .inl (J.2.2.1, 60, .inr (.inl f4)))] H → va_D A [(sh, .inr (9, [.ref ce, .int 2, .int 0, .int x, .int n])), (ce, .inl (J.2.2.1, 60, .inr (.inl f4)))] → va_S A s.heap H locs → lv_has ls 4 [(3, .int (nI i2)), (0, .ref sh), (1, .int x), (2, .int n)] → W p l e ({ frames := 0, cells := 0, slots := 0, locals := 0 } : Room) s m ([.ref sh, .int x, .int n] : List Value).toArray below meth c H locs 0 0 (MQ below ((Qv J (fun (u : Unit) => True) (fun (_ : Unit) => [])) A) ([.ref sh, .int x, .int n] : List Value).toArray s 0 0 A) (F0 m 17 ls []) := by
    intro k1
    induction k1 with
    | zero =>
      intro i2 hi2 f4 H locs ls hP hD hS hl
      refine lv_iload_n hx hb dX9_holdRow_17 rfl (lv_at hl 0 rfl) ?_
      refine lv_bipush (v := 60) hx hb dX9_holdRow_18 (by decide) ?_
      refine lv_icmp_ge (tgt := 36) hx hb dX9_holdRow_20 (by decide) (fun _ => ?_) (fun c5 => absurd (show ¬ (60 ≤ ((i2 : Nat) : Int)) from fun h => c5 ((i_le (by decide) (nI_toInt (by omega))).mpr h)) (by omega))
      exact wz_v () hx hb hr hlk trivial (hP.sub (ws' := []) [] rfl) (hD.sub (ws' := []) [] (by decide) rfl) hS dX9_holdRow_36
    | succ k1 ih =>
      intro i2 hi2 f4 H locs ls hP hD hS hl
      refine lv_iload_n hx hb dX9_holdRow_17 rfl (lv_at hl 0 rfl) ?_
      refine lv_bipush (v := 60) hx hb dX9_holdRow_18 (by decide) ?_
      refine lv_icmp_ge (tgt := 36) hx hb dX9_holdRow_20 (by decide) (fun c6 => absurd (show 60 ≤ ((i2 : Nat) : Int) from (i_le (by decide) (nI_toInt (by omega))).mp c6) (by omega)) (fun _ => ?_)
      refine lv_aload_n hx hb dX9_holdRow_23 rfl (lv_at hl 1 rfl) ?_
      refine va_get (D := J.1) (ci := 9) (v := .ref ce) (C := RX9) (T := TX9) (N := 5) hx hb hts inX9 hown hK.1 hP 0 rfl rfl 0 (by decide) (hts _ q_440) (fun _ h9 => h9) rfl dX9_holdRow_24 ?_
      refine lv_iload_n hx hb dX9_holdRow_27 rfl (lv_at hl 0 rfl) ?_
      refine lv_lconst (v := 0) hx hb dX9_holdRow_28 (by decide) ?_
      have h7 : vp_in (nI i2) 60 := (i_in (a := ((i2 : Nat) : Int)) (nI_toInt (by omega)) (by omega) (by omega))
      refine va_last hx hb hK.1 hP hD hS 1 1 rfl rfl h7 dX9_holdRow_29 (fun H locs hP hD hS => ?_)
      have hP : va_P J.1 cls [(sh, .inr (9, [.ref ce, .int 2, .int 0, .int x, .int n])), (ce, .inl (J.2.2.1, 60, .inr (.inl (vp_updL f4 (nI i2).toNatClampNeg 0))))] H := hP
      have hD : va_D A [(sh, .inr (9, [.ref ce, .int 2, .int 0, .int x, .int n])), (ce, .inl (J.2.2.1, 60, .inr (.inl (vp_updL f4 (nI i2).toNatClampNeg 0))))] := hD
      refine lv_iinc (v := nI (i2 + 1)) (lv' := [(3, .int (nI (i2 + 1))), (0, .ref sh), (1, .int x), (2, .int n)]) hx hb dX9_holdRow_30 hl (k := 0) rfl (nI_inc _) (by decide) rfl (fun ls hl => ?_)
      refine lv_goto (tgt := 17) hx hb dX9_holdRow_33 (by decide) ?_
      exact ih (i2 + 1) (by omega) (vp_updL f4 (nI i2).toNatClampNeg 0) _ _ ls hP hD hS (lv_sub hl [0, 1, 2, 3] rfl)
  exact LP3 (60 - 0) 0 (by omega) (fun _ => 0) _ _ ls hP hD hS (lv_sub hl [0, 1, 2, 3] rfl)
theorem dX0_isKind_0 : decode cX0_isKind 0 = .ok (.iload_n 1, 1) := by decide +kernel
theorem dX0_isKind_1 : decode cX0_isKind 1 = .ok (.ifCond .lt 13, 3) := by decide +kernel
theorem dX0_isKind_14 : decode cX0_isKind 14 = .ok (.iconst 0, 1) := by decide +kernel
theorem dX0_isKind_15 : decode cX0_isKind 15 = .ok (.ireturn, 1) := by decide +kernel
theorem dX0_isKind_4 : decode cX0_isKind 4 = .ok (.iload_n 1, 1) := by decide +kernel
theorem dX0_isKind_5 : decode cX0_isKind 5 = .ok (.bipush 8, 2) := by decide +kernel
theorem dX0_isKind_7 : decode cX0_isKind 7 = .ok (.if_icmp .ge 7, 3) := by decide +kernel
theorem dX0_isKind_10 : decode cX0_isKind 10 = .ok (.iconst 1, 1) := by decide +kernel
theorem dX0_isKind_11 : decode cX0_isKind 11 = .ok (.goto 4, 3) := by decide +kernel
set_option maxHeartbeats 4000000 in
set_option maxRecDepth 100000 in
theorem cB_isKind (l : Launch) (J : va_J9) (b : Nat) (ki : Nat) (ra : Nat) (n : Int32) : RC l J yX0_isKind cX0_isKind 2 (some .boolean) ({ frames := 0, cells := 0, slots := 0, locals := 0 }) [.ref b, .int n] [(b, .inr (0, [.ref ki, .int 0, .ref ra, .int 0]))] (vp_Si (fun r => r = B01 (0 ≤ n.toInt ∧ n.toInt ≤ 7))) := by
  refine rc_of (by decide) (Nat.le_of_ble_eq_true rfl) ?_
  intro p e s m below meth c ls hE hl hP hK
  obtain ⟨hx, hb, hr, hml, hown, hts, hlk, hin⟩ := hE
  have hown : s.vm.findClass RX0 = some m.cls := hown
  have hl : lv_has ls 2 [(0, .ref b), (1, .int n)] := hl
  have rg_n := i_rng n
  refine lv_iload_n hx hb dX0_isKind_0 rfl (lv_at hl 1 rfl) ?_
  refine lv_if_lt (tgt := 14) hx hb dX0_isKind_1 (by decide) (fun c1 => ?_) (fun c1 => ?_)
  · have j2 : n.toInt < 0 := (i_lt rfl (by decide)).mp c1
    refine lv_iconst (v := 0) hx hb dX0_isKind_14 (by decide) ?_
    exact rz_z hx hb hr hlk (by decide) (b_f (by omega)) dX0_isKind_15
  · have j3 : ¬ (n.toInt < 0) := fun h => c1 ((i_lt rfl (by decide)).mpr h)
    refine lv_iload_n hx hb dX0_isKind_4 rfl (lv_at hl 1 rfl) ?_
    refine lv_bipush (v := 8) hx hb dX0_isKind_5 (by decide) ?_
    refine lv_icmp_ge (tgt := 14) hx hb dX0_isKind_7 (by decide) (fun c4 => ?_) (fun c4 => ?_)
    · have j5 : 8 ≤ n.toInt := (i_le (by decide) rfl).mp c4
      refine lv_iconst (v := 0) hx hb dX0_isKind_14 (by decide) ?_
      exact rz_z hx hb hr hlk (by decide) (b_f (by omega)) dX0_isKind_15
    · have j6 : ¬ (8 ≤ n.toInt) := fun h => c4 ((i_le (by decide) rfl).mpr h)
      refine lv_iconst (v := 1) hx hb dX0_isKind_10 (by decide) ?_
      refine lv_goto (tgt := 15) hx hb dX0_isKind_11 (by decide) ?_
      exact rz_z hx hb hr hlk (by decide) (b_t (by omega)) dX0_isKind_15
theorem dX0_isBody_0 : decode cX0_isBody 0 = .ok (.iload_n 1, 1) := by decide +kernel
theorem dX0_isBody_1 : decode cX0_isBody 1 = .ok (.ifCond .lt 15, 3) := by decide +kernel
theorem dX0_isBody_16 : decode cX0_isBody 16 = .ok (.iconst 0, 1) := by decide +kernel
theorem dX0_isBody_17 : decode cX0_isBody 17 = .ok (.ireturn, 1) := by decide +kernel
theorem dX0_isBody_4 : decode cX0_isBody 4 = .ok (.iload_n 1, 1) := by decide +kernel
theorem dX0_isBody_5 : decode cX0_isBody 5 = .ok (.aload_n 0, 1) := by decide +kernel
theorem q_419 : Cond.fieldLink RX0 18 RX0 "size" "I" ∈ lw_g := mem_q 419 (by decide +kernel) rfl
theorem dX0_isBody_6 : decode cX0_isBody 6 = .ok (.getfield 18, 3) := by decide +kernel
theorem dX0_isBody_9 : decode cX0_isBody 9 = .ok (.if_icmp .ge 7, 3) := by decide +kernel
set_option maxHeartbeats 4000000 in
set_option maxRecDepth 100000 in
theorem cB_isBody (l : Launch) (J : va_J9) (b : Nat) (ki : Nat) (ra : Nat) (n : Int32) : RC l J yX0_isBody cX0_isBody 2 (some .boolean) ({ frames := 0, cells := 0, slots := 0, locals := 0 }) [.ref b, .int n] [(b, .inr (0, [.ref ki, .int 0, .ref ra, .int 0]))] (vp_Si (fun r => r = 0)) := by
  refine rc_of (by decide) (Nat.le_of_ble_eq_true rfl) ?_
  intro p e s m below meth c ls hE hl hP hK
  obtain ⟨hx, hb, hr, hml, hown, hts, hlk, hin⟩ := hE
  have hown : s.vm.findClass RX0 = some m.cls := hown
  have hl : lv_has ls 2 [(0, .ref b), (1, .int n)] := hl
  have rg_n := i_rng n
  refine lv_iload_n hx hb dX0_isBody_0 rfl (lv_at hl 1 rfl) ?_
  refine lv_if_lt (tgt := 16) hx hb dX0_isBody_1 (by decide) (fun c1 => ?_) (fun c1 => ?_)
  · have j2 : n.toInt < 0 := (i_lt rfl (by decide)).mp c1
    refine lv_iconst (v := 0) hx hb dX0_isBody_16 (by decide) ?_
    exact rz_z hx hb hr hlk (by decide) (by decide) dX0_isBody_17
  · have j3 : ¬ (n.toInt < 0) := fun h => c1 ((i_lt rfl (by decide)).mpr h)
    refine lv_iload_n hx hb dX0_isBody_4 rfl (lv_at hl 1 rfl) ?_
    refine lv_aload_n hx hb dX0_isBody_5 rfl (lv_at hl 0 rfl) ?_
    refine va_get (D := J.1) (ci := 0) (v := .int 0) (C := RX0) (T := TX0) (N := 4) hx hb hts inX0 hown hK.1 hP 0 rfl rfl 1 (by decide) (hts _ q_419) (fun _ h9 => h9) rfl dX0_isBody_6 ?_
    refine lv_icmp_ge (tgt := 16) hx hb dX0_isBody_9 (by decide) (fun _ => ?_) (fun c4 => absurd (show ¬ (0 ≤ n.toInt) from fun h => c4 ((i_le (by decide) rfl).mpr h)) (by omega))
    refine lv_iconst (v := 0) hx hb dX0_isBody_16 (by decide) ?_
    exact rz_z hx hb hr hlk (by decide) (by decide) dX0_isBody_17
theorem dX0_add_0 : decode cX0_add 0 = .ok (.aload_n 0, 1) := by decide +kernel
theorem dX0_add_1 : decode cX0_add 1 = .ok (.getfield 18, 3) := by decide +kernel
theorem dX0_add_4 : decode cX0_add 4 = .ok (.bipush 50, 2) := by decide +kernel
theorem dX0_add_6 : decode cX0_add 6 = .ok (.if_icmp .lt 6, 3) := by decide +kernel
theorem dX0_add_12 : decode cX0_add 12 = .ok (.aload_n 0, 1) := by decide +kernel
theorem q_418 : Cond.fieldLink RX0 11 RX0 "kinds" "[I" ∈ lw_g := mem_q 418 (by decide +kernel) rfl
theorem dX0_add_13 : decode cX0_add 13 = .ok (.getfield 11, 3) := by decide +kernel
theorem dX0_add_16 : decode cX0_add 16 = .ok (.aload_n 0, 1) := by decide +kernel
theorem dX0_add_17 : decode cX0_add 17 = .ok (.dup, 1) := by decide +kernel
theorem dX0_add_18 : decode cX0_add 18 = .ok (.getfield 18, 3) := by decide +kernel
theorem dX0_add_21 : decode cX0_add 21 = .ok (.dup_x1, 1) := by decide +kernel
theorem dX0_add_22 : decode cX0_add 22 = .ok (.iconst 1, 1) := by decide +kernel
theorem dX0_add_23 : decode cX0_add 23 = .ok (.iadd, 1) := by decide +kernel
theorem dX0_add_24 : decode cX0_add 24 = .ok (.putfield 18, 3) := by decide +kernel
theorem dX0_add_27 : decode cX0_add 27 = .ok (.iload_n 1, 1) := by decide +kernel
theorem dX0_add_28 : decode cX0_add 28 = .ok (.iastore, 1) := by decide +kernel
theorem dX0_add_29 : decode cX0_add 29 = .ok (.aload_n 0, 1) := by decide +kernel
theorem dX0_add_30 : decode cX0_add 30 = .ok (.getfield 18, 3) := by decide +kernel
theorem dX0_add_33 : decode cX0_add 33 = .ok (.iconst 1, 1) := by decide +kernel
theorem dX0_add_34 : decode cX0_add 34 = .ok (.isub, 1) := by decide +kernel
theorem dX0_add_35 : decode cX0_add 35 = .ok (.ireturn, 1) := by decide +kernel
set_option maxHeartbeats 4000000 in
set_option maxRecDepth 100000 in
theorem cB_add (l : Launch) (J : va_J9) (sz : Nat) (b : Nat) (ki : Nat) (ra : Nat) (n : Int32) : WC l J yX0_add cX0_add 2 (some .int) ({ frames := 0, cells := 0, slots := 0, locals := 0 }) [.ref b, .int n] [(b, .inr (0, [.ref ki, .int 0, .ref ra, .int 0])), (ki, .inl (J.2.1, 50, .inl (fun _ => 0)))] sz (Qi J (fun (r : Int32) (_ : Unit) => r = 0) (fun (_ : Unit) => [])) 0 0 := by
  refine wc_of (by decide) (Nat.le_of_ble_eq_true rfl) ?_
  intro p e s m below meth c ls A hE hl hP hK hD hS hA
  obtain ⟨hx, hb, hr, hml, hown, hts, hlk, hin⟩ := hE
  have hown : s.vm.findClass RX0 = some m.cls := hown
  have hl : lv_has ls 2 [(0, .ref b), (1, .int n)] := hl
  have rg_n := i_rng n
  refine lv_aload_n hx hb dX0_add_0 rfl (lv_at hl 0 rfl) ?_
  refine va_get (D := J.1) (ci := 0) (v := .int 0) (C := RX0) (T := TX0) (N := 4) hx hb hts inX0 hown hK.1 hP 0 rfl rfl 1 (by decide) (hts _ q_419) (fun _ h9 => h9) rfl dX0_add_1 ?_
  refine lv_bipush (v := 50) hx hb dX0_add_4 (by decide) ?_
  refine lv_icmp_lt (tgt := 12) hx hb dX0_add_6 (by decide) (fun _ => ?_) (fun c => absurd c (by decide))
  refine lv_aload_n hx hb dX0_add_12 rfl (lv_at hl 0 rfl) ?_
  refine va_get (D := J.1) (ci := 0) (v := .ref ki) (C := RX0) (T := TX0) (N := 4) hx hb hts inX0 hown hK.1 hP 0 rfl rfl 0 (by decide) (hts _ q_418) (fun _ h9 => h9) rfl dX0_add_13 ?_
  refine lv_aload_n hx hb dX0_add_16 rfl (lv_at hl 0 rfl) ?_
  refine lv_dup hx hb dX0_add_17 rfl ?_
  refine va_get (D := J.1) (ci := 0) (v := .int 0) (C := RX0) (T := TX0) (N := 4) hx hb hts inX0 hown hK.1 hP 0 rfl rfl 1 (by decide) (hts _ q_419) (fun _ h9 => h9) rfl dX0_add_18 ?_
  refine lv_dup_x1 hx hb dX0_add_21 rfl rfl ?_
  refine lv_iconst (v := 1) hx hb dX0_add_22 (by decide) ?_
  refine lv_iadd hx hb dX0_add_23 ?_
  refine top_i (y := 1) (by decide) ?_
  refine va_put (D := J.1) (ci := 0) (v := .int 1) (ty := (.int)) (C := RX0) (T := TX0) (N := 4) hx hb hts inX0 tyX0 tyX0_ok nmX0 hown hK.1 hP hD hS 0 rfl rfl 1 (by decide) (hts _ q_419) (fun _ h9 => h9) rfl (by decide +kernel) rfl rfl (Nat.le_of_ble_eq_true rfl) dX0_add_24 (fun H locs hP hD hS => ?_)
  have hP : va_P J.1 cls [(b, .inr (0, [.ref ki, .int 1, .ref ra, .int 0])), (ki, .inl (J.2.1, 50, .inl (fun _ => 0)))] H := hP
  have hD : va_D A [(b, .inr (0, [.ref ki, .int 1, .ref ra, .int 0])), (ki, .inl (J.2.1, 50, .inl (fun _ => 0)))] := hD
  refine lv_iload_n hx hb dX0_add_27 rfl (lv_at hl 1 rfl) ?_
  have h1 : vp_in 0 50 := (i_in (a := 0) (by decide) (by omega) (by omega))
  refine va_iast hx hb hK.1 hP hD hS 1 0 rfl rfl h1 dX0_add_28 (fun H locs hP hD hS => ?_)
  have hP : va_P J.1 cls [(b, .inr (0, [.ref ki, .int 1, .ref ra, .int 0])), (ki, .inl (J.2.1, 50, .inl (upd (fun _ => 0) (0 : Int32).toNatClampNeg n)))] H := hP
  have hD : va_D A [(b, .inr (0, [.ref ki, .int 1, .ref ra, .int 0])), (ki, .inl (J.2.1, 50, .inl (upd (fun _ => 0) (0 : Int32).toNatClampNeg n)))] := hD
  refine lv_aload_n hx hb dX0_add_29 rfl (lv_at hl 0 rfl) ?_
  refine va_get (D := J.1) (ci := 0) (v := .int 1) (C := RX0) (T := TX0) (N := 4) hx hb hts inX0 hown hK.1 hP 0 rfl rfl 1 (by decide) (hts _ q_419) (fun _ h9 => h9) rfl dX0_add_30 ?_
  refine lv_iconst (v := 1) hx hb dX0_add_33 (by decide) ?_
  refine lv_isub hx hb dX0_add_34 ?_
  refine top_i (y := 0) (by decide) ?_
  exact wz_i () hx hb hr hlk (by decide) (hP.sub (ws' := []) [] rfl) (hD.sub (ws' := []) [] (by decide) rfl) hS dX0_add_35
theorem dX0_perform_0 : decode cX0_perform 0 = .ok (.aload_n 0, 1) := by decide +kernel
theorem dX0_perform_1 : decode cX0_perform 1 = .ok (.iconst 0, 1) := by decide +kernel
theorem q_422 : Cond.fieldLink RX0 36 RX0 "ranSize" "I" ∈ lw_g := mem_q 422 (by decide +kernel) rfl
theorem dX0_perform_2 : decode cX0_perform 2 = .ok (.putfield 36, 3) := by decide +kernel
theorem dX0_perform_5 : decode cX0_perform 5 = .ok (.aload_n 0, 1) := by decide +kernel
theorem dX0_perform_6 : decode cX0_perform 6 = .ok (.iload_n 1, 1) := by decide +kernel
theorem q_1160 : Cond.methodLink RX0 22 yX0_isBody ∈ lw_g := mem_q 1160 (by decide +kernel) rfl
theorem q_1161 : Cond.instanceMethod yX0_isBody ∈ lw_g := mem_q 1161 (by decide +kernel) rfl
theorem q_1162 : Cond.selects RX0 yX0_isBody yX0_isBody ∈ lw_g := mem_q 1162 (by decide +kernel) rfl
theorem q_113 : Cond.initialized RX0 ∈ lw_g := mem_q 113 (by decide +kernel) rfl
theorem q_1163 : Cond.code yX0_isBody cX0_isBody 2 (some .boolean) ∈ lw_g := mem_q 1163 (by decide +kernel) rfl
theorem kV_RX0_22 : CV RX0 22 RX0 yX0_isBody cX0_isBody 2 (some .boolean) 1 := cv_of q_1160 q_1161 q_1162 q_113 q_1163 (by decide +kernel)
theorem dX0_perform_7 : decode cX0_perform 7 = .ok (.invokevirtual 22, 3) := by decide +kernel
theorem dX0_perform_10 : decode cX0_perform 10 = .ok (.ifCond .eq 12, 3) := by decide +kernel
theorem dX0_perform_22 : decode cX0_perform 22 = .ok (.iconst 0, 1) := by decide +kernel
theorem dX0_perform_23 : decode cX0_perform 23 = .ok (.ireturn, 1) := by decide +kernel
set_option maxHeartbeats 4000000 in
set_option maxRecDepth 100000 in
theorem cB_perform (l : Launch) (J : va_J9) (sz : Nat) (b : Nat) (ki : Nat) (ra : Nat) (n : Int32) (x : Int32) (y : Int32) : WC l J yX0_perform cX0_perform 4 (some .int) ({ frames := 1, cells := 0, slots := 0, locals := 21 }) [.ref b, .int n, .int x, .int y] [(b, .inr (0, [.ref ki, .int 0, .ref ra, .int 0]))] sz (Qi J (fun (r : Int32) (_ : Unit) => r = 0) (fun (_ : Unit) => [])) 0 0 := by
  refine wc_of (by decide) (Nat.le_of_ble_eq_true rfl) ?_
  intro p e s m below meth c ls A hE hl hP hK hD hS hA
  obtain ⟨hx, hb, hr, hml, hown, hts, hlk, hin⟩ := hE
  have hown : s.vm.findClass RX0 = some m.cls := hown
  have hl : lv_has ls 4 [(0, .ref b), (1, .int n), (2, .int x), (3, .int y)] := hl
  have rg_n := i_rng n
  have rg_x := i_rng x
  have rg_y := i_rng y
  refine lv_aload_n hx hb dX0_perform_0 rfl (lv_at hl 0 rfl) ?_
  refine lv_iconst (v := 0) hx hb dX0_perform_1 (by decide) ?_
  refine va_put (D := J.1) (ci := 0) (v := .int 0) (ty := (.int)) (C := RX0) (T := TX0) (N := 4) hx hb hts inX0 tyX0 tyX0_ok nmX0 hown hK.1 hP hD hS 0 rfl rfl 3 (by decide) (hts _ q_422) (fun _ h9 => h9) rfl (by decide +kernel) rfl rfl (Nat.le_of_ble_eq_true rfl) dX0_perform_2 (fun H locs hP hD hS => ?_)
  have hP : va_P J.1 cls [(b, .inr (0, [.ref ki, .int 0, .ref ra, .int 0]))] H := hP
  have hD : va_D A [(b, .inr (0, [.ref ki, .int 0, .ref ra, .int 0]))] := hD
  refine lv_aload_n hx hb dX0_perform_5 rfl (lv_at hl 0 rfl) ?_
  refine lv_iload_n hx hb dX0_perform_6 rfl (lv_at hl 1 rfl) ?_
  refine go_i (rn_V (As := [.int n]) (rest := []) hx hb hml hown hts hK (cB_isBody l J b ki ra n) kV_RX0_22 hP rfl rfl rfl ⟨Nat.le_of_ble_eq_true rfl, Nat.le_of_ble_eq_true rfl⟩ rfl rfl rfl hl.1 rfl (Nat.le_of_ble_eq_true rfl) ⟨Nat.le_of_ble_eq_true rfl, Nat.le_of_ble_eq_true rfl⟩ dX0_perform_7) ?_
  refine lv_if_eq (tgt := 22) hx hb dX0_perform_10 (by decide) (fun _ => ?_) (fun c => absurd c (by decide))
  refine lv_iconst (v := 0) hx hb dX0_perform_22 (by decide) ?_
  exact wz_i () hx hb hr hlk (by decide) (hP.sub (ws' := []) [] rfl) (hD.sub (ws' := []) [] (by decide) rfl) hS dX0_perform_23
theorem dX0_ranAt_0 : decode cX0_ranAt 0 = .ok (.iload_n 1, 1) := by decide +kernel
theorem dX0_ranAt_1 : decode cX0_ranAt 1 = .ok (.ifCond .lt 26, 3) := by decide +kernel
theorem dX0_ranAt_27 : decode cX0_ranAt 27 = .ok (.iconst (-1), 1) := by decide +kernel
theorem dX0_ranAt_28 : decode cX0_ranAt 28 = .ok (.ireturn, 1) := by decide +kernel
theorem dX0_ranAt_4 : decode cX0_ranAt 4 = .ok (.iload_n 1, 1) := by decide +kernel
theorem dX0_ranAt_5 : decode cX0_ranAt 5 = .ok (.aload_n 0, 1) := by decide +kernel
theorem dX0_ranAt_6 : decode cX0_ranAt 6 = .ok (.getfield 36, 3) := by decide +kernel
theorem dX0_ranAt_9 : decode cX0_ranAt 9 = .ok (.if_icmp .ge 18, 3) := by decide +kernel
set_option maxHeartbeats 4000000 in
set_option maxRecDepth 100000 in
theorem cB_ranAt (l : Launch) (J : va_J9) (b : Nat) (ki : Nat) (ra : Nat) (n : Int32) : RC l J yX0_ranAt cX0_ranAt 2 (some .int) ({ frames := 0, cells := 0, slots := 0, locals := 0 }) [.ref b, .int n] [(b, .inr (0, [.ref ki, .int 0, .ref ra, .int 0]))] (vp_Si (fun r => r = (-1))) := by
  refine rc_of (by decide) (Nat.le_of_ble_eq_true rfl) ?_
  intro p e s m below meth c ls hE hl hP hK
  obtain ⟨hx, hb, hr, hml, hown, hts, hlk, hin⟩ := hE
  have hown : s.vm.findClass RX0 = some m.cls := hown
  have hl : lv_has ls 2 [(0, .ref b), (1, .int n)] := hl
  have rg_n := i_rng n
  refine lv_iload_n hx hb dX0_ranAt_0 rfl (lv_at hl 1 rfl) ?_
  refine lv_if_lt (tgt := 27) hx hb dX0_ranAt_1 (by decide) (fun c1 => ?_) (fun c1 => ?_)
  · have j2 : n.toInt < 0 := (i_lt rfl (by decide)).mp c1
    refine lv_iconst (v := (-1)) hx hb dX0_ranAt_27 (by decide) ?_
    exact rz_i hx hb hr hlk (by decide) dX0_ranAt_28
  · have j3 : ¬ (n.toInt < 0) := fun h => c1 ((i_lt rfl (by decide)).mpr h)
    refine lv_iload_n hx hb dX0_ranAt_4 rfl (lv_at hl 1 rfl) ?_
    refine lv_aload_n hx hb dX0_ranAt_5 rfl (lv_at hl 0 rfl) ?_
    refine va_get (D := J.1) (ci := 0) (v := .int 0) (C := RX0) (T := TX0) (N := 4) hx hb hts inX0 hown hK.1 hP 0 rfl rfl 3 (by decide) (hts _ q_422) (fun _ h9 => h9) rfl dX0_ranAt_6 ?_
    refine lv_icmp_ge (tgt := 27) hx hb dX0_ranAt_9 (by decide) (fun _ => ?_) (fun c4 => absurd (show ¬ (0 ≤ n.toInt) from fun h => c4 ((i_le (by decide) rfl).mpr h)) (by omega))
    refine lv_iconst (v := (-1)) hx hb dX0_ranAt_27 (by decide) ?_
    exact rz_i hx hb hr hlk (by decide) dX0_ranAt_28
theorem dX2_note_0 : decode cX2_note 0 = .ok (.aload_n 0, 1) := by decide +kernel
theorem q_229 : Cond.fieldLink RX2 28 RX2 "done" "I" ∈ lw_g := mem_q 229 (by decide +kernel) rfl
theorem dX2_note_1 : decode cX2_note 1 = .ok (.getfield 28, 3) := by decide +kernel
theorem dX2_note_4 : decode cX2_note 4 = .ok (.bipush 40, 2) := by decide +kernel
theorem dX2_note_6 : decode cX2_note 6 = .ok (.if_icmp .lt 7, 3) := by decide +kernel
theorem dX2_note_13 : decode cX2_note 13 = .ok (.aload_n 0, 1) := by decide +kernel
theorem q_224 : Cond.fieldLink RX2 11 RX2 "numbers" "[I" ∈ lw_g := mem_q 224 (by decide +kernel) rfl
theorem dX2_note_14 : decode cX2_note 14 = .ok (.getfield 11, 3) := by decide +kernel
theorem dX2_note_17 : decode cX2_note 17 = .ok (.aload_n 0, 1) := by decide +kernel
theorem dX2_note_18 : decode cX2_note 18 = .ok (.getfield 28, 3) := by decide +kernel
theorem dX2_note_21 : decode cX2_note 21 = .ok (.iload_n 1, 1) := by decide +kernel
theorem dX2_note_22 : decode cX2_note 22 = .ok (.iastore, 1) := by decide +kernel
theorem dX2_note_23 : decode cX2_note 23 = .ok (.aload_n 0, 1) := by decide +kernel
theorem q_225 : Cond.fieldLink RX2 15 RX2 "whats" "[I" ∈ lw_g := mem_q 225 (by decide +kernel) rfl
theorem dX2_note_24 : decode cX2_note 24 = .ok (.getfield 15, 3) := by decide +kernel
theorem dX2_note_27 : decode cX2_note 27 = .ok (.aload_n 0, 1) := by decide +kernel
theorem dX2_note_28 : decode cX2_note 28 = .ok (.getfield 28, 3) := by decide +kernel
theorem dX2_note_31 : decode cX2_note 31 = .ok (.iload_n 2, 1) := by decide +kernel
theorem dX2_note_32 : decode cX2_note 32 = .ok (.iastore, 1) := by decide +kernel
theorem dX2_note_33 : decode cX2_note 33 = .ok (.aload_n 0, 1) := by decide +kernel
theorem q_226 : Cond.fieldLink RX2 18 RX2 "befores" "[I" ∈ lw_g := mem_q 226 (by decide +kernel) rfl
theorem dX2_note_34 : decode cX2_note 34 = .ok (.getfield 18, 3) := by decide +kernel
theorem dX2_note_37 : decode cX2_note 37 = .ok (.aload_n 0, 1) := by decide +kernel
theorem dX2_note_38 : decode cX2_note 38 = .ok (.getfield 28, 3) := by decide +kernel
theorem dX2_note_41 : decode cX2_note 41 = .ok (.iload_n 3, 1) := by decide +kernel
theorem dX2_note_42 : decode cX2_note 42 = .ok (.iastore, 1) := by decide +kernel
theorem dX2_note_43 : decode cX2_note 43 = .ok (.aload_n 0, 1) := by decide +kernel
theorem q_227 : Cond.fieldLink RX2 21 RX2 "afters" "[I" ∈ lw_g := mem_q 227 (by decide +kernel) rfl
theorem dX2_note_44 : decode cX2_note 44 = .ok (.getfield 21, 3) := by decide +kernel
theorem dX2_note_47 : decode cX2_note 47 = .ok (.aload_n 0, 1) := by decide +kernel
theorem dX2_note_48 : decode cX2_note 48 = .ok (.getfield 28, 3) := by decide +kernel
theorem dX2_note_51 : decode cX2_note 51 = .ok (.iload 4, 2) := by decide +kernel
theorem dX2_note_53 : decode cX2_note 53 = .ok (.iastore, 1) := by decide +kernel
theorem dX2_note_54 : decode cX2_note 54 = .ok (.aload_n 0, 1) := by decide +kernel
theorem dX2_note_55 : decode cX2_note 55 = .ok (.dup, 1) := by decide +kernel
theorem dX2_note_56 : decode cX2_note 56 = .ok (.getfield 28, 3) := by decide +kernel
theorem dX2_note_59 : decode cX2_note 59 = .ok (.iconst 1, 1) := by decide +kernel
theorem dX2_note_60 : decode cX2_note 60 = .ok (.iadd, 1) := by decide +kernel
theorem dX2_note_61 : decode cX2_note 61 = .ok (.putfield 28, 3) := by decide +kernel
theorem dX2_note_64 : decode cX2_note 64 = .ok (.aload_n 0, 1) := by decide +kernel
theorem dX2_note_65 : decode cX2_note 65 = .ok (.aload_n 0, 1) := by decide +kernel
theorem dX2_note_66 : decode cX2_note 66 = .ok (.getfield 28, 3) := by decide +kernel
theorem q_228 : Cond.fieldLink RX2 35 RX2 "known" "I" ∈ lw_g := mem_q 228 (by decide +kernel) rfl
theorem dX2_note_69 : decode cX2_note 69 = .ok (.putfield 35, 3) := by decide +kernel
theorem dX2_note_72 : decode cX2_note 72 = .ok (.return_, 1) := by decide +kernel
set_option maxHeartbeats 4000000 in
set_option maxRecDepth 100000 in
theorem cC_note (l : Launch) (J : va_J9) (sz : Nat) (c0 : Nat) (w : Nat) (nu : Nat) (wh : Nat) (be : Nat) (af : Nat) (x : Int32) (y : Int32) (z : Int32) (v : Int32) : WC l J yX2_note cX2_note 5 none ({ frames := 0, cells := 0, slots := 0, locals := 0 }) [.ref c0, .int x, .int y, .int z, .int v] [(c0, .inr (2, [.ref w, .ref nu, .ref wh, .ref be, .ref af, .int 0, .int 0])), (nu, .inl (J.2.1, 40, .inl (fun _ => 0))), (wh, .inl (J.2.1, 40, .inl (fun _ => 0))), (be, .inl (J.2.1, 40, .inl (fun _ => 0))), (af, .inl (J.2.1, 40, .inl (fun _ => 0)))] sz (Qv J (fun (u : Unit) => True) (fun (_ : Unit) => [])) 0 0 := by
  refine wc_of (by decide) (Nat.le_of_ble_eq_true rfl) ?_
  intro p e s m below meth c ls A hE hl hP hK hD hS hA
  obtain ⟨hx, hb, hr, hml, hown, hts, hlk, hin⟩ := hE
  have hown : s.vm.findClass RX2 = some m.cls := hown
  have hl : lv_has ls 5 [(0, .ref c0), (1, .int x), (2, .int y), (3, .int z), (4, .int v)] := hl
  have rg_x := i_rng x
  have rg_y := i_rng y
  have rg_z := i_rng z
  have rg_v := i_rng v
  refine lv_aload_n hx hb dX2_note_0 rfl (lv_at hl 0 rfl) ?_
  refine va_get (D := J.1) (ci := 2) (v := .int 0) (C := RX2) (T := TX2) (N := 7) hx hb hts inX2 hown hK.1 hP 0 rfl rfl 6 (by decide) (hts _ q_229) (fun _ h9 => h9) rfl dX2_note_1 ?_
  refine lv_bipush (v := 40) hx hb dX2_note_4 (by decide) ?_
  refine lv_icmp_lt (tgt := 13) hx hb dX2_note_6 (by decide) (fun _ => ?_) (fun c => absurd c (by decide))
  refine lv_aload_n hx hb dX2_note_13 rfl (lv_at hl 0 rfl) ?_
  refine va_get (D := J.1) (ci := 2) (v := .ref nu) (C := RX2) (T := TX2) (N := 7) hx hb hts inX2 hown hK.1 hP 0 rfl rfl 1 (by decide) (hts _ q_224) (fun _ h9 => h9) rfl dX2_note_14 ?_
  refine lv_aload_n hx hb dX2_note_17 rfl (lv_at hl 0 rfl) ?_
  refine va_get (D := J.1) (ci := 2) (v := .int 0) (C := RX2) (T := TX2) (N := 7) hx hb hts inX2 hown hK.1 hP 0 rfl rfl 6 (by decide) (hts _ q_229) (fun _ h9 => h9) rfl dX2_note_18 ?_
  refine lv_iload_n hx hb dX2_note_21 rfl (lv_at hl 1 rfl) ?_
  have h1 : vp_in 0 40 := (i_in (a := 0) (by decide) (by omega) (by omega))
  refine va_iast hx hb hK.1 hP hD hS 1 0 rfl rfl h1 dX2_note_22 (fun H locs hP hD hS => ?_)
  have hP : va_P J.1 cls [(c0, .inr (2, [.ref w, .ref nu, .ref wh, .ref be, .ref af, .int 0, .int 0])), (nu, .inl (J.2.1, 40, .inl (upd (fun _ => 0) (0 : Int32).toNatClampNeg x))), (wh, .inl (J.2.1, 40, .inl (fun _ => 0))), (be, .inl (J.2.1, 40, .inl (fun _ => 0))), (af, .inl (J.2.1, 40, .inl (fun _ => 0)))] H := hP
  have hD : va_D A [(c0, .inr (2, [.ref w, .ref nu, .ref wh, .ref be, .ref af, .int 0, .int 0])), (nu, .inl (J.2.1, 40, .inl (upd (fun _ => 0) (0 : Int32).toNatClampNeg x))), (wh, .inl (J.2.1, 40, .inl (fun _ => 0))), (be, .inl (J.2.1, 40, .inl (fun _ => 0))), (af, .inl (J.2.1, 40, .inl (fun _ => 0)))] := hD
  refine lv_aload_n hx hb dX2_note_23 rfl (lv_at hl 0 rfl) ?_
  refine va_get (D := J.1) (ci := 2) (v := .ref wh) (C := RX2) (T := TX2) (N := 7) hx hb hts inX2 hown hK.1 hP 0 rfl rfl 2 (by decide) (hts _ q_225) (fun _ h9 => h9) rfl dX2_note_24 ?_
  refine lv_aload_n hx hb dX2_note_27 rfl (lv_at hl 0 rfl) ?_
  refine va_get (D := J.1) (ci := 2) (v := .int 0) (C := RX2) (T := TX2) (N := 7) hx hb hts inX2 hown hK.1 hP 0 rfl rfl 6 (by decide) (hts _ q_229) (fun _ h9 => h9) rfl dX2_note_28 ?_
  refine lv_iload_n hx hb dX2_note_31 rfl (lv_at hl 2 rfl) ?_
  have h2 : vp_in 0 40 := (i_in (a := 0) (by decide) (by omega) (by omega))
  refine va_iast hx hb hK.1 hP hD hS 2 0 rfl rfl h2 dX2_note_32 (fun H locs hP hD hS => ?_)
  have hP : va_P J.1 cls [(c0, .inr (2, [.ref w, .ref nu, .ref wh, .ref be, .ref af, .int 0, .int 0])), (nu, .inl (J.2.1, 40, .inl (upd (fun _ => 0) (0 : Int32).toNatClampNeg x))), (wh, .inl (J.2.1, 40, .inl (upd (fun _ => 0) (0 : Int32).toNatClampNeg y))), (be, .inl (J.2.1, 40, .inl (fun _ => 0))), (af, .inl (J.2.1, 40, .inl (fun _ => 0)))] H := hP
  have hD : va_D A [(c0, .inr (2, [.ref w, .ref nu, .ref wh, .ref be, .ref af, .int 0, .int 0])), (nu, .inl (J.2.1, 40, .inl (upd (fun _ => 0) (0 : Int32).toNatClampNeg x))), (wh, .inl (J.2.1, 40, .inl (upd (fun _ => 0) (0 : Int32).toNatClampNeg y))), (be, .inl (J.2.1, 40, .inl (fun _ => 0))), (af, .inl (J.2.1, 40, .inl (fun _ => 0)))] := hD
  refine lv_aload_n hx hb dX2_note_33 rfl (lv_at hl 0 rfl) ?_
  refine va_get (D := J.1) (ci := 2) (v := .ref be) (C := RX2) (T := TX2) (N := 7) hx hb hts inX2 hown hK.1 hP 0 rfl rfl 3 (by decide) (hts _ q_226) (fun _ h9 => h9) rfl dX2_note_34 ?_
  refine lv_aload_n hx hb dX2_note_37 rfl (lv_at hl 0 rfl) ?_
  refine va_get (D := J.1) (ci := 2) (v := .int 0) (C := RX2) (T := TX2) (N := 7) hx hb hts inX2 hown hK.1 hP 0 rfl rfl 6 (by decide) (hts _ q_229) (fun _ h9 => h9) rfl dX2_note_38 ?_
  refine lv_iload_n hx hb dX2_note_41 rfl (lv_at hl 3 rfl) ?_
  have h3 : vp_in 0 40 := (i_in (a := 0) (by decide) (by omega) (by omega))
  refine va_iast hx hb hK.1 hP hD hS 3 0 rfl rfl h3 dX2_note_42 (fun H locs hP hD hS => ?_)
  have hP : va_P J.1 cls [(c0, .inr (2, [.ref w, .ref nu, .ref wh, .ref be, .ref af, .int 0, .int 0])), (nu, .inl (J.2.1, 40, .inl (upd (fun _ => 0) (0 : Int32).toNatClampNeg x))), (wh, .inl (J.2.1, 40, .inl (upd (fun _ => 0) (0 : Int32).toNatClampNeg y))), (be, .inl (J.2.1, 40, .inl (upd (fun _ => 0) (0 : Int32).toNatClampNeg z))), (af, .inl (J.2.1, 40, .inl (fun _ => 0)))] H := hP
  have hD : va_D A [(c0, .inr (2, [.ref w, .ref nu, .ref wh, .ref be, .ref af, .int 0, .int 0])), (nu, .inl (J.2.1, 40, .inl (upd (fun _ => 0) (0 : Int32).toNatClampNeg x))), (wh, .inl (J.2.1, 40, .inl (upd (fun _ => 0) (0 : Int32).toNatClampNeg y))), (be, .inl (J.2.1, 40, .inl (upd (fun _ => 0) (0 : Int32).toNatClampNeg z))), (af, .inl (J.2.1, 40, .inl (fun _ => 0)))] := hD
  refine lv_aload_n hx hb dX2_note_43 rfl (lv_at hl 0 rfl) ?_
  refine va_get (D := J.1) (ci := 2) (v := .ref af) (C := RX2) (T := TX2) (N := 7) hx hb hts inX2 hown hK.1 hP 0 rfl rfl 4 (by decide) (hts _ q_227) (fun _ h9 => h9) rfl dX2_note_44 ?_
  refine lv_aload_n hx hb dX2_note_47 rfl (lv_at hl 0 rfl) ?_
  refine va_get (D := J.1) (ci := 2) (v := .int 0) (C := RX2) (T := TX2) (N := 7) hx hb hts inX2 hown hK.1 hP 0 rfl rfl 6 (by decide) (hts _ q_229) (fun _ h9 => h9) rfl dX2_note_48 ?_
  refine lv_iload hx hb dX2_note_51 (lv_at hl 4 rfl) ?_
  have h4 : vp_in 0 40 := (i_in (a := 0) (by decide) (by omega) (by omega))
  refine va_iast hx hb hK.1 hP hD hS 4 0 rfl rfl h4 dX2_note_53 (fun H locs hP hD hS => ?_)
  have hP : va_P J.1 cls [(c0, .inr (2, [.ref w, .ref nu, .ref wh, .ref be, .ref af, .int 0, .int 0])), (nu, .inl (J.2.1, 40, .inl (upd (fun _ => 0) (0 : Int32).toNatClampNeg x))), (wh, .inl (J.2.1, 40, .inl (upd (fun _ => 0) (0 : Int32).toNatClampNeg y))), (be, .inl (J.2.1, 40, .inl (upd (fun _ => 0) (0 : Int32).toNatClampNeg z))), (af, .inl (J.2.1, 40, .inl (upd (fun _ => 0) (0 : Int32).toNatClampNeg v)))] H := hP
  have hD : va_D A [(c0, .inr (2, [.ref w, .ref nu, .ref wh, .ref be, .ref af, .int 0, .int 0])), (nu, .inl (J.2.1, 40, .inl (upd (fun _ => 0) (0 : Int32).toNatClampNeg x))), (wh, .inl (J.2.1, 40, .inl (upd (fun _ => 0) (0 : Int32).toNatClampNeg y))), (be, .inl (J.2.1, 40, .inl (upd (fun _ => 0) (0 : Int32).toNatClampNeg z))), (af, .inl (J.2.1, 40, .inl (upd (fun _ => 0) (0 : Int32).toNatClampNeg v)))] := hD
  refine lv_aload_n hx hb dX2_note_54 rfl (lv_at hl 0 rfl) ?_
  refine lv_dup hx hb dX2_note_55 rfl ?_
  refine va_get (D := J.1) (ci := 2) (v := .int 0) (C := RX2) (T := TX2) (N := 7) hx hb hts inX2 hown hK.1 hP 0 rfl rfl 6 (by decide) (hts _ q_229) (fun _ h9 => h9) rfl dX2_note_56 ?_
  refine lv_iconst (v := 1) hx hb dX2_note_59 (by decide) ?_
  refine lv_iadd hx hb dX2_note_60 ?_
  refine top_i (y := 1) (by decide) ?_
  refine va_put (D := J.1) (ci := 2) (v := .int 1) (ty := (.int)) (C := RX2) (T := TX2) (N := 7) hx hb hts inX2 tyX2 tyX2_ok nmX2 hown hK.1 hP hD hS 0 rfl rfl 6 (by decide) (hts _ q_229) (fun _ h9 => h9) rfl (by decide +kernel) rfl rfl (Nat.le_of_ble_eq_true rfl) dX2_note_61 (fun H locs hP hD hS => ?_)
  have hP : va_P J.1 cls [(c0, .inr (2, [.ref w, .ref nu, .ref wh, .ref be, .ref af, .int 0, .int 1])), (nu, .inl (J.2.1, 40, .inl (upd (fun _ => 0) (0 : Int32).toNatClampNeg x))), (wh, .inl (J.2.1, 40, .inl (upd (fun _ => 0) (0 : Int32).toNatClampNeg y))), (be, .inl (J.2.1, 40, .inl (upd (fun _ => 0) (0 : Int32).toNatClampNeg z))), (af, .inl (J.2.1, 40, .inl (upd (fun _ => 0) (0 : Int32).toNatClampNeg v)))] H := hP
  have hD : va_D A [(c0, .inr (2, [.ref w, .ref nu, .ref wh, .ref be, .ref af, .int 0, .int 1])), (nu, .inl (J.2.1, 40, .inl (upd (fun _ => 0) (0 : Int32).toNatClampNeg x))), (wh, .inl (J.2.1, 40, .inl (upd (fun _ => 0) (0 : Int32).toNatClampNeg y))), (be, .inl (J.2.1, 40, .inl (upd (fun _ => 0) (0 : Int32).toNatClampNeg z))), (af, .inl (J.2.1, 40, .inl (upd (fun _ => 0) (0 : Int32).toNatClampNeg v)))] := hD
  refine lv_aload_n hx hb dX2_note_64 rfl (lv_at hl 0 rfl) ?_
  refine lv_aload_n hx hb dX2_note_65 rfl (lv_at hl 0 rfl) ?_
  refine va_get (D := J.1) (ci := 2) (v := .int 1) (C := RX2) (T := TX2) (N := 7) hx hb hts inX2 hown hK.1 hP 0 rfl rfl 6 (by decide) (hts _ q_229) (fun _ h9 => h9) rfl dX2_note_66 ?_
  refine va_put (D := J.1) (ci := 2) (v := .int 1) (ty := (.int)) (C := RX2) (T := TX2) (N := 7) hx hb hts inX2 tyX2 tyX2_ok nmX2 hown hK.1 hP hD hS 0 rfl rfl 5 (by decide) (hts _ q_228) (fun _ h9 => h9) rfl (by decide +kernel) rfl rfl (Nat.le_of_ble_eq_true rfl) dX2_note_69 (fun H locs hP hD hS => ?_)
  have hP : va_P J.1 cls [(c0, .inr (2, [.ref w, .ref nu, .ref wh, .ref be, .ref af, .int 1, .int 1])), (nu, .inl (J.2.1, 40, .inl (upd (fun _ => 0) (0 : Int32).toNatClampNeg x))), (wh, .inl (J.2.1, 40, .inl (upd (fun _ => 0) (0 : Int32).toNatClampNeg y))), (be, .inl (J.2.1, 40, .inl (upd (fun _ => 0) (0 : Int32).toNatClampNeg z))), (af, .inl (J.2.1, 40, .inl (upd (fun _ => 0) (0 : Int32).toNatClampNeg v)))] H := hP
  have hD : va_D A [(c0, .inr (2, [.ref w, .ref nu, .ref wh, .ref be, .ref af, .int 1, .int 1])), (nu, .inl (J.2.1, 40, .inl (upd (fun _ => 0) (0 : Int32).toNatClampNeg x))), (wh, .inl (J.2.1, 40, .inl (upd (fun _ => 0) (0 : Int32).toNatClampNeg y))), (be, .inl (J.2.1, 40, .inl (upd (fun _ => 0) (0 : Int32).toNatClampNeg z))), (af, .inl (J.2.1, 40, .inl (upd (fun _ => 0) (0 : Int32).toNatClampNeg v)))] := hD
  exact wz_v () hx hb hr hlk trivial (hP.sub (ws' := []) [] rfl) (hD.sub (ws' := []) [] (by decide) rfl) hS dX2_note_72
theorem dX2_takeBack_0 : decode cX2_takeBack 0 = .ok (.aload_n 0, 1) := by decide +kernel
theorem dX2_takeBack_1 : decode cX2_takeBack 1 = .ok (.getfield 28, 3) := by decide +kernel
theorem dX2_takeBack_4 : decode cX2_takeBack 4 = .ok (.ifCond .gt 6, 3) := by decide +kernel
theorem dX2_takeBack_7 : decode cX2_takeBack 7 = .ok (.bipush (-5), 2) := by decide +kernel
theorem dX2_takeBack_9 : decode cX2_takeBack 9 = .ok (.ireturn, 1) := by decide +kernel
set_option maxHeartbeats 4000000 in
set_option maxRecDepth 100000 in
theorem cC_takeBack (l : Launch) (J : va_J9) (c0 : Nat) (w : Nat) (nu : Nat) (wh : Nat) (be : Nat) (af : Nat) : RC l J yX2_takeBack cX2_takeBack 1 (some .int) ({ frames := 0, cells := 0, slots := 0, locals := 0 }) [.ref c0] [(c0, .inr (2, [.ref w, .ref nu, .ref wh, .ref be, .ref af, .int 0, .int 0]))] (vp_Si (fun r => r = (-5))) := by
  refine rc_of (by decide) (Nat.le_of_ble_eq_true rfl) ?_
  intro p e s m below meth c ls hE hl hP hK
  obtain ⟨hx, hb, hr, hml, hown, hts, hlk, hin⟩ := hE
  have hown : s.vm.findClass RX2 = some m.cls := hown
  have hl : lv_has ls 1 [(0, .ref c0)] := hl
  refine lv_aload_n hx hb dX2_takeBack_0 rfl (lv_at hl 0 rfl) ?_
  refine va_get (D := J.1) (ci := 2) (v := .int 0) (C := RX2) (T := TX2) (N := 7) hx hb hts inX2 hown hK.1 hP 0 rfl rfl 6 (by decide) (hts _ q_229) (fun _ h9 => h9) rfl dX2_takeBack_1 ?_
  refine lv_if_gt (tgt := 10) hx hb dX2_takeBack_4 (by decide) (fun c => absurd c (by decide)) (fun _ => ?_)
  refine lv_bipush (v := (-5)) hx hb dX2_takeBack_7 (by decide) ?_
  exact rz_i hx hb hr hlk (by decide) dX2_takeBack_9
theorem dX2_doAgain_0 : decode cX2_doAgain 0 = .ok (.aload_n 0, 1) := by decide +kernel
theorem dX2_doAgain_1 : decode cX2_doAgain 1 = .ok (.getfield 28, 3) := by decide +kernel
theorem dX2_doAgain_4 : decode cX2_doAgain 4 = .ok (.aload_n 0, 1) := by decide +kernel
theorem dX2_doAgain_5 : decode cX2_doAgain 5 = .ok (.getfield 35, 3) := by decide +kernel
theorem dX2_doAgain_8 : decode cX2_doAgain 8 = .ok (.if_icmp .ge 12, 3) := by decide +kernel
theorem dX2_doAgain_20 : decode cX2_doAgain 20 = .ok (.bipush (-5), 2) := by decide +kernel
theorem dX2_doAgain_22 : decode cX2_doAgain 22 = .ok (.ireturn, 1) := by decide +kernel
set_option maxHeartbeats 4000000 in
set_option maxRecDepth 100000 in
theorem cC_doAgain (l : Launch) (J : va_J9) (c0 : Nat) (w : Nat) (nu : Nat) (wh : Nat) (be : Nat) (af : Nat) : RC l J yX2_doAgain cX2_doAgain 1 (some .int) ({ frames := 0, cells := 0, slots := 0, locals := 0 }) [.ref c0] [(c0, .inr (2, [.ref w, .ref nu, .ref wh, .ref be, .ref af, .int 0, .int 0]))] (vp_Si (fun r => r = (-5))) := by
  refine rc_of (by decide) (Nat.le_of_ble_eq_true rfl) ?_
  intro p e s m below meth c ls hE hl hP hK
  obtain ⟨hx, hb, hr, hml, hown, hts, hlk, hin⟩ := hE
  have hown : s.vm.findClass RX2 = some m.cls := hown
  have hl : lv_has ls 1 [(0, .ref c0)] := hl
  refine lv_aload_n hx hb dX2_doAgain_0 rfl (lv_at hl 0 rfl) ?_
  refine va_get (D := J.1) (ci := 2) (v := .int 0) (C := RX2) (T := TX2) (N := 7) hx hb hts inX2 hown hK.1 hP 0 rfl rfl 6 (by decide) (hts _ q_229) (fun _ h9 => h9) rfl dX2_doAgain_1 ?_
  refine lv_aload_n hx hb dX2_doAgain_4 rfl (lv_at hl 0 rfl) ?_
  refine va_get (D := J.1) (ci := 2) (v := .int 0) (C := RX2) (T := TX2) (N := 7) hx hb hts inX2 hown hK.1 hP 0 rfl rfl 5 (by decide) (hts _ q_228) (fun _ h9 => h9) rfl dX2_doAgain_5 ?_
  refine lv_icmp_ge (tgt := 20) hx hb dX2_doAgain_8 (by decide) (fun _ => ?_) (fun c => absurd c (by decide))
  refine lv_bipush (v := (-5)) hx hb dX2_doAgain_20 (by decide) ?_
  exact rz_i hx hb hr hlk (by decide) dX2_doAgain_22
theorem dX4_seed_0 : decode cX4_seed 0 = .ok (.aload_n 0, 1) := by decide +kernel
theorem dX4_seed_1 : decode cX4_seed 1 = .ok (.iload_n 1, 1) := by decide +kernel
theorem q_368 : Cond.fieldLink RX4 15 RX4 "z" "I" ∈ lw_g := mem_q 368 (by decide +kernel) rfl
theorem dX4_seed_2 : decode cX4_seed 2 = .ok (.putfield 15, 3) := by decide +kernel
theorem dX4_seed_5 : decode cX4_seed 5 = .ok (.return_, 1) := by decide +kernel
set_option maxHeartbeats 4000000 in
set_option maxRecDepth 100000 in
theorem cD_seed (l : Launch) (J : va_J9) (sz : Nat) (d : Nat) (w : Nat) (z : Int32) (x : Int32) : WC l J yX4_seed cX4_seed 2 none ({ frames := 0, cells := 0, slots := 0, locals := 0 }) [.ref d, .int x] [(d, .inr (4, [.ref w, .int z]))] sz (Qv J (fun (u : Unit) => True) (fun (_ : Unit) => [(d, .inr (4, [.ref w, .int x]))])) 0 0 := by
  refine wc_of (by decide) (Nat.le_of_ble_eq_true rfl) ?_
  intro p e s m below meth c ls A hE hl hP hK hD hS hA
  obtain ⟨hx, hb, hr, hml, hown, hts, hlk, hin⟩ := hE
  have hown : s.vm.findClass RX4 = some m.cls := hown
  have hl : lv_has ls 2 [(0, .ref d), (1, .int x)] := hl
  have rg_x := i_rng x
  refine lv_aload_n hx hb dX4_seed_0 rfl (lv_at hl 0 rfl) ?_
  refine lv_iload_n hx hb dX4_seed_1 rfl (lv_at hl 1 rfl) ?_
  refine va_put (D := J.1) (ci := 4) (v := .int x) (ty := (.int)) (C := RX4) (T := TX4) (N := 2) hx hb hts inX4 tyX4 tyX4_ok nmX4 hown hK.1 hP hD hS 0 rfl rfl 1 (by decide) (hts _ q_368) (fun _ h9 => h9) rfl (by decide +kernel) rfl rfl (Nat.le_of_ble_eq_true rfl) dX4_seed_2 (fun H locs hP hD hS => ?_)
  have hP : va_P J.1 cls [(d, .inr (4, [.ref w, .int x]))] H := hP
  have hD : va_D A [(d, .inr (4, [.ref w, .int x]))] := hD
  exact wz_v () hx hb hr hlk trivial hP hD hS dX4_seed_5
theorem dX3_copy_0 : decode cX3_copy 0 = .ok (.aload_n 1, 1) := by decide +kernel
theorem q_385 : Cond.fieldLink RX3 9 RX3 "vain" "[I" ∈ lw_g := mem_q 385 (by decide +kernel) rfl
theorem dX3_copy_1 : decode cX3_copy 1 = .ok (.getfield 9, 3) := by decide +kernel
theorem dX3_copy_4 : decode cX3_copy 4 = .ok (.iconst 0, 1) := by decide +kernel
theorem dX3_copy_5 : decode cX3_copy 5 = .ok (.aload_n 0, 1) := by decide +kernel
theorem dX3_copy_6 : decode cX3_copy 6 = .ok (.getfield 9, 3) := by decide +kernel
theorem dX3_copy_9 : decode cX3_copy 9 = .ok (.iconst 0, 1) := by decide +kernel
theorem dX3_copy_10 : decode cX3_copy 10 = .ok (.bipush 10, 2) := by decide +kernel
theorem q_1114 : Cond.methodLink RX3 70 ⟨"java/lang/System", "arraycopy", "(Ljava/lang/Object;ILjava/lang/Object;II)V"⟩ ∈ lw_g := mem_q 1114 (by decide +kernel) rfl
theorem q_728 : Cond.native ⟨"java/lang/System", "arraycopy", "(Ljava/lang/Object;ILjava/lang/Object;II)V"⟩ ∈ lw_g := mem_q 728 (by decide +kernel) rfl
theorem q_727 : Cond.static ⟨"java/lang/System", "arraycopy", "(Ljava/lang/Object;ILjava/lang/Object;II)V"⟩ ∈ lw_g := mem_q 727 (by decide +kernel) rfl
theorem q_118 : Cond.initialized RJ10 ∈ lw_g := mem_q 118 (by decide +kernel) rfl
theorem dX3_copy_12 : decode cX3_copy 12 = .ok (.invokestatic 70, 3) := by decide +kernel
theorem dX3_copy_15 : decode cX3_copy 15 = .ok (.aload_n 0, 1) := by decide +kernel
theorem q_384 : Cond.fieldLink RX3 24 RX3 "dice" "LFoxHoles$Dice;" ∈ lw_g := mem_q 384 (by decide +kernel) rfl
theorem dX3_copy_16 : decode cX3_copy 16 = .ok (.getfield 24, 3) := by decide +kernel
theorem dX3_copy_19 : decode cX3_copy 19 = .ok (.aload_n 1, 1) := by decide +kernel
theorem dX3_copy_20 : decode cX3_copy 20 = .ok (.getfield 24, 3) := by decide +kernel
theorem q_369 : Cond.fieldLink RX3 76 RX4 "z" "I" ∈ lw_g := mem_q 369 (by decide +kernel) rfl
theorem dX3_copy_23 : decode cX3_copy 23 = .ok (.getfield 76, 3) := by decide +kernel
theorem q_1088 : Cond.methodLink RX3 28 yX4_seed ∈ lw_g := mem_q 1088 (by decide +kernel) rfl
theorem q_1051 : Cond.instanceMethod yX4_seed ∈ lw_g := mem_q 1051 (by decide +kernel) rfl
theorem q_1052 : Cond.selects RX4 yX4_seed yX4_seed ∈ lw_g := mem_q 1052 (by decide +kernel) rfl
theorem q_111 : Cond.initialized RX4 ∈ lw_g := mem_q 111 (by decide +kernel) rfl
theorem q_1053 : Cond.code yX4_seed cX4_seed 2 none ∈ lw_g := mem_q 1053 (by decide +kernel) rfl
theorem kV_RX3_28 : CV RX3 28 RX4 yX4_seed cX4_seed 2 none 1 := cv_of q_1088 q_1051 q_1052 q_111 q_1053 (by decide +kernel)
theorem dX3_copy_26 : decode cX3_copy 26 = .ok (.invokevirtual 28, 3) := by decide +kernel
theorem dX3_copy_29 : decode cX3_copy 29 = .ok (.aload_n 0, 1) := by decide +kernel
theorem dX3_copy_30 : decode cX3_copy 30 = .ok (.aload_n 1, 1) := by decide +kernel
theorem q_386 : Cond.fieldLink RX3 36 RX3 "fox" "I" ∈ lw_g := mem_q 386 (by decide +kernel) rfl
theorem dX3_copy_31 : decode cX3_copy 31 = .ok (.getfield 36, 3) := by decide +kernel
theorem dX3_copy_34 : decode cX3_copy 34 = .ok (.putfield 36, 3) := by decide +kernel
theorem dX3_copy_37 : decode cX3_copy 37 = .ok (.aload_n 0, 1) := by decide +kernel
theorem dX3_copy_38 : decode cX3_copy 38 = .ok (.aload_n 1, 1) := by decide +kernel
theorem q_387 : Cond.fieldLink RX3 40 RX3 "hidden" "Z" ∈ lw_g := mem_q 387 (by decide +kernel) rfl
theorem dX3_copy_39 : decode cX3_copy 39 = .ok (.getfield 40, 3) := by decide +kernel
theorem dX3_copy_42 : decode cX3_copy 42 = .ok (.putfield 40, 3) := by decide +kernel
theorem dX3_copy_45 : decode cX3_copy 45 = .ok (.aload_n 0, 1) := by decide +kernel
theorem dX3_copy_46 : decode cX3_copy 46 = .ok (.aload_n 1, 1) := by decide +kernel
theorem q_389 : Cond.fieldLink RX3 44 RX3 "day" "I" ∈ lw_g := mem_q 389 (by decide +kernel) rfl
theorem dX3_copy_47 : decode cX3_copy 47 = .ok (.getfield 44, 3) := by decide +kernel
theorem dX3_copy_50 : decode cX3_copy 50 = .ok (.putfield 44, 3) := by decide +kernel
theorem dX3_copy_53 : decode cX3_copy 53 = .ok (.aload_n 0, 1) := by decide +kernel
theorem dX3_copy_54 : decode cX3_copy 54 = .ok (.aload_n 1, 1) := by decide +kernel
theorem q_391 : Cond.fieldLink RX3 52 RX3 "where" "I" ∈ lw_g := mem_q 391 (by decide +kernel) rfl
theorem dX3_copy_55 : decode cX3_copy 55 = .ok (.getfield 52, 3) := by decide +kernel
theorem dX3_copy_58 : decode cX3_copy 58 = .ok (.putfield 52, 3) := by decide +kernel
theorem dX3_copy_61 : decode cX3_copy 61 = .ok (.aload_n 0, 1) := by decide +kernel
theorem dX3_copy_62 : decode cX3_copy 62 = .ok (.aload_n 1, 1) := by decide +kernel
theorem q_393 : Cond.fieldLink RX3 59 RX3 "foxes" "I" ∈ lw_g := mem_q 393 (by decide +kernel) rfl
theorem dX3_copy_63 : decode cX3_copy 63 = .ok (.getfield 59, 3) := by decide +kernel
theorem dX3_copy_66 : decode cX3_copy 66 = .ok (.putfield 59, 3) := by decide +kernel
theorem dX3_copy_69 : decode cX3_copy 69 = .ok (.return_, 1) := by decide +kernel
set_option maxHeartbeats 4000000 in
set_option maxRecDepth 100000 in
theorem cD_copy (l : Launch) (J : va_J9) (sz : Nat) (ed : Nat) (o : Nat) (w : Nat) (d1 : Nat) (v1 : Nat) (d2 : Nat) (v2 : Nat) : WC l J yX3_copy cX3_copy 2 none ({ frames := 1, cells := 0, slots := 0, locals := 80 }) [.ref ed, .ref o] [(ed, .inr (3, [.ref w, .ref d1, .ref v1, .int 0, .int 0, .int 0, .int 0, .int 0])), (o, .inr (3, [.ref w, .ref d2, .ref v2, .int 0, .int 0, .int 0, .int 0, .int 0])), (d1, .inr (4, [.ref w, .int 0])), (d2, .inr (4, [.ref w, .int 0])), (v1, .inl (J.2.1, 10, .inl (fun _ => 0))), (v2, .inl (J.2.1, 10, .inl (fun _ => 0)))] sz (Qv J (fun (u : Unit) => True) (fun (_ : Unit) => [(o, .inr (3, [.ref w, .ref d2, .ref v2, .int 0, .int 0, .int 0, .int 0, .int 0]))])) 0 0 := by
  refine wc_of (by decide) (Nat.le_of_ble_eq_true rfl) ?_
  intro p e s m below meth c ls A hE hl hP hK hD hS hA
  obtain ⟨hx, hb, hr, hml, hown, hts, hlk, hin⟩ := hE
  have hown : s.vm.findClass RX3 = some m.cls := hown
  have hl : lv_has ls 2 [(0, .ref ed), (1, .ref o)] := hl
  refine lv_aload_n hx hb dX3_copy_0 rfl (lv_at hl 1 rfl) ?_
  refine va_get (D := J.1) (ci := 3) (v := .ref v2) (C := RX3) (T := TX3) (N := 8) hx hb hts inX3 hown hK.1 hP 1 rfl rfl 2 (by decide) (hts _ q_385) (fun _ h9 => h9) rfl dX3_copy_1 ?_
  refine lv_iconst (v := 0) hx hb dX3_copy_4 (by decide) ?_
  refine lv_aload_n hx hb dX3_copy_5 rfl (lv_at hl 0 rfl) ?_
  refine va_get (D := J.1) (ci := 3) (v := .ref v1) (C := RX3) (T := TX3) (N := 8) hx hb hts inX3 hown hK.1 hP 0 rfl rfl 2 (by decide) (hts _ q_385) (fun _ h9 => h9) rfl dX3_copy_6 ?_
  refine lv_iconst (v := 0) hx hb dX3_copy_9 (by decide) ?_
  refine lv_bipush (v := 10) hx hb dX3_copy_10 (by decide) ?_
  refine va_copyi (ty := .int) hx hb (by rw [hml]; exact hl.1.symm) hown (hts _ q_1114) (hts _ q_728) (hts _ q_727) (hts _ q_118) hK.1 hP hD hS 5 4 0 0 rfl rfl rfl rfl rfl (by decide) (by decide) (by decide) (by decide) (by decide) (fun _ _ => rfl) (Nat.le_of_ble_eq_true rfl) (by decide +kernel) dX3_copy_12 (fun H locs hP hD hS => ?_)
  have hP : va_P J.1 cls [(ed, .inr (3, [.ref w, .ref d1, .ref v1, .int 0, .int 0, .int 0, .int 0, .int 0])), (o, .inr (3, [.ref w, .ref d2, .ref v2, .int 0, .int 0, .int 0, .int 0, .int 0])), (d1, .inr (4, [.ref w, .int 0])), (d2, .inr (4, [.ref w, .int 0])), (v1, .inl (J.2.1, 10, .inl (va_cpy (fun _ => 0) (fun _ => 0) (0 : Int32).toNatClampNeg (0 : Int32).toNatClampNeg (10 : Int32).toNatClampNeg))), (v2, .inl (J.2.1, 10, .inl (fun _ => 0)))] H := hP
  have hD : va_D A [(ed, .inr (3, [.ref w, .ref d1, .ref v1, .int 0, .int 0, .int 0, .int 0, .int 0])), (o, .inr (3, [.ref w, .ref d2, .ref v2, .int 0, .int 0, .int 0, .int 0, .int 0])), (d1, .inr (4, [.ref w, .int 0])), (d2, .inr (4, [.ref w, .int 0])), (v1, .inl (J.2.1, 10, .inl (va_cpy (fun _ => 0) (fun _ => 0) (0 : Int32).toNatClampNeg (0 : Int32).toNatClampNeg (10 : Int32).toNatClampNeg))), (v2, .inl (J.2.1, 10, .inl (fun _ => 0)))] := hD
  refine lv_aload_n hx hb dX3_copy_15 rfl (lv_at hl 0 rfl) ?_
  refine va_get (D := J.1) (ci := 3) (v := .ref d1) (C := RX3) (T := TX3) (N := 8) hx hb hts inX3 hown hK.1 hP 0 rfl rfl 1 (by decide) (hts _ q_384) (fun _ h9 => h9) rfl dX3_copy_16 ?_
  refine lv_aload_n hx hb dX3_copy_19 rfl (lv_at hl 1 rfl) ?_
  refine va_get (D := J.1) (ci := 3) (v := .ref d2) (C := RX3) (T := TX3) (N := 8) hx hb hts inX3 hown hK.1 hP 1 rfl rfl 1 (by decide) (hts _ q_384) (fun _ h9 => h9) rfl dX3_copy_20 ?_
  refine va_get (D := J.1) (ci := 4) (v := .int 0) (C := RX4) (T := TX4) (N := 2) hx hb hts inX4 hown hK.1 hP 3 rfl rfl 1 (by decide) (hts _ q_369) (fun _ h9 => h9) rfl dX3_copy_23 ?_
  refine gw_v (wc := [(d1, .inr (4, [.ref w, .int 0]))]) (wr := [(ed, .inr (3, [.ref w, .ref d1, .ref v1, .int 0, .int 0, .int 0, .int 0, .int 0])), (o, .inr (3, [.ref w, .ref d2, .ref v2, .int 0, .int 0, .int 0, .int 0, .int 0])), (d2, .inr (4, [.ref w, .int 0])), (v1, .inl (J.2.1, 10, .inl (va_cpy (fun _ => 0) (fun _ => 0) (0 : Int32).toNatClampNeg (0 : Int32).toNatClampNeg (10 : Int32).toNatClampNeg))), (v2, .inl (J.2.1, 10, .inl (fun _ => 0)))]) hP hD hS hA [2] [0, 1, 3, 4, 5] rfl rfl (by decide) (by decide) (wn_V (As := [.int 0]) (rest := []) hx hb hml hown hts hK (cD_seed l J _ d1 w 0 0) kV_RX3_28 (hP.sub (ws' := [(d1, .inr (4, [.ref w, .int 0]))]) [2] rfl) ((hD.sub (ws' := [(d1, .inr (4, [.ref w, .int 0]))]) [2] (by decide) rfl).weaken (fun _ _ _ _ => trivial)) rfl rfl rfl ⟨Nat.le_of_ble_eq_true rfl, Nat.le_of_ble_eq_true rfl⟩ rfl rfl rfl hl.1 rfl (Nat.le_of_ble_eq_true rfl) ⟨Nat.le_of_ble_eq_true rfl, Nat.le_of_ble_eq_true rfl⟩ dX3_copy_26) (fun u1 H locs hw hP hD hS => ?_)
  have hP : va_P J.1 cls [(ed, .inr (3, [.ref w, .ref d1, .ref v1, .int 0, .int 0, .int 0, .int 0, .int 0])), (o, .inr (3, [.ref w, .ref d2, .ref v2, .int 0, .int 0, .int 0, .int 0, .int 0])), (d2, .inr (4, [.ref w, .int 0])), (v1, .inl (J.2.1, 10, .inl (va_cpy (fun _ => 0) (fun _ => 0) (0 : Int32).toNatClampNeg (0 : Int32).toNatClampNeg (10 : Int32).toNatClampNeg))), (v2, .inl (J.2.1, 10, .inl (fun _ => 0))), (d1, .inr (4, [.ref w, .int 0]))] H := hP
  have hD : va_D A [(ed, .inr (3, [.ref w, .ref d1, .ref v1, .int 0, .int 0, .int 0, .int 0, .int 0])), (o, .inr (3, [.ref w, .ref d2, .ref v2, .int 0, .int 0, .int 0, .int 0, .int 0])), (d2, .inr (4, [.ref w, .int 0])), (v1, .inl (J.2.1, 10, .inl (va_cpy (fun _ => 0) (fun _ => 0) (0 : Int32).toNatClampNeg (0 : Int32).toNatClampNeg (10 : Int32).toNatClampNeg))), (v2, .inl (J.2.1, 10, .inl (fun _ => 0))), (d1, .inr (4, [.ref w, .int 0]))] := hD
  refine W.widen (k := 0) (n := 0) (Nat.le_of_ble_eq_true rfl) (Nat.le_of_ble_eq_true rfl) ?_
  refine lv_aload_n hx hb dX3_copy_29 rfl (lv_at hl 0 rfl) ?_
  refine lv_aload_n hx hb dX3_copy_30 rfl (lv_at hl 1 rfl) ?_
  refine va_get (D := J.1) (ci := 3) (v := .int 0) (C := RX3) (T := TX3) (N := 8) hx hb hts inX3 hown hK.1 hP 1 rfl rfl 3 (by decide) (hts _ q_386) (fun _ h9 => h9) rfl dX3_copy_31 ?_
  refine va_put (D := J.1) (ci := 3) (v := .int 0) (ty := (.int)) (C := RX3) (T := TX3) (N := 8) hx hb hts inX3 tyX3 tyX3_ok nmX3 hown hK.1 hP hD hS 0 rfl rfl 3 (by decide) (hts _ q_386) (fun _ h9 => h9) rfl (by decide +kernel) rfl rfl (Nat.le_of_ble_eq_true rfl) dX3_copy_34 (fun H locs hP hD hS => ?_)
  have hP : va_P J.1 cls [(ed, .inr (3, [.ref w, .ref d1, .ref v1, .int 0, .int 0, .int 0, .int 0, .int 0])), (o, .inr (3, [.ref w, .ref d2, .ref v2, .int 0, .int 0, .int 0, .int 0, .int 0])), (d2, .inr (4, [.ref w, .int 0])), (v1, .inl (J.2.1, 10, .inl (va_cpy (fun _ => 0) (fun _ => 0) (0 : Int32).toNatClampNeg (0 : Int32).toNatClampNeg (10 : Int32).toNatClampNeg))), (v2, .inl (J.2.1, 10, .inl (fun _ => 0))), (d1, .inr (4, [.ref w, .int 0]))] H := hP
  have hD : va_D A [(ed, .inr (3, [.ref w, .ref d1, .ref v1, .int 0, .int 0, .int 0, .int 0, .int 0])), (o, .inr (3, [.ref w, .ref d2, .ref v2, .int 0, .int 0, .int 0, .int 0, .int 0])), (d2, .inr (4, [.ref w, .int 0])), (v1, .inl (J.2.1, 10, .inl (va_cpy (fun _ => 0) (fun _ => 0) (0 : Int32).toNatClampNeg (0 : Int32).toNatClampNeg (10 : Int32).toNatClampNeg))), (v2, .inl (J.2.1, 10, .inl (fun _ => 0))), (d1, .inr (4, [.ref w, .int 0]))] := hD
  refine lv_aload_n hx hb dX3_copy_37 rfl (lv_at hl 0 rfl) ?_
  refine lv_aload_n hx hb dX3_copy_38 rfl (lv_at hl 1 rfl) ?_
  refine va_get (D := J.1) (ci := 3) (v := .int 0) (C := RX3) (T := TX3) (N := 8) hx hb hts inX3 hown hK.1 hP 1 rfl rfl 4 (by decide) (hts _ q_387) (fun _ h9 => h9) rfl dX3_copy_39 ?_
  refine va_put (D := J.1) (ci := 3) (v := .int 0) (ty := (.boolean)) (C := RX3) (T := TX3) (N := 8) hx hb hts inX3 tyX3 tyX3_ok nmX3 hown hK.1 hP hD hS 0 rfl rfl 4 (by decide) (hts _ q_387) (fun _ h9 => h9) rfl (by decide +kernel) rfl rfl (Nat.le_of_ble_eq_true rfl) dX3_copy_42 (fun H locs hP hD hS => ?_)
  have hP : va_P J.1 cls [(ed, .inr (3, [.ref w, .ref d1, .ref v1, .int 0, .int 0, .int 0, .int 0, .int 0])), (o, .inr (3, [.ref w, .ref d2, .ref v2, .int 0, .int 0, .int 0, .int 0, .int 0])), (d2, .inr (4, [.ref w, .int 0])), (v1, .inl (J.2.1, 10, .inl (va_cpy (fun _ => 0) (fun _ => 0) (0 : Int32).toNatClampNeg (0 : Int32).toNatClampNeg (10 : Int32).toNatClampNeg))), (v2, .inl (J.2.1, 10, .inl (fun _ => 0))), (d1, .inr (4, [.ref w, .int 0]))] H := hP
  have hD : va_D A [(ed, .inr (3, [.ref w, .ref d1, .ref v1, .int 0, .int 0, .int 0, .int 0, .int 0])), (o, .inr (3, [.ref w, .ref d2, .ref v2, .int 0, .int 0, .int 0, .int 0, .int 0])), (d2, .inr (4, [.ref w, .int 0])), (v1, .inl (J.2.1, 10, .inl (va_cpy (fun _ => 0) (fun _ => 0) (0 : Int32).toNatClampNeg (0 : Int32).toNatClampNeg (10 : Int32).toNatClampNeg))), (v2, .inl (J.2.1, 10, .inl (fun _ => 0))), (d1, .inr (4, [.ref w, .int 0]))] := hD
  refine lv_aload_n hx hb dX3_copy_45 rfl (lv_at hl 0 rfl) ?_
  refine lv_aload_n hx hb dX3_copy_46 rfl (lv_at hl 1 rfl) ?_
  refine va_get (D := J.1) (ci := 3) (v := .int 0) (C := RX3) (T := TX3) (N := 8) hx hb hts inX3 hown hK.1 hP 1 rfl rfl 5 (by decide) (hts _ q_389) (fun _ h9 => h9) rfl dX3_copy_47 ?_
  refine va_put (D := J.1) (ci := 3) (v := .int 0) (ty := (.int)) (C := RX3) (T := TX3) (N := 8) hx hb hts inX3 tyX3 tyX3_ok nmX3 hown hK.1 hP hD hS 0 rfl rfl 5 (by decide) (hts _ q_389) (fun _ h9 => h9) rfl (by decide +kernel) rfl rfl (Nat.le_of_ble_eq_true rfl) dX3_copy_50 (fun H locs hP hD hS => ?_)
  have hP : va_P J.1 cls [(ed, .inr (3, [.ref w, .ref d1, .ref v1, .int 0, .int 0, .int 0, .int 0, .int 0])), (o, .inr (3, [.ref w, .ref d2, .ref v2, .int 0, .int 0, .int 0, .int 0, .int 0])), (d2, .inr (4, [.ref w, .int 0])), (v1, .inl (J.2.1, 10, .inl (va_cpy (fun _ => 0) (fun _ => 0) (0 : Int32).toNatClampNeg (0 : Int32).toNatClampNeg (10 : Int32).toNatClampNeg))), (v2, .inl (J.2.1, 10, .inl (fun _ => 0))), (d1, .inr (4, [.ref w, .int 0]))] H := hP
  have hD : va_D A [(ed, .inr (3, [.ref w, .ref d1, .ref v1, .int 0, .int 0, .int 0, .int 0, .int 0])), (o, .inr (3, [.ref w, .ref d2, .ref v2, .int 0, .int 0, .int 0, .int 0, .int 0])), (d2, .inr (4, [.ref w, .int 0])), (v1, .inl (J.2.1, 10, .inl (va_cpy (fun _ => 0) (fun _ => 0) (0 : Int32).toNatClampNeg (0 : Int32).toNatClampNeg (10 : Int32).toNatClampNeg))), (v2, .inl (J.2.1, 10, .inl (fun _ => 0))), (d1, .inr (4, [.ref w, .int 0]))] := hD
  refine lv_aload_n hx hb dX3_copy_53 rfl (lv_at hl 0 rfl) ?_
  refine lv_aload_n hx hb dX3_copy_54 rfl (lv_at hl 1 rfl) ?_
  refine va_get (D := J.1) (ci := 3) (v := .int 0) (C := RX3) (T := TX3) (N := 8) hx hb hts inX3 hown hK.1 hP 1 rfl rfl 6 (by decide) (hts _ q_391) (fun _ h9 => h9) rfl dX3_copy_55 ?_
  refine va_put (D := J.1) (ci := 3) (v := .int 0) (ty := (.int)) (C := RX3) (T := TX3) (N := 8) hx hb hts inX3 tyX3 tyX3_ok nmX3 hown hK.1 hP hD hS 0 rfl rfl 6 (by decide) (hts _ q_391) (fun _ h9 => h9) rfl (by decide +kernel) rfl rfl (Nat.le_of_ble_eq_true rfl) dX3_copy_58 (fun H locs hP hD hS => ?_)
  have hP : va_P J.1 cls [(ed, .inr (3, [.ref w, .ref d1, .ref v1, .int 0, .int 0, .int 0, .int 0, .int 0])), (o, .inr (3, [.ref w, .ref d2, .ref v2, .int 0, .int 0, .int 0, .int 0, .int 0])), (d2, .inr (4, [.ref w, .int 0])), (v1, .inl (J.2.1, 10, .inl (va_cpy (fun _ => 0) (fun _ => 0) (0 : Int32).toNatClampNeg (0 : Int32).toNatClampNeg (10 : Int32).toNatClampNeg))), (v2, .inl (J.2.1, 10, .inl (fun _ => 0))), (d1, .inr (4, [.ref w, .int 0]))] H := hP
  have hD : va_D A [(ed, .inr (3, [.ref w, .ref d1, .ref v1, .int 0, .int 0, .int 0, .int 0, .int 0])), (o, .inr (3, [.ref w, .ref d2, .ref v2, .int 0, .int 0, .int 0, .int 0, .int 0])), (d2, .inr (4, [.ref w, .int 0])), (v1, .inl (J.2.1, 10, .inl (va_cpy (fun _ => 0) (fun _ => 0) (0 : Int32).toNatClampNeg (0 : Int32).toNatClampNeg (10 : Int32).toNatClampNeg))), (v2, .inl (J.2.1, 10, .inl (fun _ => 0))), (d1, .inr (4, [.ref w, .int 0]))] := hD
  refine lv_aload_n hx hb dX3_copy_61 rfl (lv_at hl 0 rfl) ?_
  refine lv_aload_n hx hb dX3_copy_62 rfl (lv_at hl 1 rfl) ?_
  refine va_get (D := J.1) (ci := 3) (v := .int 0) (C := RX3) (T := TX3) (N := 8) hx hb hts inX3 hown hK.1 hP 1 rfl rfl 7 (by decide) (hts _ q_393) (fun _ h9 => h9) rfl dX3_copy_63 ?_
  refine va_put (D := J.1) (ci := 3) (v := .int 0) (ty := (.int)) (C := RX3) (T := TX3) (N := 8) hx hb hts inX3 tyX3 tyX3_ok nmX3 hown hK.1 hP hD hS 0 rfl rfl 7 (by decide) (hts _ q_393) (fun _ h9 => h9) rfl (by decide +kernel) rfl rfl (Nat.le_of_ble_eq_true rfl) dX3_copy_66 (fun H locs hP hD hS => ?_)
  have hP : va_P J.1 cls [(ed, .inr (3, [.ref w, .ref d1, .ref v1, .int 0, .int 0, .int 0, .int 0, .int 0])), (o, .inr (3, [.ref w, .ref d2, .ref v2, .int 0, .int 0, .int 0, .int 0, .int 0])), (d2, .inr (4, [.ref w, .int 0])), (v1, .inl (J.2.1, 10, .inl (va_cpy (fun _ => 0) (fun _ => 0) (0 : Int32).toNatClampNeg (0 : Int32).toNatClampNeg (10 : Int32).toNatClampNeg))), (v2, .inl (J.2.1, 10, .inl (fun _ => 0))), (d1, .inr (4, [.ref w, .int 0]))] H := hP
  have hD : va_D A [(ed, .inr (3, [.ref w, .ref d1, .ref v1, .int 0, .int 0, .int 0, .int 0, .int 0])), (o, .inr (3, [.ref w, .ref d2, .ref v2, .int 0, .int 0, .int 0, .int 0, .int 0])), (d2, .inr (4, [.ref w, .int 0])), (v1, .inl (J.2.1, 10, .inl (va_cpy (fun _ => 0) (fun _ => 0) (0 : Int32).toNatClampNeg (0 : Int32).toNatClampNeg (10 : Int32).toNatClampNeg))), (v2, .inl (J.2.1, 10, .inl (fun _ => 0))), (d1, .inr (4, [.ref w, .int 0]))] := hD
  exact wz_v () hx hb hr hlk trivial (hP.sub (ws' := [(o, .inr (3, [.ref w, .ref d2, .ref v2, .int 0, .int 0, .int 0, .int 0, .int 0]))]) [1] rfl) (hD.sub (ws' := [(o, .inr (3, [.ref w, .ref d2, .ref v2, .int 0, .int 0, .int 0, .int 0, .int 0]))]) [1] (by decide) rfl) hS dX3_copy_69
theorem dX3_dayIfHidden_0 : decode cX3_dayIfHidden 0 = .ok (.aload_n 0, 1) := by decide +kernel
theorem dX3_dayIfHidden_1 : decode cX3_dayIfHidden 1 = .ok (.getfield 40, 3) := by decide +kernel
theorem dX3_dayIfHidden_4 : decode cX3_dayIfHidden 4 = .ok (.ifCond .eq 10, 3) := by decide +kernel
theorem dX3_dayIfHidden_14 : decode cX3_dayIfHidden 14 = .ok (.bipush (-2), 2) := by decide +kernel
theorem dX3_dayIfHidden_16 : decode cX3_dayIfHidden 16 = .ok (.ireturn, 1) := by decide +kernel
set_option maxHeartbeats 4000000 in
set_option maxRecDepth 100000 in
theorem cD_day (l : Launch) (J : va_J9) (ed : Nat) (w : Nat) (d1 : Nat) (v1 : Nat) : RC l J yX3_dayIfHidden cX3_dayIfHidden 1 (some .int) ({ frames := 0, cells := 0, slots := 0, locals := 0 }) [.ref ed] [(ed, .inr (3, [.ref w, .ref d1, .ref v1, .int 0, .int 0, .int 0, .int 0, .int 0]))] (vp_Si (fun r => r = (-2))) := by
  refine rc_of (by decide) (Nat.le_of_ble_eq_true rfl) ?_
  intro p e s m below meth c ls hE hl hP hK
  obtain ⟨hx, hb, hr, hml, hown, hts, hlk, hin⟩ := hE
  have hown : s.vm.findClass RX3 = some m.cls := hown
  have hl : lv_has ls 1 [(0, .ref ed)] := hl
  refine lv_aload_n hx hb dX3_dayIfHidden_0 rfl (lv_at hl 0 rfl) ?_
  refine va_get (D := J.1) (ci := 3) (v := .int 0) (C := RX3) (T := TX3) (N := 8) hx hb hts inX3 hown hK.1 hP 0 rfl rfl 4 (by decide) (hts _ q_387) (fun _ h9 => h9) rfl dX3_dayIfHidden_1 ?_
  refine lv_if_eq (tgt := 14) hx hb dX3_dayIfHidden_4 (by decide) (fun _ => ?_) (fun c => absurd c (by decide))
  refine lv_bipush (v := (-2)) hx hb dX3_dayIfHidden_14 (by decide) ?_
  exact rz_i hx hb hr hlk (by decide) dX3_dayIfHidden_16
theorem dX5_hasRing_0 : decode cX5_hasRing 0 = .ok (.aload_n 0, 1) := by decide +kernel
theorem q_305 : Cond.fieldLink RX5 9 RX5 "warren" "LFoxHoles$Warren;" ∈ lw_g := mem_q 305 (by decide +kernel) rfl
theorem dX5_hasRing_1 : decode cX5_hasRing 1 = .ok (.getfield 9, 3) := by decide +kernel
theorem q_895 : Cond.methodLink RX5 15 yX10_openOnes ∈ lw_g := mem_q 895 (by decide +kernel) rfl
theorem kV_RX5_15 : CV RX5 15 RX10 yX10_openOnes cX10_openOnes 1 (some .int) 0 := cv_of q_895 q_660 q_661 q_105 q_662 (by decide +kernel)
theorem dX5_hasRing_4 : decode cX5_hasRing 4 = .ok (.invokevirtual 15, 3) := by decide +kernel
theorem dX5_hasRing_7 : decode cX5_hasRing 7 = .ok (.istore_n 1, 1) := by decide +kernel
theorem dX5_hasRing_8 : decode cX5_hasRing 8 = .ok (.iconst 0, 1) := by decide +kernel
theorem dX5_hasRing_9 : decode cX5_hasRing 9 = .ok (.istore_n 2, 1) := by decide +kernel
theorem dX5_hasRing_10 : decode cX5_hasRing 10 = .ok (.iload_n 2, 1) := by decide +kernel
theorem dX5_hasRing_11 : decode cX5_hasRing 11 = .ok (.bipush 10, 2) := by decide +kernel
theorem dX5_hasRing_13 : decode cX5_hasRing 13 = .ok (.if_icmp .ge 48, 3) := by decide +kernel
theorem dX5_hasRing_61 : decode cX5_hasRing 61 = .ok (.iload_n 1, 1) := by decide +kernel
theorem dX5_hasRing_62 : decode cX5_hasRing 62 = .ok (.ifCond .eq 7, 3) := by decide +kernel
theorem dX5_hasRing_69 : decode cX5_hasRing 69 = .ok (.iconst 0, 1) := by decide +kernel
theorem dX5_hasRing_70 : decode cX5_hasRing 70 = .ok (.ireturn, 1) := by decide +kernel
theorem dX5_hasRing_16 : decode cX5_hasRing 16 = .ok (.iconst 0, 1) := by decide +kernel
theorem dX5_hasRing_17 : decode cX5_hasRing 17 = .ok (.istore_n 3, 1) := by decide +kernel
theorem dX5_hasRing_18 : decode cX5_hasRing 18 = .ok (.iload_n 3, 1) := by decide +kernel
theorem dX5_hasRing_19 : decode cX5_hasRing 19 = .ok (.bipush 10, 2) := by decide +kernel
theorem dX5_hasRing_21 : decode cX5_hasRing 21 = .ok (.if_icmp .ge 34, 3) := by decide +kernel
theorem dX5_hasRing_55 : decode cX5_hasRing 55 = .ok (.iinc 2 1, 3) := by decide +kernel
theorem dX5_hasRing_58 : decode cX5_hasRing 58 = .ok (.goto (-48), 3) := by decide +kernel
theorem dX5_hasRing_24 : decode cX5_hasRing 24 = .ok (.aload_n 0, 1) := by decide +kernel
theorem dX5_hasRing_25 : decode cX5_hasRing 25 = .ok (.getfield 9, 3) := by decide +kernel
theorem dX5_hasRing_28 : decode cX5_hasRing 28 = .ok (.iload_n 3, 1) := by decide +kernel
theorem q_896 : Cond.methodLink RX5 21 yX10_openNear ∈ lw_g := mem_q 896 (by decide +kernel) rfl
theorem q_897 : Cond.instanceMethod yX10_openNear ∈ lw_g := mem_q 897 (by decide +kernel) rfl
theorem q_898 : Cond.selects RX10 yX10_openNear yX10_openNear ∈ lw_g := mem_q 898 (by decide +kernel) rfl
theorem q_899 : Cond.code yX10_openNear cX10_openNear 2 (some .int) ∈ lw_g := mem_q 899 (by decide +kernel) rfl
theorem kV_RX5_21 : CV RX5 21 RX10 yX10_openNear cX10_openNear 2 (some .int) 1 := cv_of q_896 q_897 q_898 q_105 q_899 (by decide +kernel)
theorem dX5_hasRing_29 : decode cX5_hasRing 29 = .ok (.invokevirtual 21, 3) := by decide +kernel
theorem dX5_hasRing_32 : decode cX5_hasRing 32 = .ok (.iload_n 1, 1) := by decide +kernel
theorem dX5_hasRing_33 : decode cX5_hasRing 33 = .ok (.iand, 1) := by decide +kernel
theorem q_900 : Cond.methodLink RX5 25 yJ6_bitCount_0f7a4 ∈ lw_g := mem_q 900 (by decide +kernel) rfl
theorem q_608 : Cond.static yJ6_bitCount_0f7a4 ∈ lw_g := mem_q 608 (by decide +kernel) rfl
theorem q_117 : Cond.initialized RJ6 ∈ lw_g := mem_q 117 (by decide +kernel) rfl
theorem q_609 : Cond.code yJ6_bitCount_0f7a4 cJ6_bitCount_0f7a4 1 (some .int) ∈ lw_g := mem_q 609 (by decide +kernel) rfl
theorem kS_RX5_25 : CS RX5 25 yJ6_bitCount_0f7a4 cJ6_bitCount_0f7a4 1 (some .int) 1 := cs_of q_900 q_608 q_117 q_609 (by decide +kernel)
theorem dX5_hasRing_34 : decode cX5_hasRing 34 = .ok (.invokestatic 25, 3) := by decide +kernel
theorem dX5_hasRing_37 : decode cX5_hasRing 37 = .ok (.iconst 2, 1) := by decide +kernel
theorem dX5_hasRing_38 : decode cX5_hasRing 38 = .ok (.if_icmp .ge 11, 3) := by decide +kernel
theorem dX5_hasRing_41 : decode cX5_hasRing 41 = .ok (.iload_n 1, 1) := by decide +kernel
theorem dX5_hasRing_42 : decode cX5_hasRing 42 = .ok (.iconst 1, 1) := by decide +kernel
theorem dX5_hasRing_43 : decode cX5_hasRing 43 = .ok (.iload_n 3, 1) := by decide +kernel
theorem dX5_hasRing_44 : decode cX5_hasRing 44 = .ok (.ishl, 1) := by decide +kernel
theorem dX5_hasRing_45 : decode cX5_hasRing 45 = .ok (.iconst (-1), 1) := by decide +kernel
theorem dX5_hasRing_46 : decode cX5_hasRing 46 = .ok (.ixor, 1) := by decide +kernel
theorem dX5_hasRing_47 : decode cX5_hasRing 47 = .ok (.iand, 1) := by decide +kernel
theorem dX5_hasRing_48 : decode cX5_hasRing 48 = .ok (.istore_n 1, 1) := by decide +kernel
theorem dX5_hasRing_49 : decode cX5_hasRing 49 = .ok (.iinc 3 1, 3) := by decide +kernel
theorem dX5_hasRing_52 : decode cX5_hasRing 52 = .ok (.goto (-34), 3) := by decide +kernel
set_option maxHeartbeats 4000000 in
set_option maxRecDepth 100000 in
theorem cG_ring (l : Launch) (J : va_J9) (gr : Nat) (w : Nat) (t : Nat) (we : Nat) (jo : Nat) (la : Nat) : RC l J yX5_hasRing cX5_hasRing 4 (some .boolean) ({ frames := 3, cells := 0, slots := 0, locals := 63 }) [.ref gr] [(gr, .inr (5, [.ref w])), (w, .inr (10, [.ref t, .ref we, .ref jo, .ref la, .int 0, .int 0, .int 0, .int 0, .int 1, .int 0, .int 0]))] (vp_Si (fun r => r = 0)) := by
  refine rc_of (by decide) (Nat.le_of_ble_eq_true rfl) ?_
  intro p e s m below meth c ls hE hl hP hK
  obtain ⟨hx, hb, hr, hml, hown, hts, hlk, hin⟩ := hE
  have hown : s.vm.findClass RX5 = some m.cls := hown
  have hl : lv_has ls 4 [(0, .ref gr)] := hl
  refine lv_aload_n hx hb dX5_hasRing_0 rfl (lv_at hl 0 rfl) ?_
  refine va_get (D := J.1) (ci := 5) (v := .ref w) (C := RX5) (T := TX5) (N := 1) hx hb hts inX5 hown hK.1 hP 0 rfl rfl 0 (by decide) (hts _ q_305) (fun _ h9 => h9) rfl dX5_hasRing_1 ?_
  refine go_i (rn_V (As := []) (rest := []) hx hb hml hown hts hK (cW_openOnes l J w t we jo la) kV_RX5_15 (hP.sub (ws' := [(w, .inr (10, [.ref t, .ref we, .ref jo, .ref la, .int 0, .int 0, .int 0, .int 0, .int 1, .int 0, .int 0]))]) [1] rfl) rfl rfl rfl ⟨Nat.le_of_ble_eq_true rfl, Nat.le_of_ble_eq_true rfl⟩ rfl rfl rfl hl.1 rfl (Nat.le_of_ble_eq_true rfl) ⟨Nat.le_of_ble_eq_true rfl, Nat.le_of_ble_eq_true rfl⟩ dX5_hasRing_4) ?_
  refine lv_istore_n (lv' := [(1, .int 0), (0, .ref gr)]) hx hb dX5_hasRing_7 rfl hl (by decide) rfl (fun ls hl => ?_)
  refine lv_iconst (v := 0) hx hb dX5_hasRing_8 (by decide) ?_
  refine lv_istore_n (lv' := [(2, .int 0), (1, .int 0), (0, .ref gr)]) hx hb dX5_hasRing_9 rfl hl (by decide) rfl (fun ls hl => ?_)
  have LP3 : ∀ (k1 i2 : Nat), i2 + k1 = 10 → ∀ (ls : Array Slot), lv_has ls 4 [(2, .int (nI i2)), (1, .int 0), (0, .ref gr)] → W p l e ({ frames := 3, cells := 0, slots := 0, locals := 63 } : Room) s m ([.ref gr] : List Value).toArray below meth c s.heap [] 0 0 (MQ below (vp_Si (fun r => r = 0)) ([.ref gr] : List Value).toArray s 0 0 (fun _ => False)) (F0 m 10 ls []) := by
    intro k1
    induction k1 with
    | zero =>
      intro i2 hi2  ls hl
      refine lv_iload_n hx hb dX5_hasRing_10 rfl (lv_at hl 0 rfl) ?_
      refine lv_bipush (v := 10) hx hb dX5_hasRing_11 (by decide) ?_
      refine lv_icmp_ge (tgt := 61) hx hb dX5_hasRing_13 (by decide) (fun _ => ?_) (fun c4 => absurd (show ¬ (10 ≤ ((i2 : Nat) : Int)) from fun h => c4 ((i_le (by decide) (nI_toInt (by omega))).mpr h)) (by omega))
      refine lv_iload_n hx hb dX5_hasRing_61 rfl (lv_at hl 1 rfl) ?_
      refine lv_if_eq (tgt := 69) hx hb dX5_hasRing_62 (by decide) (fun _ => ?_) (fun c => absurd c (by decide))
      refine lv_iconst (v := 0) hx hb dX5_hasRing_69 (by decide) ?_
      exact rz_z hx hb hr hlk (by decide) (by decide) dX5_hasRing_70
    | succ k1 ih =>
      intro i2 hi2  ls hl
      refine lv_iload_n hx hb dX5_hasRing_10 rfl (lv_at hl 0 rfl) ?_
      refine lv_bipush (v := 10) hx hb dX5_hasRing_11 (by decide) ?_
      refine lv_icmp_ge (tgt := 61) hx hb dX5_hasRing_13 (by decide) (fun c5 => absurd (show 10 ≤ ((i2 : Nat) : Int) from (i_le (by decide) (nI_toInt (by omega))).mp c5) (by omega)) (fun _ => ?_)
      refine lv_iconst (v := 0) hx hb dX5_hasRing_16 (by decide) ?_
      refine lv_istore_n (lv' := [(3, .int 0), (2, .int (nI i2)), (1, .int 0), (0, .ref gr)]) hx hb dX5_hasRing_17 rfl hl (by decide) rfl (fun ls hl => ?_)
      have LP8 : ∀ (k6 i7 : Nat), i7 + k6 = 10 → ∀ (ls : Array Slot), lv_has ls 4 [(3, .int (nI i7)), (2, .int (nI i2)), (1, .int 0), (0, .ref gr)] → W p l e ({ frames := 3, cells := 0, slots := 0, locals := 63 } : Room) s m ([.ref gr] : List Value).toArray below meth c s.heap [] 0 0 (MQ below (vp_Si (fun r => r = 0)) ([.ref gr] : List Value).toArray s 0 0 (fun _ => False)) (F0 m 18 ls []) := by
        intro k6
        induction k6 with
        | zero =>
          intro i7 hi7  ls hl
          refine lv_iload_n hx hb dX5_hasRing_18 rfl (lv_at hl 0 rfl) ?_
          refine lv_bipush (v := 10) hx hb dX5_hasRing_19 (by decide) ?_
          refine lv_icmp_ge (tgt := 55) hx hb dX5_hasRing_21 (by decide) (fun _ => ?_) (fun c9 => absurd (show ¬ (10 ≤ ((i7 : Nat) : Int)) from fun h => c9 ((i_le (by decide) (nI_toInt (by omega))).mpr h)) (by omega))
          refine lv_iinc (v := nI (i2 + 1)) (lv' := [(2, .int (nI (i2 + 1))), (3, .int (nI i7)), (1, .int 0), (0, .ref gr)]) hx hb dX5_hasRing_55 hl (k := 1) rfl (nI_inc _) (by decide) rfl (fun ls hl => ?_)
          refine lv_goto (tgt := 10) hx hb dX5_hasRing_58 (by decide) ?_
          exact ih (i2 + 1) (by omega)  ls (lv_sub hl [0, 2, 3] rfl)
        | succ k6 ih =>
          intro i7 hi7  ls hl
          refine lv_iload_n hx hb dX5_hasRing_18 rfl (lv_at hl 0 rfl) ?_
          refine lv_bipush (v := 10) hx hb dX5_hasRing_19 (by decide) ?_
          refine lv_icmp_ge (tgt := 55) hx hb dX5_hasRing_21 (by decide) (fun c10 => absurd (show 10 ≤ ((i7 : Nat) : Int) from (i_le (by decide) (nI_toInt (by omega))).mp c10) (by omega)) (fun _ => ?_)
          refine lv_aload_n hx hb dX5_hasRing_24 rfl (lv_at hl 3 rfl) ?_
          refine va_get (D := J.1) (ci := 5) (v := .ref w) (C := RX5) (T := TX5) (N := 1) hx hb hts inX5 hown hK.1 hP 0 rfl rfl 0 (by decide) (hts _ q_305) (fun _ h9 => h9) rfl dX5_hasRing_25 ?_
          refine lv_iload_n hx hb dX5_hasRing_28 rfl (lv_at hl 0 rfl) ?_
          refine go_i (rn_V (As := [.int (nI i7)]) (rest := []) hx hb hml hown hts hK (cW_openNear l J w t we jo la (nI i7)) kV_RX5_21 (hP.sub (ws' := [(w, .inr (10, [.ref t, .ref we, .ref jo, .ref la, .int 0, .int 0, .int 0, .int 0, .int 1, .int 0, .int 0]))]) [1] rfl) rfl rfl rfl ⟨Nat.le_of_ble_eq_true rfl, Nat.le_of_ble_eq_true rfl⟩ rfl rfl rfl hl.1 rfl (Nat.le_of_ble_eq_true rfl) ⟨Nat.le_of_ble_eq_true rfl, Nat.le_of_ble_eq_true rfl⟩ dX5_hasRing_29) ?_
          refine lv_iload_n hx hb dX5_hasRing_32 rfl (lv_at hl 2 rfl) ?_
          refine lv_iand hx hb dX5_hasRing_33 ?_
          refine top_i (y := 0) (by decide) ?_
          refine go_i (rn_S (As := [.int 0]) (rest := []) hx hb hml hown hts hK (cJ_bit0 l J ) kS_RX5_25 (hP.sub (ws' := []) [] rfl) ⟨Nat.le_of_ble_eq_true rfl, Nat.le_of_ble_eq_true rfl⟩ rfl rfl rfl hl.1 rfl (Nat.le_of_ble_eq_true rfl) ⟨Nat.le_of_ble_eq_true rfl, Nat.le_of_ble_eq_true rfl⟩ dX5_hasRing_34) ?_
          refine lv_iconst (v := 2) hx hb dX5_hasRing_37 (by decide) ?_
          refine lv_icmp_ge (tgt := 49) hx hb dX5_hasRing_38 (by decide) (fun c => absurd c (by decide)) (fun _ => ?_)
          refine lv_iload_n hx hb dX5_hasRing_41 rfl (lv_at hl 2 rfl) ?_
          refine lv_iconst (v := 1) hx hb dX5_hasRing_42 (by decide) ?_
          refine lv_iload_n hx hb dX5_hasRing_43 rfl (lv_at hl 0 rfl) ?_
          refine lv_ishl hx hb dX5_hasRing_44 ?_
          refine lv_iconst (v := (-1)) hx hb dX5_hasRing_45 (by decide) ?_
          refine lv_ixor hx hb dX5_hasRing_46 ?_
          refine lv_iand hx hb dX5_hasRing_47 ?_
          refine top_i (y := 0) (and0' _) ?_
          refine lv_istore_n (lv' := [(1, .int 0), (3, .int (nI i7)), (2, .int (nI i2)), (0, .ref gr)]) hx hb dX5_hasRing_48 rfl hl (by decide) rfl (fun ls hl => ?_)
          refine lv_iinc (v := nI (i7 + 1)) (lv' := [(3, .int (nI (i7 + 1))), (1, .int 0), (2, .int (nI i2)), (0, .ref gr)]) hx hb dX5_hasRing_49 hl (k := 1) rfl (nI_inc _) (by decide) rfl (fun ls hl => ?_)
          refine lv_goto (tgt := 18) hx hb dX5_hasRing_52 (by decide) ?_
          exact ih (i7 + 1) (by omega)  ls (lv_sub hl [0, 2, 1, 3] rfl)
      exact LP8 (10 - 0) 0 (by omega)  ls (lv_sub hl [0, 1, 2, 3] rfl)
  exact LP3 (10 - 0) 0 (by omega)  ls (lv_sub hl [0, 1, 2] rfl)
theorem dX5_centres_0 : decode cX5_centres 0 = .ok (.iconst 0, 1) := by decide +kernel
theorem dX5_centres_1 : decode cX5_centres 1 = .ok (.istore_n 1, 1) := by decide +kernel
theorem dX5_centres_2 : decode cX5_centres 2 = .ok (.iconst 0, 1) := by decide +kernel
theorem dX5_centres_3 : decode cX5_centres 3 = .ok (.istore_n 2, 1) := by decide +kernel
theorem dX5_centres_4 : decode cX5_centres 4 = .ok (.iload_n 2, 1) := by decide +kernel
theorem dX5_centres_5 : decode cX5_centres 5 = .ok (.aload_n 0, 1) := by decide +kernel
theorem dX5_centres_6 : decode cX5_centres 6 = .ok (.getfield 9, 3) := by decide +kernel
theorem q_179 : Cond.fieldLink RX5 30 RX10 "size" "I" ∈ lw_g := mem_q 179 (by decide +kernel) rfl
theorem dX5_centres_9 : decode cX5_centres 9 = .ok (.getfield 30, 3) := by decide +kernel
theorem dX5_centres_12 : decode cX5_centres 12 = .ok (.if_icmp .ge 36, 3) := by decide +kernel
theorem dX5_centres_48 : decode cX5_centres 48 = .ok (.iload_n 1, 1) := by decide +kernel
theorem dX5_centres_49 : decode cX5_centres 49 = .ok (.ireturn, 1) := by decide +kernel
set_option maxHeartbeats 4000000 in
set_option maxRecDepth 100000 in
theorem cG_centres (l : Launch) (J : va_J9) (gr : Nat) (w : Nat) (t : Nat) (we : Nat) (jo : Nat) (la : Nat) : RC l J yX5_centres cX5_centres 3 (some .int) ({ frames := 0, cells := 0, slots := 0, locals := 0 }) [.ref gr] [(gr, .inr (5, [.ref w])), (w, .inr (10, [.ref t, .ref we, .ref jo, .ref la, .int 0, .int 0, .int 0, .int 0, .int 1, .int 0, .int 0]))] (vp_Si (fun r => r = 0)) := by
  refine rc_of (by decide) (Nat.le_of_ble_eq_true rfl) ?_
  intro p e s m below meth c ls hE hl hP hK
  obtain ⟨hx, hb, hr, hml, hown, hts, hlk, hin⟩ := hE
  have hown : s.vm.findClass RX5 = some m.cls := hown
  have hl : lv_has ls 3 [(0, .ref gr)] := hl
  refine lv_iconst (v := 0) hx hb dX5_centres_0 (by decide) ?_
  refine lv_istore_n (lv' := [(1, .int 0), (0, .ref gr)]) hx hb dX5_centres_1 rfl hl (by decide) rfl (fun ls hl => ?_)
  refine lv_iconst (v := 0) hx hb dX5_centres_2 (by decide) ?_
  refine lv_istore_n (lv' := [(2, .int 0), (1, .int 0), (0, .ref gr)]) hx hb dX5_centres_3 rfl hl (by decide) rfl (fun ls hl => ?_)
  refine lv_iload_n hx hb dX5_centres_4 rfl (lv_at hl 0 rfl) ?_
  refine lv_aload_n hx hb dX5_centres_5 rfl (lv_at hl 2 rfl) ?_
  refine va_get (D := J.1) (ci := 5) (v := .ref w) (C := RX5) (T := TX5) (N := 1) hx hb hts inX5 hown hK.1 hP 0 rfl rfl 0 (by decide) (hts _ q_305) (fun _ h9 => h9) rfl dX5_centres_6 ?_
  refine va_get (D := J.1) (ci := 10) (v := .int 0) (C := RX10) (T := TX10) (N := 11) hx hb hts inX10 hown hK.1 hP 1 rfl rfl 6 (by decide) (hts _ q_179) (fun _ h9 => h9) rfl dX5_centres_9 ?_
  refine lv_icmp_ge (tgt := 48) hx hb dX5_centres_12 (by decide) (fun _ => ?_) (fun c => absurd c (by decide))
  refine lv_iload_n hx hb dX5_centres_48 rfl (lv_at hl 1 rfl) ?_
  exact rz_i hx hb hr hlk (by decide) dX5_centres_49
theorem dX5_everWithout_0 : decode cX5_everWithout 0 = .ok (.aload_n 0, 1) := by decide +kernel
theorem dX5_everWithout_1 : decode cX5_everWithout 1 = .ok (.getfield 9, 3) := by decide +kernel
theorem dX5_everWithout_4 : decode cX5_everWithout 4 = .ok (.invokevirtual 15, 3) := by decide +kernel
theorem dX5_everWithout_7 : decode cX5_everWithout 7 = .ok (.iload_n 1, 1) := by decide +kernel
theorem dX5_everWithout_8 : decode cX5_everWithout 8 = .ok (.iconst (-1), 1) := by decide +kernel
theorem dX5_everWithout_9 : decode cX5_everWithout 9 = .ok (.ixor, 1) := by decide +kernel
theorem dX5_everWithout_10 : decode cX5_everWithout 10 = .ok (.iand, 1) := by decide +kernel
theorem dX5_everWithout_11 : decode cX5_everWithout 11 = .ok (.istore_n 2, 1) := by decide +kernel
theorem dX5_everWithout_12 : decode cX5_everWithout 12 = .ok (.iconst 0, 1) := by decide +kernel
theorem dX5_everWithout_13 : decode cX5_everWithout 13 = .ok (.istore_n 3, 1) := by decide +kernel
theorem dX5_everWithout_14 : decode cX5_everWithout 14 = .ok (.iload_n 3, 1) := by decide +kernel
theorem dX5_everWithout_15 : decode cX5_everWithout 15 = .ok (.bipush 10, 2) := by decide +kernel
theorem dX5_everWithout_17 : decode cX5_everWithout 17 = .ok (.if_icmp .ge 19, 3) := by decide +kernel
theorem dX5_everWithout_20 : decode cX5_everWithout 20 = .ok (.aload_n 0, 1) := by decide +kernel
theorem dX5_everWithout_21 : decode cX5_everWithout 21 = .ok (.getfield 9, 3) := by decide +kernel
theorem dX5_everWithout_24 : decode cX5_everWithout 24 = .ok (.iload_n 2, 1) := by decide +kernel
theorem dX5_everWithout_25 : decode cX5_everWithout 25 = .ok (.iload_n 2, 1) := by decide +kernel
theorem q_943 : Cond.methodLink RX5 45 yX10_leadingInto ∈ lw_g := mem_q 943 (by decide +kernel) rfl
theorem q_808 : Cond.instanceMethod yX10_leadingInto ∈ lw_g := mem_q 808 (by decide +kernel) rfl
theorem q_809 : Cond.selects RX10 yX10_leadingInto yX10_leadingInto ∈ lw_g := mem_q 809 (by decide +kernel) rfl
theorem q_810 : Cond.code yX10_leadingInto cX10_leadingInto 5 (some .int) ∈ lw_g := mem_q 810 (by decide +kernel) rfl
theorem kV_RX5_45 : CV RX5 45 RX10 yX10_leadingInto cX10_leadingInto 5 (some .int) 2 := cv_of q_943 q_808 q_809 q_105 q_810 (by decide +kernel)
theorem dX5_everWithout_26 : decode cX5_everWithout 26 = .ok (.invokevirtual 45, 3) := by decide +kernel
theorem dX5_everWithout_29 : decode cX5_everWithout 29 = .ok (.istore_n 2, 1) := by decide +kernel
theorem dX5_everWithout_30 : decode cX5_everWithout 30 = .ok (.iinc 3 1, 3) := by decide +kernel
theorem dX5_everWithout_33 : decode cX5_everWithout 33 = .ok (.goto (-19), 3) := by decide +kernel
theorem dX5_everWithout_36 : decode cX5_everWithout 36 = .ok (.iload_n 2, 1) := by decide +kernel
theorem dX5_everWithout_37 : decode cX5_everWithout 37 = .ok (.ireturn, 1) := by decide +kernel
set_option maxHeartbeats 4000000 in
set_option maxRecDepth 100000 in
theorem cG_ever (l : Launch) (J : va_J9) (gr : Nat) (w : Nat) (t : Nat) (we : Nat) (jo : Nat) (la : Nat) (x : Int32) : RC l J yX5_everWithout cX5_everWithout 4 (some .int) ({ frames := 1, cells := 0, slots := 0, locals := 24 }) [.ref gr, .int x] [(gr, .inr (5, [.ref w])), (w, .inr (10, [.ref t, .ref we, .ref jo, .ref la, .int 0, .int 0, .int 0, .int 0, .int 1, .int 0, .int 0]))] (vp_Si (fun r => r = 0)) := by
  refine rc_of (by decide) (Nat.le_of_ble_eq_true rfl) ?_
  intro p e s m below meth c ls hE hl hP hK
  obtain ⟨hx, hb, hr, hml, hown, hts, hlk, hin⟩ := hE
  have hown : s.vm.findClass RX5 = some m.cls := hown
  have hl : lv_has ls 4 [(0, .ref gr), (1, .int x)] := hl
  have rg_x := i_rng x
  refine lv_aload_n hx hb dX5_everWithout_0 rfl (lv_at hl 0 rfl) ?_
  refine va_get (D := J.1) (ci := 5) (v := .ref w) (C := RX5) (T := TX5) (N := 1) hx hb hts inX5 hown hK.1 hP 0 rfl rfl 0 (by decide) (hts _ q_305) (fun _ h9 => h9) rfl dX5_everWithout_1 ?_
  refine go_i (rn_V (As := []) (rest := []) hx hb hml hown hts hK (cW_openOnes l J w t we jo la) kV_RX5_15 (hP.sub (ws' := [(w, .inr (10, [.ref t, .ref we, .ref jo, .ref la, .int 0, .int 0, .int 0, .int 0, .int 1, .int 0, .int 0]))]) [1] rfl) rfl rfl rfl ⟨Nat.le_of_ble_eq_true rfl, Nat.le_of_ble_eq_true rfl⟩ rfl rfl rfl hl.1 rfl (Nat.le_of_ble_eq_true rfl) ⟨Nat.le_of_ble_eq_true rfl, Nat.le_of_ble_eq_true rfl⟩ dX5_everWithout_4) ?_
  refine lv_iload_n hx hb dX5_everWithout_7 rfl (lv_at hl 1 rfl) ?_
  refine lv_iconst (v := (-1)) hx hb dX5_everWithout_8 (by decide) ?_
  refine lv_ixor hx hb dX5_everWithout_9 ?_
  refine lv_iand hx hb dX5_everWithout_10 ?_
  refine top_i (y := 0) (and0' _) ?_
  refine lv_istore_n (lv' := [(2, .int 0), (0, .ref gr), (1, .int x)]) hx hb dX5_everWithout_11 rfl hl (by decide) rfl (fun ls hl => ?_)
  refine lv_iconst (v := 0) hx hb dX5_everWithout_12 (by decide) ?_
  refine lv_istore_n (lv' := [(3, .int 0), (2, .int 0), (0, .ref gr), (1, .int x)]) hx hb dX5_everWithout_13 rfl hl (by decide) rfl (fun ls hl => ?_)
  refine lv_iload_n hx hb dX5_everWithout_14 rfl (lv_at hl 0 rfl) ?_
  refine lv_bipush (v := 10) hx hb dX5_everWithout_15 (by decide) ?_
  refine lv_icmp_ge (tgt := 36) hx hb dX5_everWithout_17 (by decide) (fun c => absurd c (by decide)) (fun _ => ?_)
  refine lv_aload_n hx hb dX5_everWithout_20 rfl (lv_at hl 2 rfl) ?_
  refine va_get (D := J.1) (ci := 5) (v := .ref w) (C := RX5) (T := TX5) (N := 1) hx hb hts inX5 hown hK.1 hP 0 rfl rfl 0 (by decide) (hts _ q_305) (fun _ h9 => h9) rfl dX5_everWithout_21 ?_
  refine lv_iload_n hx hb dX5_everWithout_24 rfl (lv_at hl 1 rfl) ?_
  refine lv_iload_n hx hb dX5_everWithout_25 rfl (lv_at hl 1 rfl) ?_
  refine go_i (rn_V (As := [.int 0, .int 0]) (rest := []) hx hb hml hown hts hK (cW_leadingInto l J w t we jo la 0 0) kV_RX5_45 (hP.sub (ws' := [(w, .inr (10, [.ref t, .ref we, .ref jo, .ref la, .int 0, .int 0, .int 0, .int 0, .int 1, .int 0, .int 0]))]) [1] rfl) rfl rfl rfl ⟨Nat.le_of_ble_eq_true rfl, Nat.le_of_ble_eq_true rfl⟩ rfl rfl rfl hl.1 rfl (Nat.le_of_ble_eq_true rfl) ⟨Nat.le_of_ble_eq_true rfl, Nat.le_of_ble_eq_true rfl⟩ dX5_everWithout_26) ?_
  refine lv_istore_n (lv' := [(2, .int 0), (3, .int 0), (0, .ref gr), (1, .int x)]) hx hb dX5_everWithout_29 rfl hl (by decide) rfl (fun ls hl => ?_)
  refine lv_iinc (v := 1) (lv' := [(3, .int 1), (2, .int 0), (0, .ref gr), (1, .int x)]) hx hb dX5_everWithout_30 hl (k := 1) rfl (by decide) (by decide) rfl (fun ls hl => ?_)
  refine lv_goto (tgt := 14) hx hb dX5_everWithout_33 (by decide) ?_
  refine lv_iload_n hx hb dX5_everWithout_14 rfl (lv_at hl 0 rfl) ?_
  refine lv_bipush (v := 10) hx hb dX5_everWithout_15 (by decide) ?_
  refine lv_icmp_ge (tgt := 36) hx hb dX5_everWithout_17 (by decide) (fun c => absurd c (by decide)) (fun _ => ?_)
  refine lv_aload_n hx hb dX5_everWithout_20 rfl (lv_at hl 2 rfl) ?_
  refine va_get (D := J.1) (ci := 5) (v := .ref w) (C := RX5) (T := TX5) (N := 1) hx hb hts inX5 hown hK.1 hP 0 rfl rfl 0 (by decide) (hts _ q_305) (fun _ h9 => h9) rfl dX5_everWithout_21 ?_
  refine lv_iload_n hx hb dX5_everWithout_24 rfl (lv_at hl 1 rfl) ?_
  refine lv_iload_n hx hb dX5_everWithout_25 rfl (lv_at hl 1 rfl) ?_
  refine go_i (rn_V (As := [.int 0, .int 0]) (rest := []) hx hb hml hown hts hK (cW_leadingInto l J w t we jo la 0 0) kV_RX5_45 (hP.sub (ws' := [(w, .inr (10, [.ref t, .ref we, .ref jo, .ref la, .int 0, .int 0, .int 0, .int 0, .int 1, .int 0, .int 0]))]) [1] rfl) rfl rfl rfl ⟨Nat.le_of_ble_eq_true rfl, Nat.le_of_ble_eq_true rfl⟩ rfl rfl rfl hl.1 rfl (Nat.le_of_ble_eq_true rfl) ⟨Nat.le_of_ble_eq_true rfl, Nat.le_of_ble_eq_true rfl⟩ dX5_everWithout_26) ?_
  refine lv_istore_n (lv' := [(2, .int 0), (3, .int 1), (0, .ref gr), (1, .int x)]) hx hb dX5_everWithout_29 rfl hl (by decide) rfl (fun ls hl => ?_)
  refine lv_iinc (v := 2) (lv' := [(3, .int 2), (2, .int 0), (0, .ref gr), (1, .int x)]) hx hb dX5_everWithout_30 hl (k := 1) rfl (by decide) (by decide) rfl (fun ls hl => ?_)
  refine lv_goto (tgt := 14) hx hb dX5_everWithout_33 (by decide) ?_
  refine lv_iload_n hx hb dX5_everWithout_14 rfl (lv_at hl 0 rfl) ?_
  refine lv_bipush (v := 10) hx hb dX5_everWithout_15 (by decide) ?_
  refine lv_icmp_ge (tgt := 36) hx hb dX5_everWithout_17 (by decide) (fun c => absurd c (by decide)) (fun _ => ?_)
  refine lv_aload_n hx hb dX5_everWithout_20 rfl (lv_at hl 2 rfl) ?_
  refine va_get (D := J.1) (ci := 5) (v := .ref w) (C := RX5) (T := TX5) (N := 1) hx hb hts inX5 hown hK.1 hP 0 rfl rfl 0 (by decide) (hts _ q_305) (fun _ h9 => h9) rfl dX5_everWithout_21 ?_
  refine lv_iload_n hx hb dX5_everWithout_24 rfl (lv_at hl 1 rfl) ?_
  refine lv_iload_n hx hb dX5_everWithout_25 rfl (lv_at hl 1 rfl) ?_
  refine go_i (rn_V (As := [.int 0, .int 0]) (rest := []) hx hb hml hown hts hK (cW_leadingInto l J w t we jo la 0 0) kV_RX5_45 (hP.sub (ws' := [(w, .inr (10, [.ref t, .ref we, .ref jo, .ref la, .int 0, .int 0, .int 0, .int 0, .int 1, .int 0, .int 0]))]) [1] rfl) rfl rfl rfl ⟨Nat.le_of_ble_eq_true rfl, Nat.le_of_ble_eq_true rfl⟩ rfl rfl rfl hl.1 rfl (Nat.le_of_ble_eq_true rfl) ⟨Nat.le_of_ble_eq_true rfl, Nat.le_of_ble_eq_true rfl⟩ dX5_everWithout_26) ?_
  refine lv_istore_n (lv' := [(2, .int 0), (3, .int 2), (0, .ref gr), (1, .int x)]) hx hb dX5_everWithout_29 rfl hl (by decide) rfl (fun ls hl => ?_)
  refine lv_iinc (v := 3) (lv' := [(3, .int 3), (2, .int 0), (0, .ref gr), (1, .int x)]) hx hb dX5_everWithout_30 hl (k := 1) rfl (by decide) (by decide) rfl (fun ls hl => ?_)
  refine lv_goto (tgt := 14) hx hb dX5_everWithout_33 (by decide) ?_
  refine lv_iload_n hx hb dX5_everWithout_14 rfl (lv_at hl 0 rfl) ?_
  refine lv_bipush (v := 10) hx hb dX5_everWithout_15 (by decide) ?_
  refine lv_icmp_ge (tgt := 36) hx hb dX5_everWithout_17 (by decide) (fun c => absurd c (by decide)) (fun _ => ?_)
  refine lv_aload_n hx hb dX5_everWithout_20 rfl (lv_at hl 2 rfl) ?_
  refine va_get (D := J.1) (ci := 5) (v := .ref w) (C := RX5) (T := TX5) (N := 1) hx hb hts inX5 hown hK.1 hP 0 rfl rfl 0 (by decide) (hts _ q_305) (fun _ h9 => h9) rfl dX5_everWithout_21 ?_
  refine lv_iload_n hx hb dX5_everWithout_24 rfl (lv_at hl 1 rfl) ?_
  refine lv_iload_n hx hb dX5_everWithout_25 rfl (lv_at hl 1 rfl) ?_
  refine go_i (rn_V (As := [.int 0, .int 0]) (rest := []) hx hb hml hown hts hK (cW_leadingInto l J w t we jo la 0 0) kV_RX5_45 (hP.sub (ws' := [(w, .inr (10, [.ref t, .ref we, .ref jo, .ref la, .int 0, .int 0, .int 0, .int 0, .int 1, .int 0, .int 0]))]) [1] rfl) rfl rfl rfl ⟨Nat.le_of_ble_eq_true rfl, Nat.le_of_ble_eq_true rfl⟩ rfl rfl rfl hl.1 rfl (Nat.le_of_ble_eq_true rfl) ⟨Nat.le_of_ble_eq_true rfl, Nat.le_of_ble_eq_true rfl⟩ dX5_everWithout_26) ?_
  refine lv_istore_n (lv' := [(2, .int 0), (3, .int 3), (0, .ref gr), (1, .int x)]) hx hb dX5_everWithout_29 rfl hl (by decide) rfl (fun ls hl => ?_)
  refine lv_iinc (v := 4) (lv' := [(3, .int 4), (2, .int 0), (0, .ref gr), (1, .int x)]) hx hb dX5_everWithout_30 hl (k := 1) rfl (by decide) (by decide) rfl (fun ls hl => ?_)
  refine lv_goto (tgt := 14) hx hb dX5_everWithout_33 (by decide) ?_
  refine lv_iload_n hx hb dX5_everWithout_14 rfl (lv_at hl 0 rfl) ?_
  refine lv_bipush (v := 10) hx hb dX5_everWithout_15 (by decide) ?_
  refine lv_icmp_ge (tgt := 36) hx hb dX5_everWithout_17 (by decide) (fun c => absurd c (by decide)) (fun _ => ?_)
  refine lv_aload_n hx hb dX5_everWithout_20 rfl (lv_at hl 2 rfl) ?_
  refine va_get (D := J.1) (ci := 5) (v := .ref w) (C := RX5) (T := TX5) (N := 1) hx hb hts inX5 hown hK.1 hP 0 rfl rfl 0 (by decide) (hts _ q_305) (fun _ h9 => h9) rfl dX5_everWithout_21 ?_
  refine lv_iload_n hx hb dX5_everWithout_24 rfl (lv_at hl 1 rfl) ?_
  refine lv_iload_n hx hb dX5_everWithout_25 rfl (lv_at hl 1 rfl) ?_
  refine go_i (rn_V (As := [.int 0, .int 0]) (rest := []) hx hb hml hown hts hK (cW_leadingInto l J w t we jo la 0 0) kV_RX5_45 (hP.sub (ws' := [(w, .inr (10, [.ref t, .ref we, .ref jo, .ref la, .int 0, .int 0, .int 0, .int 0, .int 1, .int 0, .int 0]))]) [1] rfl) rfl rfl rfl ⟨Nat.le_of_ble_eq_true rfl, Nat.le_of_ble_eq_true rfl⟩ rfl rfl rfl hl.1 rfl (Nat.le_of_ble_eq_true rfl) ⟨Nat.le_of_ble_eq_true rfl, Nat.le_of_ble_eq_true rfl⟩ dX5_everWithout_26) ?_
  refine lv_istore_n (lv' := [(2, .int 0), (3, .int 4), (0, .ref gr), (1, .int x)]) hx hb dX5_everWithout_29 rfl hl (by decide) rfl (fun ls hl => ?_)
  refine lv_iinc (v := 5) (lv' := [(3, .int 5), (2, .int 0), (0, .ref gr), (1, .int x)]) hx hb dX5_everWithout_30 hl (k := 1) rfl (by decide) (by decide) rfl (fun ls hl => ?_)
  refine lv_goto (tgt := 14) hx hb dX5_everWithout_33 (by decide) ?_
  refine lv_iload_n hx hb dX5_everWithout_14 rfl (lv_at hl 0 rfl) ?_
  refine lv_bipush (v := 10) hx hb dX5_everWithout_15 (by decide) ?_
  refine lv_icmp_ge (tgt := 36) hx hb dX5_everWithout_17 (by decide) (fun c => absurd c (by decide)) (fun _ => ?_)
  refine lv_aload_n hx hb dX5_everWithout_20 rfl (lv_at hl 2 rfl) ?_
  refine va_get (D := J.1) (ci := 5) (v := .ref w) (C := RX5) (T := TX5) (N := 1) hx hb hts inX5 hown hK.1 hP 0 rfl rfl 0 (by decide) (hts _ q_305) (fun _ h9 => h9) rfl dX5_everWithout_21 ?_
  refine lv_iload_n hx hb dX5_everWithout_24 rfl (lv_at hl 1 rfl) ?_
  refine lv_iload_n hx hb dX5_everWithout_25 rfl (lv_at hl 1 rfl) ?_
  refine go_i (rn_V (As := [.int 0, .int 0]) (rest := []) hx hb hml hown hts hK (cW_leadingInto l J w t we jo la 0 0) kV_RX5_45 (hP.sub (ws' := [(w, .inr (10, [.ref t, .ref we, .ref jo, .ref la, .int 0, .int 0, .int 0, .int 0, .int 1, .int 0, .int 0]))]) [1] rfl) rfl rfl rfl ⟨Nat.le_of_ble_eq_true rfl, Nat.le_of_ble_eq_true rfl⟩ rfl rfl rfl hl.1 rfl (Nat.le_of_ble_eq_true rfl) ⟨Nat.le_of_ble_eq_true rfl, Nat.le_of_ble_eq_true rfl⟩ dX5_everWithout_26) ?_
  refine lv_istore_n (lv' := [(2, .int 0), (3, .int 5), (0, .ref gr), (1, .int x)]) hx hb dX5_everWithout_29 rfl hl (by decide) rfl (fun ls hl => ?_)
  refine lv_iinc (v := 6) (lv' := [(3, .int 6), (2, .int 0), (0, .ref gr), (1, .int x)]) hx hb dX5_everWithout_30 hl (k := 1) rfl (by decide) (by decide) rfl (fun ls hl => ?_)
  refine lv_goto (tgt := 14) hx hb dX5_everWithout_33 (by decide) ?_
  refine lv_iload_n hx hb dX5_everWithout_14 rfl (lv_at hl 0 rfl) ?_
  refine lv_bipush (v := 10) hx hb dX5_everWithout_15 (by decide) ?_
  refine lv_icmp_ge (tgt := 36) hx hb dX5_everWithout_17 (by decide) (fun c => absurd c (by decide)) (fun _ => ?_)
  refine lv_aload_n hx hb dX5_everWithout_20 rfl (lv_at hl 2 rfl) ?_
  refine va_get (D := J.1) (ci := 5) (v := .ref w) (C := RX5) (T := TX5) (N := 1) hx hb hts inX5 hown hK.1 hP 0 rfl rfl 0 (by decide) (hts _ q_305) (fun _ h9 => h9) rfl dX5_everWithout_21 ?_
  refine lv_iload_n hx hb dX5_everWithout_24 rfl (lv_at hl 1 rfl) ?_
  refine lv_iload_n hx hb dX5_everWithout_25 rfl (lv_at hl 1 rfl) ?_
  refine go_i (rn_V (As := [.int 0, .int 0]) (rest := []) hx hb hml hown hts hK (cW_leadingInto l J w t we jo la 0 0) kV_RX5_45 (hP.sub (ws' := [(w, .inr (10, [.ref t, .ref we, .ref jo, .ref la, .int 0, .int 0, .int 0, .int 0, .int 1, .int 0, .int 0]))]) [1] rfl) rfl rfl rfl ⟨Nat.le_of_ble_eq_true rfl, Nat.le_of_ble_eq_true rfl⟩ rfl rfl rfl hl.1 rfl (Nat.le_of_ble_eq_true rfl) ⟨Nat.le_of_ble_eq_true rfl, Nat.le_of_ble_eq_true rfl⟩ dX5_everWithout_26) ?_
  refine lv_istore_n (lv' := [(2, .int 0), (3, .int 6), (0, .ref gr), (1, .int x)]) hx hb dX5_everWithout_29 rfl hl (by decide) rfl (fun ls hl => ?_)
  refine lv_iinc (v := 7) (lv' := [(3, .int 7), (2, .int 0), (0, .ref gr), (1, .int x)]) hx hb dX5_everWithout_30 hl (k := 1) rfl (by decide) (by decide) rfl (fun ls hl => ?_)
  refine lv_goto (tgt := 14) hx hb dX5_everWithout_33 (by decide) ?_
  refine lv_iload_n hx hb dX5_everWithout_14 rfl (lv_at hl 0 rfl) ?_
  refine lv_bipush (v := 10) hx hb dX5_everWithout_15 (by decide) ?_
  refine lv_icmp_ge (tgt := 36) hx hb dX5_everWithout_17 (by decide) (fun c => absurd c (by decide)) (fun _ => ?_)
  refine lv_aload_n hx hb dX5_everWithout_20 rfl (lv_at hl 2 rfl) ?_
  refine va_get (D := J.1) (ci := 5) (v := .ref w) (C := RX5) (T := TX5) (N := 1) hx hb hts inX5 hown hK.1 hP 0 rfl rfl 0 (by decide) (hts _ q_305) (fun _ h9 => h9) rfl dX5_everWithout_21 ?_
  refine lv_iload_n hx hb dX5_everWithout_24 rfl (lv_at hl 1 rfl) ?_
  refine lv_iload_n hx hb dX5_everWithout_25 rfl (lv_at hl 1 rfl) ?_
  refine go_i (rn_V (As := [.int 0, .int 0]) (rest := []) hx hb hml hown hts hK (cW_leadingInto l J w t we jo la 0 0) kV_RX5_45 (hP.sub (ws' := [(w, .inr (10, [.ref t, .ref we, .ref jo, .ref la, .int 0, .int 0, .int 0, .int 0, .int 1, .int 0, .int 0]))]) [1] rfl) rfl rfl rfl ⟨Nat.le_of_ble_eq_true rfl, Nat.le_of_ble_eq_true rfl⟩ rfl rfl rfl hl.1 rfl (Nat.le_of_ble_eq_true rfl) ⟨Nat.le_of_ble_eq_true rfl, Nat.le_of_ble_eq_true rfl⟩ dX5_everWithout_26) ?_
  refine lv_istore_n (lv' := [(2, .int 0), (3, .int 7), (0, .ref gr), (1, .int x)]) hx hb dX5_everWithout_29 rfl hl (by decide) rfl (fun ls hl => ?_)
  refine lv_iinc (v := 8) (lv' := [(3, .int 8), (2, .int 0), (0, .ref gr), (1, .int x)]) hx hb dX5_everWithout_30 hl (k := 1) rfl (by decide) (by decide) rfl (fun ls hl => ?_)
  refine lv_goto (tgt := 14) hx hb dX5_everWithout_33 (by decide) ?_
  refine lv_iload_n hx hb dX5_everWithout_14 rfl (lv_at hl 0 rfl) ?_
  refine lv_bipush (v := 10) hx hb dX5_everWithout_15 (by decide) ?_
  refine lv_icmp_ge (tgt := 36) hx hb dX5_everWithout_17 (by decide) (fun c => absurd c (by decide)) (fun _ => ?_)
  refine lv_aload_n hx hb dX5_everWithout_20 rfl (lv_at hl 2 rfl) ?_
  refine va_get (D := J.1) (ci := 5) (v := .ref w) (C := RX5) (T := TX5) (N := 1) hx hb hts inX5 hown hK.1 hP 0 rfl rfl 0 (by decide) (hts _ q_305) (fun _ h9 => h9) rfl dX5_everWithout_21 ?_
  refine lv_iload_n hx hb dX5_everWithout_24 rfl (lv_at hl 1 rfl) ?_
  refine lv_iload_n hx hb dX5_everWithout_25 rfl (lv_at hl 1 rfl) ?_
  refine go_i (rn_V (As := [.int 0, .int 0]) (rest := []) hx hb hml hown hts hK (cW_leadingInto l J w t we jo la 0 0) kV_RX5_45 (hP.sub (ws' := [(w, .inr (10, [.ref t, .ref we, .ref jo, .ref la, .int 0, .int 0, .int 0, .int 0, .int 1, .int 0, .int 0]))]) [1] rfl) rfl rfl rfl ⟨Nat.le_of_ble_eq_true rfl, Nat.le_of_ble_eq_true rfl⟩ rfl rfl rfl hl.1 rfl (Nat.le_of_ble_eq_true rfl) ⟨Nat.le_of_ble_eq_true rfl, Nat.le_of_ble_eq_true rfl⟩ dX5_everWithout_26) ?_
  refine lv_istore_n (lv' := [(2, .int 0), (3, .int 8), (0, .ref gr), (1, .int x)]) hx hb dX5_everWithout_29 rfl hl (by decide) rfl (fun ls hl => ?_)
  refine lv_iinc (v := 9) (lv' := [(3, .int 9), (2, .int 0), (0, .ref gr), (1, .int x)]) hx hb dX5_everWithout_30 hl (k := 1) rfl (by decide) (by decide) rfl (fun ls hl => ?_)
  refine lv_goto (tgt := 14) hx hb dX5_everWithout_33 (by decide) ?_
  refine lv_iload_n hx hb dX5_everWithout_14 rfl (lv_at hl 0 rfl) ?_
  refine lv_bipush (v := 10) hx hb dX5_everWithout_15 (by decide) ?_
  refine lv_icmp_ge (tgt := 36) hx hb dX5_everWithout_17 (by decide) (fun c => absurd c (by decide)) (fun _ => ?_)
  refine lv_aload_n hx hb dX5_everWithout_20 rfl (lv_at hl 2 rfl) ?_
  refine va_get (D := J.1) (ci := 5) (v := .ref w) (C := RX5) (T := TX5) (N := 1) hx hb hts inX5 hown hK.1 hP 0 rfl rfl 0 (by decide) (hts _ q_305) (fun _ h9 => h9) rfl dX5_everWithout_21 ?_
  refine lv_iload_n hx hb dX5_everWithout_24 rfl (lv_at hl 1 rfl) ?_
  refine lv_iload_n hx hb dX5_everWithout_25 rfl (lv_at hl 1 rfl) ?_
  refine go_i (rn_V (As := [.int 0, .int 0]) (rest := []) hx hb hml hown hts hK (cW_leadingInto l J w t we jo la 0 0) kV_RX5_45 (hP.sub (ws' := [(w, .inr (10, [.ref t, .ref we, .ref jo, .ref la, .int 0, .int 0, .int 0, .int 0, .int 1, .int 0, .int 0]))]) [1] rfl) rfl rfl rfl ⟨Nat.le_of_ble_eq_true rfl, Nat.le_of_ble_eq_true rfl⟩ rfl rfl rfl hl.1 rfl (Nat.le_of_ble_eq_true rfl) ⟨Nat.le_of_ble_eq_true rfl, Nat.le_of_ble_eq_true rfl⟩ dX5_everWithout_26) ?_
  refine lv_istore_n (lv' := [(2, .int 0), (3, .int 9), (0, .ref gr), (1, .int x)]) hx hb dX5_everWithout_29 rfl hl (by decide) rfl (fun ls hl => ?_)
  refine lv_iinc (v := 10) (lv' := [(3, .int 10), (2, .int 0), (0, .ref gr), (1, .int x)]) hx hb dX5_everWithout_30 hl (k := 1) rfl (by decide) (by decide) rfl (fun ls hl => ?_)
  refine lv_goto (tgt := 14) hx hb dX5_everWithout_33 (by decide) ?_
  refine lv_iload_n hx hb dX5_everWithout_14 rfl (lv_at hl 0 rfl) ?_
  refine lv_bipush (v := 10) hx hb dX5_everWithout_15 (by decide) ?_
  refine lv_icmp_ge (tgt := 36) hx hb dX5_everWithout_17 (by decide) (fun _ => ?_) (fun c => absurd c (by decide))
  refine lv_iload_n hx hb dX5_everWithout_36 rfl (lv_at hl 1 rfl) ?_
  exact rz_i hx hb hr hlk (by decide) dX5_everWithout_37
theorem dX6_lowestOf_0 : decode cX6_lowestOf 0 = .ok (.iload_n 0, 1) := by decide +kernel
theorem dX6_lowestOf_1 : decode cX6_lowestOf 1 = .ok (.iload_n 0, 1) := by decide +kernel
theorem dX6_lowestOf_2 : decode cX6_lowestOf 2 = .ok (.ineg, 1) := by decide +kernel
theorem dX6_lowestOf_3 : decode cX6_lowestOf 3 = .ok (.iand, 1) := by decide +kernel
theorem dX6_lowestOf_4 : decode cX6_lowestOf 4 = .ok (.iconst 1, 1) := by decide +kernel
theorem dX6_lowestOf_5 : decode cX6_lowestOf 5 = .ok (.isub, 1) := by decide +kernel
theorem q_835 : Cond.methodLink RX6 78 yJ6_bitCount_0f7a4 ∈ lw_g := mem_q 835 (by decide +kernel) rfl
theorem kS_RX6_78 : CS RX6 78 yJ6_bitCount_0f7a4 cJ6_bitCount_0f7a4 1 (some .int) 1 := cs_of q_835 q_608 q_117 q_609 (by decide +kernel)
theorem dX6_lowestOf_6 : decode cX6_lowestOf 6 = .ok (.invokestatic 78, 3) := by decide +kernel
theorem dX6_lowestOf_9 : decode cX6_lowestOf 9 = .ok (.ireturn, 1) := by decide +kernel
set_option maxHeartbeats 4000000 in
set_option maxRecDepth 100000 in
theorem cH_lowestOf (l : Launch) (J : va_J9) (x : Int32) : RC l J yX6_lowestOf cX6_lowestOf 1 (some .int) ({ frames := 1, cells := 0, slots := 0, locals := 20 }) [.int x] [] (vp_Si (fun _ => True)) := by
  refine rc_of (by decide) (Nat.le_of_ble_eq_true rfl) ?_
  intro p e s m below meth c ls hE hl hP hK
  obtain ⟨hx, hb, hr, hml, hown, hts, hlk, hin⟩ := hE
  have hown : s.vm.findClass RX6 = some m.cls := hown
  have hl : lv_has ls 1 [(0, .int x)] := hl
  have rg_x := i_rng x
  refine lv_iload_n hx hb dX6_lowestOf_0 rfl (lv_at hl 0 rfl) ?_
  refine lv_iload_n hx hb dX6_lowestOf_1 rfl (lv_at hl 0 rfl) ?_
  refine lv_ineg hx hb dX6_lowestOf_2 ?_
  refine lv_iand hx hb dX6_lowestOf_3 ?_
  refine lv_iconst (v := 1) hx hb dX6_lowestOf_4 (by decide) ?_
  refine lv_isub hx hb dX6_lowestOf_5 ?_
  refine vp_callSi (rn_S (As := [.int ((x &&& (-x)) - 1)]) (rest := []) hx hb hml hown hts hK (cJ_bit l J ((x &&& (-x)) - 1)) kS_RX6_78 hP ⟨Nat.le_of_ble_eq_true rfl, Nat.le_of_ble_eq_true rfl⟩ rfl rfl rfl hl.1 rfl (Nat.le_of_ble_eq_true rfl) ⟨Nat.le_of_ble_eq_true rfl, Nat.le_of_ble_eq_true rfl⟩ dX6_lowestOf_6) (fun y1 _ => ?_)
  exact rz_any hx hb hr hlk dX6_lowestOf_9
theorem dX6_nextOf_0 : decode cX6_nextOf 0 = .ok (.aload_n 0, 1) := by decide +kernel
theorem q_271 : Cond.fieldLink RX6 49 RX6 "open" "I" ∈ lw_g := mem_q 271 (by decide +kernel) rfl
theorem dX6_nextOf_1 : decode cX6_nextOf 1 = .ok (.getfield 49, 3) := by decide +kernel
theorem dX6_nextOf_4 : decode cX6_nextOf 4 = .ok (.iload_n 1, 1) := by decide +kernel
theorem dX6_nextOf_5 : decode cX6_nextOf 5 = .ok (.ishr, 1) := by decide +kernel
theorem dX6_nextOf_6 : decode cX6_nextOf 6 = .ok (.iconst 1, 1) := by decide +kernel
theorem dX6_nextOf_7 : decode cX6_nextOf 7 = .ok (.iand, 1) := by decide +kernel
theorem dX6_nextOf_8 : decode cX6_nextOf 8 = .ok (.iconst 1, 1) := by decide +kernel
theorem dX6_nextOf_9 : decode cX6_nextOf 9 = .ok (.if_icmp .ne 19, 3) := by decide +kernel
theorem dX6_nextOf_28 : decode cX6_nextOf 28 = .ok (.iconst 0, 1) := by decide +kernel
theorem dX6_nextOf_29 : decode cX6_nextOf 29 = .ok (.istore_n 2, 1) := by decide +kernel
theorem dX6_nextOf_30 : decode cX6_nextOf 30 = .ok (.iload_n 2, 1) := by decide +kernel
theorem dX6_nextOf_31 : decode cX6_nextOf 31 = .ok (.ifCond .eq 7, 3) := by decide +kernel
theorem dX6_nextOf_38 : decode cX6_nextOf 38 = .ok (.iconst 1, 1) := by decide +kernel
theorem dX6_nextOf_39 : decode cX6_nextOf 39 = .ok (.iload_n 1, 1) := by decide +kernel
theorem dX6_nextOf_40 : decode cX6_nextOf 40 = .ok (.ishl, 1) := by decide +kernel
theorem dX6_nextOf_41 : decode cX6_nextOf 41 = .ok (.ireturn, 1) := by decide +kernel
set_option maxHeartbeats 4000000 in
set_option maxRecDepth 100000 in
theorem cH_nextOf (l : Launch) (J : va_J9) (hu : Nat) (w : Nat) (tr : Nat) (qu : Nat) (lo : Nat) (hi : Nat) (x : Int32) : RC l J yX6_nextOf cX6_nextOf 3 (some .int) ({ frames := 0, cells := 0, slots := 0, locals := 0 }) [.ref hu, .int x] [(hu, .inr (6, [.ref w, .ref tr, .ref qu, .int 0, .ref lo, .ref hi, .int 0, .int 0, .int 0, .int 0, .int (-1)]))] (vp_Si (fun _ => True)) := by
  refine rc_of (by decide) (Nat.le_of_ble_eq_true rfl) ?_
  intro p e s m below meth c ls hE hl hP hK
  obtain ⟨hx, hb, hr, hml, hown, hts, hlk, hin⟩ := hE
  have hown : s.vm.findClass RX6 = some m.cls := hown
  have hl : lv_has ls 3 [(0, .ref hu), (1, .int x)] := hl
  have rg_x := i_rng x
  refine lv_aload_n hx hb dX6_nextOf_0 rfl (lv_at hl 0 rfl) ?_
  refine va_get (D := J.1) (ci := 6) (v := .int 0) (C := RX6) (T := TX6) (N := 11) hx hb hts inX6 hown hK.1 hP 0 rfl rfl 6 (by decide) (hts _ q_271) (fun _ h9 => h9) rfl dX6_nextOf_1 ?_
  refine lv_iload_n hx hb dX6_nextOf_4 rfl (lv_at hl 1 rfl) ?_
  refine lv_ishr hx hb dX6_nextOf_5 ?_
  refine top_i (y := 0) (sh0 _) ?_
  refine lv_iconst (v := 1) hx hb dX6_nextOf_6 (by decide) ?_
  refine lv_iand hx hb dX6_nextOf_7 ?_
  refine top_i (y := 0) (by decide) ?_
  refine lv_iconst (v := 1) hx hb dX6_nextOf_8 (by decide) ?_
  refine lv_icmp_ne (tgt := 28) hx hb dX6_nextOf_9 (by decide) (fun _ => ?_) (fun c => absurd c (by decide))
  refine lv_iconst (v := 0) hx hb dX6_nextOf_28 (by decide) ?_
  refine lv_istore_n (lv' := [(2, .int 0), (0, .ref hu), (1, .int x)]) hx hb dX6_nextOf_29 rfl hl (by decide) rfl (fun ls hl => ?_)
  refine lv_iload_n hx hb dX6_nextOf_30 rfl (lv_at hl 0 rfl) ?_
  refine lv_if_eq (tgt := 38) hx hb dX6_nextOf_31 (by decide) (fun _ => ?_) (fun c => absurd c (by decide))
  refine lv_iconst (v := 1) hx hb dX6_nextOf_38 (by decide) ?_
  refine lv_iload_n hx hb dX6_nextOf_39 rfl (lv_at hl 2 rfl) ?_
  refine lv_ishl hx hb dX6_nextOf_40 ?_
  exact rz_any hx hb hr hlk dX6_nextOf_41
theorem dX6_layOut_0 : decode cX6_layOut 0 = .ok (.aload_n 0, 1) := by decide +kernel
theorem dX6_layOut_1 : decode cX6_layOut 1 = .ok (.iload_n 1, 1) := by decide +kernel
theorem dX6_layOut_2 : decode cX6_layOut 2 = .ok (.putfield 49, 3) := by decide +kernel
theorem dX6_layOut_5 : decode cX6_layOut 5 = .ok (.iconst 1, 1) := by decide +kernel
theorem dX6_layOut_6 : decode cX6_layOut 6 = .ok (.istore_n 2, 1) := by decide +kernel
theorem dX6_layOut_7 : decode cX6_layOut 7 = .ok (.iload_n 2, 1) := by decide +kernel
theorem dX6_layOut_8 : decode cX6_layOut 8 = .ok (.bipush 32, 2) := by decide +kernel
theorem dX6_layOut_10 : decode cX6_layOut 10 = .ok (.if_icmp .ge 60, 3) := by decide +kernel
theorem dX6_layOut_70 : decode cX6_layOut 70 = .ok (.return_, 1) := by decide +kernel
theorem dX6_layOut_13 : decode cX6_layOut 13 = .ok (.iload_n 2, 1) := by decide +kernel
theorem q_832 : Cond.methodLink RX6 93 yX6_lowestOf ∈ lw_g := mem_q 832 (by decide +kernel) rfl
theorem q_833 : Cond.static yX6_lowestOf ∈ lw_g := mem_q 833 (by decide +kernel) rfl
theorem q_108 : Cond.initialized RX6 ∈ lw_g := mem_q 108 (by decide +kernel) rfl
theorem q_834 : Cond.code yX6_lowestOf cX6_lowestOf 1 (some .int) ∈ lw_g := mem_q 834 (by decide +kernel) rfl
theorem kS_RX6_93 : CS RX6 93 yX6_lowestOf cX6_lowestOf 1 (some .int) 1 := cs_of q_832 q_833 q_108 q_834 (by decide +kernel)
theorem dX6_layOut_14 : decode cX6_layOut 14 = .ok (.invokestatic 93, 3) := by decide +kernel
theorem dX6_layOut_17 : decode cX6_layOut 17 = .ok (.istore_n 3, 1) := by decide +kernel
theorem dX6_layOut_18 : decode cX6_layOut 18 = .ok (.aload_n 0, 1) := by decide +kernel
theorem q_269 : Cond.fieldLink RX6 18 RX6 "lowNights" "[I" ∈ lw_g := mem_q 269 (by decide +kernel) rfl
theorem dX6_layOut_19 : decode cX6_layOut 19 = .ok (.getfield 18, 3) := by decide +kernel
theorem dX6_layOut_22 : decode cX6_layOut 22 = .ok (.iload_n 2, 1) := by decide +kernel
theorem dX6_layOut_23 : decode cX6_layOut 23 = .ok (.aload_n 0, 1) := by decide +kernel
theorem dX6_layOut_24 : decode cX6_layOut 24 = .ok (.getfield 18, 3) := by decide +kernel
theorem dX6_layOut_27 : decode cX6_layOut 27 = .ok (.iload_n 2, 1) := by decide +kernel
theorem dX6_layOut_28 : decode cX6_layOut 28 = .ok (.iload_n 2, 1) := by decide +kernel
theorem dX6_layOut_29 : decode cX6_layOut 29 = .ok (.iconst 1, 1) := by decide +kernel
theorem dX6_layOut_30 : decode cX6_layOut 30 = .ok (.isub, 1) := by decide +kernel
theorem dX6_layOut_31 : decode cX6_layOut 31 = .ok (.iand, 1) := by decide +kernel
theorem dX6_layOut_32 : decode cX6_layOut 32 = .ok (.iaload, 1) := by decide +kernel
theorem dX6_layOut_33 : decode cX6_layOut 33 = .ok (.aload_n 0, 1) := by decide +kernel
theorem dX6_layOut_34 : decode cX6_layOut 34 = .ok (.iload_n 3, 1) := by decide +kernel
theorem q_836 : Cond.methodLink RX6 90 yX6_nextOf ∈ lw_g := mem_q 836 (by decide +kernel) rfl
theorem q_838 : Cond.instanceMethod yX6_nextOf ∈ lw_g := mem_q 838 (by decide +kernel) rfl
theorem q_20 : Cond.selects RX6 yX6_nextOf yX6_nextOf ∈ lw_g := mem_q 20 (by decide +kernel) rfl
theorem q_839 : Cond.code yX6_nextOf cX6_nextOf 3 (some .int) ∈ lw_g := mem_q 839 (by decide +kernel) rfl
theorem kV_RX6_90 : CV RX6 90 RX6 yX6_nextOf cX6_nextOf 3 (some .int) 1 := cv_of q_836 q_838 q_20 q_108 q_839 (by decide +kernel)
theorem dX6_layOut_35 : decode cX6_layOut 35 = .ok (.invokevirtual 90, 3) := by decide +kernel
theorem dX6_layOut_38 : decode cX6_layOut 38 = .ok (.ior, 1) := by decide +kernel
theorem dX6_layOut_39 : decode cX6_layOut 39 = .ok (.iastore, 1) := by decide +kernel
theorem dX6_layOut_40 : decode cX6_layOut 40 = .ok (.aload_n 0, 1) := by decide +kernel
theorem q_270 : Cond.fieldLink RX6 21 RX6 "highNights" "[I" ∈ lw_g := mem_q 270 (by decide +kernel) rfl
theorem dX6_layOut_41 : decode cX6_layOut 41 = .ok (.getfield 21, 3) := by decide +kernel
theorem dX6_layOut_44 : decode cX6_layOut 44 = .ok (.iload_n 2, 1) := by decide +kernel
theorem dX6_layOut_45 : decode cX6_layOut 45 = .ok (.aload_n 0, 1) := by decide +kernel
theorem dX6_layOut_46 : decode cX6_layOut 46 = .ok (.getfield 21, 3) := by decide +kernel
theorem dX6_layOut_49 : decode cX6_layOut 49 = .ok (.iload_n 2, 1) := by decide +kernel
theorem dX6_layOut_50 : decode cX6_layOut 50 = .ok (.iload_n 2, 1) := by decide +kernel
theorem dX6_layOut_51 : decode cX6_layOut 51 = .ok (.iconst 1, 1) := by decide +kernel
theorem dX6_layOut_52 : decode cX6_layOut 52 = .ok (.isub, 1) := by decide +kernel
theorem dX6_layOut_53 : decode cX6_layOut 53 = .ok (.iand, 1) := by decide +kernel
theorem dX6_layOut_54 : decode cX6_layOut 54 = .ok (.iaload, 1) := by decide +kernel
theorem dX6_layOut_55 : decode cX6_layOut 55 = .ok (.aload_n 0, 1) := by decide +kernel
theorem dX6_layOut_56 : decode cX6_layOut 56 = .ok (.iload_n 3, 1) := by decide +kernel
theorem dX6_layOut_57 : decode cX6_layOut 57 = .ok (.iconst 5, 1) := by decide +kernel
theorem dX6_layOut_58 : decode cX6_layOut 58 = .ok (.iadd, 1) := by decide +kernel
theorem dX6_layOut_59 : decode cX6_layOut 59 = .ok (.invokevirtual 90, 3) := by decide +kernel
theorem dX6_layOut_62 : decode cX6_layOut 62 = .ok (.ior, 1) := by decide +kernel
theorem dX6_layOut_63 : decode cX6_layOut 63 = .ok (.iastore, 1) := by decide +kernel
theorem dX6_layOut_64 : decode cX6_layOut 64 = .ok (.iinc 2 1, 3) := by decide +kernel
theorem dX6_layOut_67 : decode cX6_layOut 67 = .ok (.goto (-60), 3) := by decide +kernel
set_option maxHeartbeats 4000000 in
set_option maxRecDepth 100000 in
theorem cH_layOut (l : Launch) (J : va_J9) (sz : Nat) (hu : Nat) (w : Nat) (tr : Nat) (qu : Nat) (lo : Nat) (hi : Nat) : WC l J yX6_layOut cX6_layOut 4 none ({ frames := 2, cells := 0, slots := 0, locals := 40 }) [.ref hu, .int 0] [(hu, .inr (6, [.ref w, .ref tr, .ref qu, .int 0, .ref lo, .ref hi, .int 0, .int 0, .int 0, .int 0, .int (-1)])), (lo, .inl (J.2.1, 32, .inl (fun _ => 0))), (hi, .inl (J.2.1, 32, .inl (fun _ => 0)))] sz (Qv J (fun (u : Unit) => True) (fun (_ : Unit) => [(hu, .inr (6, [.ref w, .ref tr, .ref qu, .int 0, .ref lo, .ref hi, .int 0, .int 0, .int 0, .int 0, .int (-1)]))])) 0 0 := by
  refine wc_of (by decide) (Nat.le_of_ble_eq_true rfl) ?_
  intro p e s m below meth c ls A hE hl hP hK hD hS hA
  obtain ⟨hx, hb, hr, hml, hown, hts, hlk, hin⟩ := hE
  have hown : s.vm.findClass RX6 = some m.cls := hown
  have hl : lv_has ls 4 [(0, .ref hu), (1, .int 0)] := hl
  refine lv_aload_n hx hb dX6_layOut_0 rfl (lv_at hl 0 rfl) ?_
  refine lv_iload_n hx hb dX6_layOut_1 rfl (lv_at hl 1 rfl) ?_
  refine va_put (D := J.1) (ci := 6) (v := .int 0) (ty := (.int)) (C := RX6) (T := TX6) (N := 11) hx hb hts inX6 tyX6 tyX6_ok nmX6 hown hK.1 hP hD hS 0 rfl rfl 6 (by decide) (hts _ q_271) (fun _ h9 => h9) rfl (by decide +kernel) rfl rfl (Nat.le_of_ble_eq_true rfl) dX6_layOut_2 (fun H locs hP hD hS => ?_)
  have hP : va_P J.1 cls [(hu, .inr (6, [.ref w, .ref tr, .ref qu, .int 0, .ref lo, .ref hi, .int 0, .int 0, .int 0, .int 0, .int (-1)])), (lo, .inl (J.2.1, 32, .inl (fun _ => 0))), (hi, .inl (J.2.1, 32, .inl (fun _ => 0)))] H := hP
  have hD : va_D A [(hu, .inr (6, [.ref w, .ref tr, .ref qu, .int 0, .ref lo, .ref hi, .int 0, .int 0, .int 0, .int 0, .int (-1)])), (lo, .inl (J.2.1, 32, .inl (fun _ => 0))), (hi, .inl (J.2.1, 32, .inl (fun _ => 0)))] := hD
  refine lv_iconst (v := 1) hx hb dX6_layOut_5 (by decide) ?_
  refine lv_istore_n (lv' := [(2, .int 1), (0, .ref hu), (1, .int 0)]) hx hb dX6_layOut_6 rfl hl (by decide) rfl (fun ls hl => ?_)
  have LP3 : ∀ (k1 i2 : Nat), i2 + k1 = 32 → ∀ (f4 : Nat → Int32) (f5 : Nat → Int32), ∀ (H : Heap) (locs : List Loc) (ls : Array Slot), va_P J.1 cls [(hu, .inr (6, [.ref w, .ref tr, .ref qu, .int 0, .ref lo, .ref hi, .int 0, .int 0, .int 0, .int 0, .int (-1)])), (lo, .inl (J.2.1, 32, .inl f4)), (hi, .inl (J.2.1, 32, .inl f5))] H → va_D A [(hu, .inr (6, [.ref w, .ref tr, .ref qu, .int 0, .ref lo, .ref hi, .int 0, .int 0, .int 0, .int 0, .int (-1)])), (lo, .inl (J.2.1, 32, .inl f4)), (hi, .inl (J.2.1, 32, .inl f5))] → va_S A s.heap H locs → lv_has ls 4 [(2, .int (nI i2)), (0, .ref hu), (1, .int 0)] → W p l e ({ frames := 2, cells := 0, slots := 0, locals := 40 } : Room) s m ([.ref hu, .int 0] : List Value).toArray below meth c H locs 0 0 (MQ below ((Qv J (fun (u : Unit) => True) (fun (_ : Unit) => [(hu, .inr (6, [.ref w, .ref tr, .ref qu, .int 0, .ref lo, .ref hi, .int 0, .int 0, .int 0, .int 0, .int (-1)]))])) A) ([.ref hu, .int 0] : List Value).toArray s 0 0 A) (F0 m 7 ls []) := by
    intro k1
    induction k1 with
    | zero =>
      intro i2 hi2 f4 f5 H locs ls hP hD hS hl
      refine lv_iload_n hx hb dX6_layOut_7 rfl (lv_at hl 0 rfl) ?_
      refine lv_bipush (v := 32) hx hb dX6_layOut_8 (by decide) ?_
      refine lv_icmp_ge (tgt := 70) hx hb dX6_layOut_10 (by decide) (fun _ => ?_) (fun c6 => absurd (show ¬ (32 ≤ ((i2 : Nat) : Int)) from fun h => c6 ((i_le (by decide) (nI_toInt (by omega))).mpr h)) (by omega))
      exact wz_v () hx hb hr hlk trivial (hP.sub (ws' := [(hu, .inr (6, [.ref w, .ref tr, .ref qu, .int 0, .ref lo, .ref hi, .int 0, .int 0, .int 0, .int 0, .int (-1)]))]) [0] rfl) (hD.sub (ws' := [(hu, .inr (6, [.ref w, .ref tr, .ref qu, .int 0, .ref lo, .ref hi, .int 0, .int 0, .int 0, .int 0, .int (-1)]))]) [0] (by decide) rfl) hS dX6_layOut_70
    | succ k1 ih =>
      intro i2 hi2 f4 f5 H locs ls hP hD hS hl
      refine lv_iload_n hx hb dX6_layOut_7 rfl (lv_at hl 0 rfl) ?_
      refine lv_bipush (v := 32) hx hb dX6_layOut_8 (by decide) ?_
      refine lv_icmp_ge (tgt := 70) hx hb dX6_layOut_10 (by decide) (fun c7 => absurd (show 32 ≤ ((i2 : Nat) : Int) from (i_le (by decide) (nI_toInt (by omega))).mp c7) (by omega)) (fun _ => ?_)
      refine lv_iload_n hx hb dX6_layOut_13 rfl (lv_at hl 0 rfl) ?_
      refine vp_callSi (rn_S (As := [.int (nI i2)]) (rest := []) hx hb hml hown hts hK (cH_lowestOf l J (nI i2)) kS_RX6_93 (hP.sub (ws' := []) [] rfl) ⟨Nat.le_of_ble_eq_true rfl, Nat.le_of_ble_eq_true rfl⟩ rfl rfl rfl hl.1 rfl (Nat.le_of_ble_eq_true rfl) ⟨Nat.le_of_ble_eq_true rfl, Nat.le_of_ble_eq_true rfl⟩ dX6_layOut_14) (fun y8 _ => ?_)
      refine lv_istore_n (lv' := [(3, .int y8), (2, .int (nI i2)), (0, .ref hu), (1, .int 0)]) hx hb dX6_layOut_17 rfl hl (by decide) rfl (fun ls hl => ?_)
      refine lv_aload_n hx hb dX6_layOut_18 rfl (lv_at hl 2 rfl) ?_
      refine va_get (D := J.1) (ci := 6) (v := .ref lo) (C := RX6) (T := TX6) (N := 11) hx hb hts inX6 hown hK.1 hP 0 rfl rfl 4 (by decide) (hts _ q_269) (fun _ h9 => h9) rfl dX6_layOut_19 ?_
      refine lv_iload_n hx hb dX6_layOut_22 rfl (lv_at hl 1 rfl) ?_
      refine lv_aload_n hx hb dX6_layOut_23 rfl (lv_at hl 2 rfl) ?_
      refine va_get (D := J.1) (ci := 6) (v := .ref lo) (C := RX6) (T := TX6) (N := 11) hx hb hts inX6 hown hK.1 hP 0 rfl rfl 4 (by decide) (hts _ q_269) (fun _ h9 => h9) rfl dX6_layOut_24 ?_
      refine lv_iload_n hx hb dX6_layOut_27 rfl (lv_at hl 1 rfl) ?_
      refine lv_iload_n hx hb dX6_layOut_28 rfl (lv_at hl 1 rfl) ?_
      refine lv_iconst (v := 1) hx hb dX6_layOut_29 (by decide) ?_
      refine lv_isub hx hb dX6_layOut_30 ?_
      refine lv_iand hx hb dX6_layOut_31 ?_
      have h9 : vp_in ((nI i2) &&& ((nI i2) - 1)) 32 := (lo_in i2 (by omega))
      refine va_iald hx hb hK.1 hP 1 0 rfl rfl h9 dX6_layOut_32 ?_
      refine lv_aload_n hx hb dX6_layOut_33 rfl (lv_at hl 2 rfl) ?_
      refine lv_iload_n hx hb dX6_layOut_34 rfl (lv_at hl 0 rfl) ?_
      refine vp_callSi (rn_V (As := [.int y8]) (rest := [.int (f4 ((nI i2) &&& ((nI i2) - 1)).toNatClampNeg), .int (nI i2), .ref lo]) hx hb hml hown hts hK (cH_nextOf l J hu w tr qu lo hi y8) kV_RX6_90 (hP.sub (ws' := [(hu, .inr (6, [.ref w, .ref tr, .ref qu, .int 0, .ref lo, .ref hi, .int 0, .int 0, .int 0, .int 0, .int (-1)]))]) [0] rfl) rfl rfl rfl ⟨Nat.le_of_ble_eq_true rfl, Nat.le_of_ble_eq_true rfl⟩ rfl rfl rfl hl.1 rfl (Nat.le_of_ble_eq_true rfl) ⟨Nat.le_of_ble_eq_true rfl, Nat.le_of_ble_eq_true rfl⟩ dX6_layOut_35) (fun y10 _ => ?_)
      refine lv_ior hx hb dX6_layOut_38 ?_
      have h11 : vp_in (nI i2) 32 := (i_in (a := ((i2 : Nat) : Int)) (nI_toInt (by omega)) (by omega) (by omega))
      refine va_iast hx hb hK.1 hP hD hS 1 0 rfl rfl h11 dX6_layOut_39 (fun H locs hP hD hS => ?_)
      have hP : va_P J.1 cls [(hu, .inr (6, [.ref w, .ref tr, .ref qu, .int 0, .ref lo, .ref hi, .int 0, .int 0, .int 0, .int 0, .int (-1)])), (lo, .inl (J.2.1, 32, .inl (upd f4 (nI i2).toNatClampNeg ((f4 ((nI i2) &&& ((nI i2) - 1)).toNatClampNeg) ||| y10)))), (hi, .inl (J.2.1, 32, .inl f5))] H := hP
      have hD : va_D A [(hu, .inr (6, [.ref w, .ref tr, .ref qu, .int 0, .ref lo, .ref hi, .int 0, .int 0, .int 0, .int 0, .int (-1)])), (lo, .inl (J.2.1, 32, .inl (upd f4 (nI i2).toNatClampNeg ((f4 ((nI i2) &&& ((nI i2) - 1)).toNatClampNeg) ||| y10)))), (hi, .inl (J.2.1, 32, .inl f5))] := hD
      refine lv_aload_n hx hb dX6_layOut_40 rfl (lv_at hl 2 rfl) ?_
      refine va_get (D := J.1) (ci := 6) (v := .ref hi) (C := RX6) (T := TX6) (N := 11) hx hb hts inX6 hown hK.1 hP 0 rfl rfl 5 (by decide) (hts _ q_270) (fun _ h9 => h9) rfl dX6_layOut_41 ?_
      refine lv_iload_n hx hb dX6_layOut_44 rfl (lv_at hl 1 rfl) ?_
      refine lv_aload_n hx hb dX6_layOut_45 rfl (lv_at hl 2 rfl) ?_
      refine va_get (D := J.1) (ci := 6) (v := .ref hi) (C := RX6) (T := TX6) (N := 11) hx hb hts inX6 hown hK.1 hP 0 rfl rfl 5 (by decide) (hts _ q_270) (fun _ h9 => h9) rfl dX6_layOut_46 ?_
      refine lv_iload_n hx hb dX6_layOut_49 rfl (lv_at hl 1 rfl) ?_
      refine lv_iload_n hx hb dX6_layOut_50 rfl (lv_at hl 1 rfl) ?_
      refine lv_iconst (v := 1) hx hb dX6_layOut_51 (by decide) ?_
      refine lv_isub hx hb dX6_layOut_52 ?_
      refine lv_iand hx hb dX6_layOut_53 ?_
      have h12 : vp_in ((nI i2) &&& ((nI i2) - 1)) 32 := (lo_in i2 (by omega))
      refine va_iald hx hb hK.1 hP 2 0 rfl rfl h12 dX6_layOut_54 ?_
      refine lv_aload_n hx hb dX6_layOut_55 rfl (lv_at hl 2 rfl) ?_
      refine lv_iload_n hx hb dX6_layOut_56 rfl (lv_at hl 0 rfl) ?_
      refine lv_iconst (v := 5) hx hb dX6_layOut_57 (by decide) ?_
      refine lv_iadd hx hb dX6_layOut_58 ?_
      refine vp_callSi (rn_V (As := [.int (y8 + 5)]) (rest := [.int (f5 ((nI i2) &&& ((nI i2) - 1)).toNatClampNeg), .int (nI i2), .ref hi]) hx hb hml hown hts hK (cH_nextOf l J hu w tr qu lo hi (y8 + 5)) kV_RX6_90 (hP.sub (ws' := [(hu, .inr (6, [.ref w, .ref tr, .ref qu, .int 0, .ref lo, .ref hi, .int 0, .int 0, .int 0, .int 0, .int (-1)]))]) [0] rfl) rfl rfl rfl ⟨Nat.le_of_ble_eq_true rfl, Nat.le_of_ble_eq_true rfl⟩ rfl rfl rfl hl.1 rfl (Nat.le_of_ble_eq_true rfl) ⟨Nat.le_of_ble_eq_true rfl, Nat.le_of_ble_eq_true rfl⟩ dX6_layOut_59) (fun y13 _ => ?_)
      refine lv_ior hx hb dX6_layOut_62 ?_
      have h14 : vp_in (nI i2) 32 := (i_in (a := ((i2 : Nat) : Int)) (nI_toInt (by omega)) (by omega) (by omega))
      refine va_iast hx hb hK.1 hP hD hS 2 0 rfl rfl h14 dX6_layOut_63 (fun H locs hP hD hS => ?_)
      have hP : va_P J.1 cls [(hu, .inr (6, [.ref w, .ref tr, .ref qu, .int 0, .ref lo, .ref hi, .int 0, .int 0, .int 0, .int 0, .int (-1)])), (lo, .inl (J.2.1, 32, .inl (upd f4 (nI i2).toNatClampNeg ((f4 ((nI i2) &&& ((nI i2) - 1)).toNatClampNeg) ||| y10)))), (hi, .inl (J.2.1, 32, .inl (upd f5 (nI i2).toNatClampNeg ((f5 ((nI i2) &&& ((nI i2) - 1)).toNatClampNeg) ||| y13))))] H := hP
      have hD : va_D A [(hu, .inr (6, [.ref w, .ref tr, .ref qu, .int 0, .ref lo, .ref hi, .int 0, .int 0, .int 0, .int 0, .int (-1)])), (lo, .inl (J.2.1, 32, .inl (upd f4 (nI i2).toNatClampNeg ((f4 ((nI i2) &&& ((nI i2) - 1)).toNatClampNeg) ||| y10)))), (hi, .inl (J.2.1, 32, .inl (upd f5 (nI i2).toNatClampNeg ((f5 ((nI i2) &&& ((nI i2) - 1)).toNatClampNeg) ||| y13))))] := hD
      refine lv_iinc (v := nI (i2 + 1)) (lv' := [(2, .int (nI (i2 + 1))), (3, .int y8), (0, .ref hu), (1, .int 0)]) hx hb dX6_layOut_64 hl (k := 1) rfl (nI_inc _) (by decide) rfl (fun ls hl => ?_)
      refine lv_goto (tgt := 7) hx hb dX6_layOut_67 (by decide) ?_
      exact ih (i2 + 1) (by omega) (upd f4 (nI i2).toNatClampNeg ((f4 ((nI i2) &&& ((nI i2) - 1)).toNatClampNeg) ||| y10)) (upd f5 (nI i2).toNatClampNeg ((f5 ((nI i2) &&& ((nI i2) - 1)).toNatClampNeg) ||| y13)) _ _ ls hP hD hS (lv_sub hl [0, 2, 3] rfl)
  exact LP3 (32 - 1) 1 (by omega) (fun _ => 0) (fun _ => 0) _ _ ls hP hD hS (lv_sub hl [0, 1, 2] rfl)
theorem dX6_search_0 : decode cX6_search 0 = .ok (.iload_n 1, 1) := by decide +kernel
theorem dX6_search_1 : decode cX6_search 1 = .ok (.ifCond .ne 5, 3) := by decide +kernel
theorem dX6_search_4 : decode cX6_search 4 = .ok (.iconst 0, 1) := by decide +kernel
theorem dX6_search_5 : decode cX6_search 5 = .ok (.ireturn, 1) := by decide +kernel
set_option maxHeartbeats 4000000 in
set_option maxRecDepth 100000 in
theorem cH_search (l : Launch) (J : va_J9) (hu : Nat) (w : Nat) (tr : Nat) (qu : Nat) (lo : Nat) (hi : Nat) (rw : Int32) (fv : Int32) (x : Int32) (y : Int32) : RC l J yX6_search cX6_search 7 (some .int) ({ frames := 0, cells := 0, slots := 0, locals := 0 }) [.ref hu, .int 0, .int x, .int y] [(hu, .inr (6, [.ref w, .ref tr, .ref qu, .int 0, .ref lo, .ref hi, .int 0, .int rw, .int 0, .int 0, .int fv]))] (vp_Si (fun r => r = 0)) := by
  refine rc_of (by decide) (Nat.le_of_ble_eq_true rfl) ?_
  intro p e s m below meth c ls hE hl hP hK
  obtain ⟨hx, hb, hr, hml, hown, hts, hlk, hin⟩ := hE
  have hown : s.vm.findClass RX6 = some m.cls := hown
  have hl : lv_has ls 7 [(0, .ref hu), (1, .int 0), (2, .int x), (3, .int y)] := hl
  have rg_x := i_rng x
  have rg_y := i_rng y
  refine lv_iload_n hx hb dX6_search_0 rfl (lv_at hl 1 rfl) ?_
  refine lv_if_ne (tgt := 6) hx hb dX6_search_1 (by decide) (fun c => absurd c (by decide)) (fun _ => ?_)
  refine lv_iconst (v := 0) hx hb dX6_search_4 (by decide) ?_
  exact rz_i hx hb hr hlk (by decide) dX6_search_5
theorem dX6_mornings_0 : decode cX6_mornings 0 = .ok (.aload_n 0, 1) := by decide +kernel
theorem q_275 : Cond.fieldLink RX6 24 RX6 "foundVersion" "I" ∈ lw_g := mem_q 275 (by decide +kernel) rfl
theorem dX6_mornings_1 : decode cX6_mornings 1 = .ok (.getfield 24, 3) := by decide +kernel
theorem dX6_mornings_4 : decode cX6_mornings 4 = .ok (.aload_n 0, 1) := by decide +kernel
theorem q_265 : Cond.fieldLink RX6 28 RX6 "warren" "LFoxHoles$Warren;" ∈ lw_g := mem_q 265 (by decide +kernel) rfl
theorem dX6_mornings_5 : decode cX6_mornings 5 = .ok (.getfield 28, 3) := by decide +kernel
theorem q_192 : Cond.fieldLink RX6 32 RX10 "version" "I" ∈ lw_g := mem_q 192 (by decide +kernel) rfl
theorem dX6_mornings_8 : decode cX6_mornings 8 = .ok (.getfield 32, 3) := by decide +kernel
theorem dX6_mornings_11 : decode cX6_mornings 11 = .ok (.if_icmp .eq 51, 3) := by decide +kernel
theorem dX6_mornings_14 : decode cX6_mornings 14 = .ok (.aload_n 0, 1) := by decide +kernel
theorem dX6_mornings_15 : decode cX6_mornings 15 = .ok (.aload_n 0, 1) := by decide +kernel
theorem dX6_mornings_16 : decode cX6_mornings 16 = .ok (.getfield 28, 3) := by decide +kernel
theorem q_827 : Cond.methodLink RX6 37 yX10_openOnes ∈ lw_g := mem_q 827 (by decide +kernel) rfl
theorem kV_RX6_37 : CV RX6 37 RX10 yX10_openOnes cX10_openOnes 1 (some .int) 0 := cv_of q_827 q_660 q_661 q_105 q_662 (by decide +kernel)
theorem dX6_mornings_19 : decode cX6_mornings 19 = .ok (.invokevirtual 37, 3) := by decide +kernel
theorem q_828 : Cond.methodLink RX6 41 yX6_layOut ∈ lw_g := mem_q 828 (by decide +kernel) rfl
theorem q_830 : Cond.instanceMethod yX6_layOut ∈ lw_g := mem_q 830 (by decide +kernel) rfl
theorem q_19 : Cond.selects RX6 yX6_layOut yX6_layOut ∈ lw_g := mem_q 19 (by decide +kernel) rfl
theorem q_831 : Cond.code yX6_layOut cX6_layOut 4 none ∈ lw_g := mem_q 831 (by decide +kernel) rfl
theorem kV_RX6_41 : CV RX6 41 RX6 yX6_layOut cX6_layOut 4 none 1 := cv_of q_828 q_830 q_19 q_108 q_831 (by decide +kernel)
theorem dX6_mornings_22 : decode cX6_mornings 22 = .ok (.invokevirtual 41, 3) := by decide +kernel
theorem dX6_mornings_25 : decode cX6_mornings 25 = .ok (.aload_n 0, 1) := by decide +kernel
theorem dX6_mornings_26 : decode cX6_mornings 26 = .ok (.iconst 1, 1) := by decide +kernel
theorem q_272 : Cond.fieldLink RX6 45 RX6 "rowWanted" "Z" ∈ lw_g := mem_q 272 (by decide +kernel) rfl
theorem dX6_mornings_27 : decode cX6_mornings 27 = .ok (.putfield 45, 3) := by decide +kernel
theorem dX6_mornings_30 : decode cX6_mornings 30 = .ok (.aload_n 0, 1) := by decide +kernel
theorem dX6_mornings_31 : decode cX6_mornings 31 = .ok (.aload_n 0, 1) := by decide +kernel
theorem dX6_mornings_32 : decode cX6_mornings 32 = .ok (.aload_n 0, 1) := by decide +kernel
theorem dX6_mornings_33 : decode cX6_mornings 33 = .ok (.getfield 49, 3) := by decide +kernel
theorem dX6_mornings_36 : decode cX6_mornings 36 = .ok (.iconst 0, 1) := by decide +kernel
theorem dX6_mornings_37 : decode cX6_mornings 37 = .ok (.sipush 7168, 3) := by decide +kernel
theorem q_841 : Cond.methodLink RX6 52 yX6_search ∈ lw_g := mem_q 841 (by decide +kernel) rfl
theorem q_843 : Cond.instanceMethod yX6_search ∈ lw_g := mem_q 843 (by decide +kernel) rfl
theorem q_21 : Cond.selects RX6 yX6_search yX6_search ∈ lw_g := mem_q 21 (by decide +kernel) rfl
theorem q_844 : Cond.code yX6_search cX6_search 7 (some .int) ∈ lw_g := mem_q 844 (by decide +kernel) rfl
theorem kV_RX6_52 : CV RX6 52 RX6 yX6_search cX6_search 7 (some .int) 3 := cv_of q_841 q_843 q_21 q_108 q_844 (by decide +kernel)
theorem dX6_mornings_40 : decode cX6_mornings 40 = .ok (.invokevirtual 52, 3) := by decide +kernel
theorem q_274 : Cond.fieldLink RX6 56 RX6 "found" "I" ∈ lw_g := mem_q 274 (by decide +kernel) rfl
theorem dX6_mornings_43 : decode cX6_mornings 43 = .ok (.putfield 56, 3) := by decide +kernel
theorem dX6_mornings_46 : decode cX6_mornings 46 = .ok (.aload_n 0, 1) := by decide +kernel
theorem dX6_mornings_47 : decode cX6_mornings 47 = .ok (.iconst 0, 1) := by decide +kernel
theorem dX6_mornings_48 : decode cX6_mornings 48 = .ok (.putfield 45, 3) := by decide +kernel
theorem dX6_mornings_51 : decode cX6_mornings 51 = .ok (.aload_n 0, 1) := by decide +kernel
theorem dX6_mornings_52 : decode cX6_mornings 52 = .ok (.aload_n 0, 1) := by decide +kernel
theorem dX6_mornings_53 : decode cX6_mornings 53 = .ok (.getfield 28, 3) := by decide +kernel
theorem dX6_mornings_56 : decode cX6_mornings 56 = .ok (.getfield 32, 3) := by decide +kernel
theorem dX6_mornings_59 : decode cX6_mornings 59 = .ok (.putfield 24, 3) := by decide +kernel
theorem dX6_mornings_62 : decode cX6_mornings 62 = .ok (.aload_n 0, 1) := by decide +kernel
theorem dX6_mornings_63 : decode cX6_mornings 63 = .ok (.getfield 56, 3) := by decide +kernel
theorem dX6_mornings_66 : decode cX6_mornings 66 = .ok (.ireturn, 1) := by decide +kernel
set_option maxHeartbeats 4000000 in
set_option maxRecDepth 100000 in
theorem cH_mornings (l : Launch) (J : va_J9) (sz : Nat) (hu : Nat) (w : Nat) (tr : Nat) (qu : Nat) (lo : Nat) (hi : Nat) (t : Nat) (we : Nat) (jo : Nat) (la : Nat) : WC l J yX6_mornings cX6_mornings 1 (some .int) ({ frames := 3, cells := 0, slots := 0, locals := 63 }) [.ref hu] [(hu, .inr (6, [.ref w, .ref tr, .ref qu, .int 0, .ref lo, .ref hi, .int 0, .int 0, .int 0, .int 0, .int (-1)])), (w, .inr (10, [.ref t, .ref we, .ref jo, .ref la, .int 0, .int 0, .int 0, .int 0, .int 1, .int 0, .int 0])), (lo, .inl (J.2.1, 32, .inl (fun _ => 0))), (hi, .inl (J.2.1, 32, .inl (fun _ => 0)))] sz (Qi J (fun (r : Int32) (_ : Unit) => r = 0) (fun (_ : Unit) => [(hu, .inr (6, [.ref w, .ref tr, .ref qu, .int 0, .ref lo, .ref hi, .int 0, .int 0, .int 0, .int 0, .int 0])), (w, .inr (10, [.ref t, .ref we, .ref jo, .ref la, .int 0, .int 0, .int 0, .int 0, .int 1, .int 0, .int 0]))])) 0 0 := by
  refine wc_of (by decide) (Nat.le_of_ble_eq_true rfl) ?_
  intro p e s m below meth c ls A hE hl hP hK hD hS hA
  obtain ⟨hx, hb, hr, hml, hown, hts, hlk, hin⟩ := hE
  have hown : s.vm.findClass RX6 = some m.cls := hown
  have hl : lv_has ls 1 [(0, .ref hu)] := hl
  refine lv_aload_n hx hb dX6_mornings_0 rfl (lv_at hl 0 rfl) ?_
  refine va_get (D := J.1) (ci := 6) (v := .int (-1)) (C := RX6) (T := TX6) (N := 11) hx hb hts inX6 hown hK.1 hP 0 rfl rfl 10 (by decide) (hts _ q_275) (fun _ h9 => h9) rfl dX6_mornings_1 ?_
  refine lv_aload_n hx hb dX6_mornings_4 rfl (lv_at hl 0 rfl) ?_
  refine va_get (D := J.1) (ci := 6) (v := .ref w) (C := RX6) (T := TX6) (N := 11) hx hb hts inX6 hown hK.1 hP 0 rfl rfl 0 (by decide) (hts _ q_265) (fun _ h9 => h9) rfl dX6_mornings_5 ?_
  refine va_get (D := J.1) (ci := 10) (v := .int 0) (C := RX10) (T := TX10) (N := 11) hx hb hts inX10 hown hK.1 hP 1 rfl rfl 10 (by decide) (hts _ q_192) (fun _ h9 => h9) rfl dX6_mornings_8 ?_
  refine lv_icmp_eq (tgt := 62) hx hb dX6_mornings_11 (by decide) (fun c => absurd c (by decide)) (fun _ => ?_)
  refine lv_aload_n hx hb dX6_mornings_14 rfl (lv_at hl 0 rfl) ?_
  refine lv_aload_n hx hb dX6_mornings_15 rfl (lv_at hl 0 rfl) ?_
  refine va_get (D := J.1) (ci := 6) (v := .ref w) (C := RX6) (T := TX6) (N := 11) hx hb hts inX6 hown hK.1 hP 0 rfl rfl 0 (by decide) (hts _ q_265) (fun _ h9 => h9) rfl dX6_mornings_16 ?_
  refine go_i (rn_V (As := []) (rest := [.ref hu]) hx hb hml hown hts hK (cW_openOnes l J w t we jo la) kV_RX6_37 (hP.sub (ws' := [(w, .inr (10, [.ref t, .ref we, .ref jo, .ref la, .int 0, .int 0, .int 0, .int 0, .int 1, .int 0, .int 0]))]) [1] rfl) rfl rfl rfl ⟨Nat.le_of_ble_eq_true rfl, Nat.le_of_ble_eq_true rfl⟩ rfl rfl rfl hl.1 rfl (Nat.le_of_ble_eq_true rfl) ⟨Nat.le_of_ble_eq_true rfl, Nat.le_of_ble_eq_true rfl⟩ dX6_mornings_19) ?_
  refine gw_v (wc := [(hu, .inr (6, [.ref w, .ref tr, .ref qu, .int 0, .ref lo, .ref hi, .int 0, .int 0, .int 0, .int 0, .int (-1)])), (lo, .inl (J.2.1, 32, .inl (fun _ => 0))), (hi, .inl (J.2.1, 32, .inl (fun _ => 0)))]) (wr := [(w, .inr (10, [.ref t, .ref we, .ref jo, .ref la, .int 0, .int 0, .int 0, .int 0, .int 1, .int 0, .int 0]))]) hP hD hS hA [0, 2, 3] [1] rfl rfl (by decide) (by decide) (wn_V (As := [.int 0]) (rest := []) hx hb hml hown hts hK (cH_layOut l J _ hu w tr qu lo hi) kV_RX6_41 (hP.sub (ws' := [(hu, .inr (6, [.ref w, .ref tr, .ref qu, .int 0, .ref lo, .ref hi, .int 0, .int 0, .int 0, .int 0, .int (-1)])), (lo, .inl (J.2.1, 32, .inl (fun _ => 0))), (hi, .inl (J.2.1, 32, .inl (fun _ => 0)))]) [0, 2, 3] rfl) ((hD.sub (ws' := [(hu, .inr (6, [.ref w, .ref tr, .ref qu, .int 0, .ref lo, .ref hi, .int 0, .int 0, .int 0, .int 0, .int (-1)])), (lo, .inl (J.2.1, 32, .inl (fun _ => 0))), (hi, .inl (J.2.1, 32, .inl (fun _ => 0)))]) [0, 2, 3] (by decide) rfl).weaken (fun _ _ _ _ => trivial)) rfl rfl rfl ⟨Nat.le_of_ble_eq_true rfl, Nat.le_of_ble_eq_true rfl⟩ rfl rfl rfl hl.1 rfl (Nat.le_of_ble_eq_true rfl) ⟨Nat.le_of_ble_eq_true rfl, Nat.le_of_ble_eq_true rfl⟩ dX6_mornings_22) (fun u1 H locs hw hP hD hS => ?_)
  have hP : va_P J.1 cls [(w, .inr (10, [.ref t, .ref we, .ref jo, .ref la, .int 0, .int 0, .int 0, .int 0, .int 1, .int 0, .int 0])), (hu, .inr (6, [.ref w, .ref tr, .ref qu, .int 0, .ref lo, .ref hi, .int 0, .int 0, .int 0, .int 0, .int (-1)]))] H := hP
  have hD : va_D A [(w, .inr (10, [.ref t, .ref we, .ref jo, .ref la, .int 0, .int 0, .int 0, .int 0, .int 1, .int 0, .int 0])), (hu, .inr (6, [.ref w, .ref tr, .ref qu, .int 0, .ref lo, .ref hi, .int 0, .int 0, .int 0, .int 0, .int (-1)]))] := hD
  refine W.widen (k := 0) (n := 0) (Nat.le_of_ble_eq_true rfl) (Nat.le_of_ble_eq_true rfl) ?_
  refine lv_aload_n hx hb dX6_mornings_25 rfl (lv_at hl 0 rfl) ?_
  refine lv_iconst (v := 1) hx hb dX6_mornings_26 (by decide) ?_
  refine va_put (D := J.1) (ci := 6) (v := .int 1) (ty := (.boolean)) (C := RX6) (T := TX6) (N := 11) hx hb hts inX6 tyX6 tyX6_ok nmX6 hown hK.1 hP hD hS 1 rfl rfl 7 (by decide) (hts _ q_272) (fun _ h9 => h9) rfl (by decide +kernel) rfl rfl (Nat.le_of_ble_eq_true rfl) dX6_mornings_27 (fun H locs hP hD hS => ?_)
  have hP : va_P J.1 cls [(w, .inr (10, [.ref t, .ref we, .ref jo, .ref la, .int 0, .int 0, .int 0, .int 0, .int 1, .int 0, .int 0])), (hu, .inr (6, [.ref w, .ref tr, .ref qu, .int 0, .ref lo, .ref hi, .int 0, .int 1, .int 0, .int 0, .int (-1)]))] H := hP
  have hD : va_D A [(w, .inr (10, [.ref t, .ref we, .ref jo, .ref la, .int 0, .int 0, .int 0, .int 0, .int 1, .int 0, .int 0])), (hu, .inr (6, [.ref w, .ref tr, .ref qu, .int 0, .ref lo, .ref hi, .int 0, .int 1, .int 0, .int 0, .int (-1)]))] := hD
  refine lv_aload_n hx hb dX6_mornings_30 rfl (lv_at hl 0 rfl) ?_
  refine lv_aload_n hx hb dX6_mornings_31 rfl (lv_at hl 0 rfl) ?_
  refine lv_aload_n hx hb dX6_mornings_32 rfl (lv_at hl 0 rfl) ?_
  refine va_get (D := J.1) (ci := 6) (v := .int 0) (C := RX6) (T := TX6) (N := 11) hx hb hts inX6 hown hK.1 hP 1 rfl rfl 6 (by decide) (hts _ q_271) (fun _ h9 => h9) rfl dX6_mornings_33 ?_
  refine lv_iconst (v := 0) hx hb dX6_mornings_36 (by decide) ?_
  refine lv_sipush (v := 7168) hx hb dX6_mornings_37 (by decide) ?_
  refine go_i (rn_V (As := [.int 0, .int 0, .int 7168]) (rest := [.ref hu]) hx hb hml hown hts hK (cH_search l J hu w tr qu lo hi 1 (-1) 0 7168) kV_RX6_52 (hP.sub (ws' := [(hu, .inr (6, [.ref w, .ref tr, .ref qu, .int 0, .ref lo, .ref hi, .int 0, .int 1, .int 0, .int 0, .int (-1)]))]) [1] rfl) rfl rfl rfl ⟨Nat.le_of_ble_eq_true rfl, Nat.le_of_ble_eq_true rfl⟩ rfl rfl rfl hl.1 rfl (Nat.le_of_ble_eq_true rfl) ⟨Nat.le_of_ble_eq_true rfl, Nat.le_of_ble_eq_true rfl⟩ dX6_mornings_40) ?_
  refine va_put (D := J.1) (ci := 6) (v := .int 0) (ty := (.int)) (C := RX6) (T := TX6) (N := 11) hx hb hts inX6 tyX6 tyX6_ok nmX6 hown hK.1 hP hD hS 1 rfl rfl 9 (by decide) (hts _ q_274) (fun _ h9 => h9) rfl (by decide +kernel) rfl rfl (Nat.le_of_ble_eq_true rfl) dX6_mornings_43 (fun H locs hP hD hS => ?_)
  have hP : va_P J.1 cls [(w, .inr (10, [.ref t, .ref we, .ref jo, .ref la, .int 0, .int 0, .int 0, .int 0, .int 1, .int 0, .int 0])), (hu, .inr (6, [.ref w, .ref tr, .ref qu, .int 0, .ref lo, .ref hi, .int 0, .int 1, .int 0, .int 0, .int (-1)]))] H := hP
  have hD : va_D A [(w, .inr (10, [.ref t, .ref we, .ref jo, .ref la, .int 0, .int 0, .int 0, .int 0, .int 1, .int 0, .int 0])), (hu, .inr (6, [.ref w, .ref tr, .ref qu, .int 0, .ref lo, .ref hi, .int 0, .int 1, .int 0, .int 0, .int (-1)]))] := hD
  refine lv_aload_n hx hb dX6_mornings_46 rfl (lv_at hl 0 rfl) ?_
  refine lv_iconst (v := 0) hx hb dX6_mornings_47 (by decide) ?_
  refine va_put (D := J.1) (ci := 6) (v := .int 0) (ty := (.boolean)) (C := RX6) (T := TX6) (N := 11) hx hb hts inX6 tyX6 tyX6_ok nmX6 hown hK.1 hP hD hS 1 rfl rfl 7 (by decide) (hts _ q_272) (fun _ h9 => h9) rfl (by decide +kernel) rfl rfl (Nat.le_of_ble_eq_true rfl) dX6_mornings_48 (fun H locs hP hD hS => ?_)
  have hP : va_P J.1 cls [(w, .inr (10, [.ref t, .ref we, .ref jo, .ref la, .int 0, .int 0, .int 0, .int 0, .int 1, .int 0, .int 0])), (hu, .inr (6, [.ref w, .ref tr, .ref qu, .int 0, .ref lo, .ref hi, .int 0, .int 0, .int 0, .int 0, .int (-1)]))] H := hP
  have hD : va_D A [(w, .inr (10, [.ref t, .ref we, .ref jo, .ref la, .int 0, .int 0, .int 0, .int 0, .int 1, .int 0, .int 0])), (hu, .inr (6, [.ref w, .ref tr, .ref qu, .int 0, .ref lo, .ref hi, .int 0, .int 0, .int 0, .int 0, .int (-1)]))] := hD
  refine lv_aload_n hx hb dX6_mornings_51 rfl (lv_at hl 0 rfl) ?_
  refine lv_aload_n hx hb dX6_mornings_52 rfl (lv_at hl 0 rfl) ?_
  refine va_get (D := J.1) (ci := 6) (v := .ref w) (C := RX6) (T := TX6) (N := 11) hx hb hts inX6 hown hK.1 hP 1 rfl rfl 0 (by decide) (hts _ q_265) (fun _ h9 => h9) rfl dX6_mornings_53 ?_
  refine va_get (D := J.1) (ci := 10) (v := .int 0) (C := RX10) (T := TX10) (N := 11) hx hb hts inX10 hown hK.1 hP 0 rfl rfl 10 (by decide) (hts _ q_192) (fun _ h9 => h9) rfl dX6_mornings_56 ?_
  refine va_put (D := J.1) (ci := 6) (v := .int 0) (ty := (.int)) (C := RX6) (T := TX6) (N := 11) hx hb hts inX6 tyX6 tyX6_ok nmX6 hown hK.1 hP hD hS 1 rfl rfl 10 (by decide) (hts _ q_275) (fun _ h9 => h9) rfl (by decide +kernel) rfl rfl (Nat.le_of_ble_eq_true rfl) dX6_mornings_59 (fun H locs hP hD hS => ?_)
  have hP : va_P J.1 cls [(w, .inr (10, [.ref t, .ref we, .ref jo, .ref la, .int 0, .int 0, .int 0, .int 0, .int 1, .int 0, .int 0])), (hu, .inr (6, [.ref w, .ref tr, .ref qu, .int 0, .ref lo, .ref hi, .int 0, .int 0, .int 0, .int 0, .int 0]))] H := hP
  have hD : va_D A [(w, .inr (10, [.ref t, .ref we, .ref jo, .ref la, .int 0, .int 0, .int 0, .int 0, .int 1, .int 0, .int 0])), (hu, .inr (6, [.ref w, .ref tr, .ref qu, .int 0, .ref lo, .ref hi, .int 0, .int 0, .int 0, .int 0, .int 0]))] := hD
  refine lv_aload_n hx hb dX6_mornings_62 rfl (lv_at hl 0 rfl) ?_
  refine va_get (D := J.1) (ci := 6) (v := .int 0) (C := RX6) (T := TX6) (N := 11) hx hb hts inX6 hown hK.1 hP 1 rfl rfl 9 (by decide) (hts _ q_274) (fun _ h9 => h9) rfl dX6_mornings_63 ?_
  exact wz_i () hx hb hr hlk (by decide) (hP.sub (ws' := [(hu, .inr (6, [.ref w, .ref tr, .ref qu, .int 0, .ref lo, .ref hi, .int 0, .int 0, .int 0, .int 0, .int 0])), (w, .inr (10, [.ref t, .ref we, .ref jo, .ref la, .int 0, .int 0, .int 0, .int 0, .int 1, .int 0, .int 0]))]) [1, 0] rfl) (hD.sub (ws' := [(hu, .inr (6, [.ref w, .ref tr, .ref qu, .int 0, .ref lo, .ref hi, .int 0, .int 0, .int 0, .int 0, .int 0])), (w, .inr (10, [.ref t, .ref we, .ref jo, .ref la, .int 0, .int 0, .int 0, .int 0, .int 1, .int 0, .int 0]))]) [1, 0] (by decide) rfl) hS dX6_mornings_66
theorem dX6_morningsFrom_0 : decode cX6_morningsFrom 0 = .ok (.aload_n 0, 1) := by decide +kernel
theorem dX6_morningsFrom_1 : decode cX6_morningsFrom 1 = .ok (.iconst (-1), 1) := by decide +kernel
theorem dX6_morningsFrom_2 : decode cX6_morningsFrom 2 = .ok (.putfield 24, 3) := by decide +kernel
theorem dX6_morningsFrom_5 : decode cX6_morningsFrom 5 = .ok (.aload_n 0, 1) := by decide +kernel
theorem dX6_morningsFrom_6 : decode cX6_morningsFrom 6 = .ok (.aload_n 0, 1) := by decide +kernel
theorem dX6_morningsFrom_7 : decode cX6_morningsFrom 7 = .ok (.getfield 28, 3) := by decide +kernel
theorem dX6_morningsFrom_10 : decode cX6_morningsFrom 10 = .ok (.invokevirtual 37, 3) := by decide +kernel
theorem dX6_morningsFrom_13 : decode cX6_morningsFrom 13 = .ok (.invokevirtual 41, 3) := by decide +kernel
theorem dX6_morningsFrom_16 : decode cX6_morningsFrom 16 = .ok (.aload_n 0, 1) := by decide +kernel
theorem dX6_morningsFrom_17 : decode cX6_morningsFrom 17 = .ok (.iload_n 1, 1) := by decide +kernel
theorem dX6_morningsFrom_18 : decode cX6_morningsFrom 18 = .ok (.aload_n 0, 1) := by decide +kernel
theorem dX6_morningsFrom_19 : decode cX6_morningsFrom 19 = .ok (.getfield 49, 3) := by decide +kernel
theorem dX6_morningsFrom_22 : decode cX6_morningsFrom 22 = .ok (.iand, 1) := by decide +kernel
theorem dX6_morningsFrom_23 : decode cX6_morningsFrom 23 = .ok (.iload_n 2, 1) := by decide +kernel
theorem dX6_morningsFrom_24 : decode cX6_morningsFrom 24 = .ok (.sipush 7168, 3) := by decide +kernel
theorem dX6_morningsFrom_27 : decode cX6_morningsFrom 27 = .ok (.invokevirtual 52, 3) := by decide +kernel
theorem dX6_morningsFrom_30 : decode cX6_morningsFrom 30 = .ok (.ireturn, 1) := by decide +kernel
set_option maxHeartbeats 4000000 in
set_option maxRecDepth 100000 in
theorem cH_from (l : Launch) (J : va_J9) (sz : Nat) (hu : Nat) (w : Nat) (tr : Nat) (qu : Nat) (lo : Nat) (hi : Nat) (t : Nat) (we : Nat) (jo : Nat) (la : Nat) (x : Int32) (y : Int32) : WC l J yX6_morningsFrom cX6_morningsFrom 3 (some .int) ({ frames := 3, cells := 0, slots := 0, locals := 63 }) [.ref hu, .int x, .int y] [(hu, .inr (6, [.ref w, .ref tr, .ref qu, .int 0, .ref lo, .ref hi, .int 0, .int 0, .int 0, .int 0, .int (-1)])), (w, .inr (10, [.ref t, .ref we, .ref jo, .ref la, .int 0, .int 0, .int 0, .int 0, .int 1, .int 0, .int 0])), (lo, .inl (J.2.1, 32, .inl (fun _ => 0))), (hi, .inl (J.2.1, 32, .inl (fun _ => 0)))] sz (Qi J (fun (r : Int32) (_ : Unit) => r = 0) (fun (_ : Unit) => [])) 0 0 := by
  refine wc_of (by decide) (Nat.le_of_ble_eq_true rfl) ?_
  intro p e s m below meth c ls A hE hl hP hK hD hS hA
  obtain ⟨hx, hb, hr, hml, hown, hts, hlk, hin⟩ := hE
  have hown : s.vm.findClass RX6 = some m.cls := hown
  have hl : lv_has ls 3 [(0, .ref hu), (1, .int x), (2, .int y)] := hl
  have rg_x := i_rng x
  have rg_y := i_rng y
  refine lv_aload_n hx hb dX6_morningsFrom_0 rfl (lv_at hl 0 rfl) ?_
  refine lv_iconst (v := (-1)) hx hb dX6_morningsFrom_1 (by decide) ?_
  refine va_put (D := J.1) (ci := 6) (v := .int (-1)) (ty := (.int)) (C := RX6) (T := TX6) (N := 11) hx hb hts inX6 tyX6 tyX6_ok nmX6 hown hK.1 hP hD hS 0 rfl rfl 10 (by decide) (hts _ q_275) (fun _ h9 => h9) rfl (by decide +kernel) rfl rfl (Nat.le_of_ble_eq_true rfl) dX6_morningsFrom_2 (fun H locs hP hD hS => ?_)
  have hP : va_P J.1 cls [(hu, .inr (6, [.ref w, .ref tr, .ref qu, .int 0, .ref lo, .ref hi, .int 0, .int 0, .int 0, .int 0, .int (-1)])), (w, .inr (10, [.ref t, .ref we, .ref jo, .ref la, .int 0, .int 0, .int 0, .int 0, .int 1, .int 0, .int 0])), (lo, .inl (J.2.1, 32, .inl (fun _ => 0))), (hi, .inl (J.2.1, 32, .inl (fun _ => 0)))] H := hP
  have hD : va_D A [(hu, .inr (6, [.ref w, .ref tr, .ref qu, .int 0, .ref lo, .ref hi, .int 0, .int 0, .int 0, .int 0, .int (-1)])), (w, .inr (10, [.ref t, .ref we, .ref jo, .ref la, .int 0, .int 0, .int 0, .int 0, .int 1, .int 0, .int 0])), (lo, .inl (J.2.1, 32, .inl (fun _ => 0))), (hi, .inl (J.2.1, 32, .inl (fun _ => 0)))] := hD
  refine lv_aload_n hx hb dX6_morningsFrom_5 rfl (lv_at hl 0 rfl) ?_
  refine lv_aload_n hx hb dX6_morningsFrom_6 rfl (lv_at hl 0 rfl) ?_
  refine va_get (D := J.1) (ci := 6) (v := .ref w) (C := RX6) (T := TX6) (N := 11) hx hb hts inX6 hown hK.1 hP 0 rfl rfl 0 (by decide) (hts _ q_265) (fun _ h9 => h9) rfl dX6_morningsFrom_7 ?_
  refine go_i (rn_V (As := []) (rest := [.ref hu]) hx hb hml hown hts hK (cW_openOnes l J w t we jo la) kV_RX6_37 (hP.sub (ws' := [(w, .inr (10, [.ref t, .ref we, .ref jo, .ref la, .int 0, .int 0, .int 0, .int 0, .int 1, .int 0, .int 0]))]) [1] rfl) rfl rfl rfl ⟨Nat.le_of_ble_eq_true rfl, Nat.le_of_ble_eq_true rfl⟩ rfl rfl rfl hl.1 rfl (Nat.le_of_ble_eq_true rfl) ⟨Nat.le_of_ble_eq_true rfl, Nat.le_of_ble_eq_true rfl⟩ dX6_morningsFrom_10) ?_
  refine gw_v (wc := [(hu, .inr (6, [.ref w, .ref tr, .ref qu, .int 0, .ref lo, .ref hi, .int 0, .int 0, .int 0, .int 0, .int (-1)])), (lo, .inl (J.2.1, 32, .inl (fun _ => 0))), (hi, .inl (J.2.1, 32, .inl (fun _ => 0)))]) (wr := [(w, .inr (10, [.ref t, .ref we, .ref jo, .ref la, .int 0, .int 0, .int 0, .int 0, .int 1, .int 0, .int 0]))]) hP hD hS hA [0, 2, 3] [1] rfl rfl (by decide) (by decide) (wn_V (As := [.int 0]) (rest := []) hx hb hml hown hts hK (cH_layOut l J _ hu w tr qu lo hi) kV_RX6_41 (hP.sub (ws' := [(hu, .inr (6, [.ref w, .ref tr, .ref qu, .int 0, .ref lo, .ref hi, .int 0, .int 0, .int 0, .int 0, .int (-1)])), (lo, .inl (J.2.1, 32, .inl (fun _ => 0))), (hi, .inl (J.2.1, 32, .inl (fun _ => 0)))]) [0, 2, 3] rfl) ((hD.sub (ws' := [(hu, .inr (6, [.ref w, .ref tr, .ref qu, .int 0, .ref lo, .ref hi, .int 0, .int 0, .int 0, .int 0, .int (-1)])), (lo, .inl (J.2.1, 32, .inl (fun _ => 0))), (hi, .inl (J.2.1, 32, .inl (fun _ => 0)))]) [0, 2, 3] (by decide) rfl).weaken (fun _ _ _ _ => trivial)) rfl rfl rfl ⟨Nat.le_of_ble_eq_true rfl, Nat.le_of_ble_eq_true rfl⟩ rfl rfl rfl hl.1 rfl (Nat.le_of_ble_eq_true rfl) ⟨Nat.le_of_ble_eq_true rfl, Nat.le_of_ble_eq_true rfl⟩ dX6_morningsFrom_13) (fun u1 H locs hw hP hD hS => ?_)
  have hP : va_P J.1 cls [(w, .inr (10, [.ref t, .ref we, .ref jo, .ref la, .int 0, .int 0, .int 0, .int 0, .int 1, .int 0, .int 0])), (hu, .inr (6, [.ref w, .ref tr, .ref qu, .int 0, .ref lo, .ref hi, .int 0, .int 0, .int 0, .int 0, .int (-1)]))] H := hP
  have hD : va_D A [(w, .inr (10, [.ref t, .ref we, .ref jo, .ref la, .int 0, .int 0, .int 0, .int 0, .int 1, .int 0, .int 0])), (hu, .inr (6, [.ref w, .ref tr, .ref qu, .int 0, .ref lo, .ref hi, .int 0, .int 0, .int 0, .int 0, .int (-1)]))] := hD
  refine W.widen (k := 0) (n := 0) (Nat.le_of_ble_eq_true rfl) (Nat.le_of_ble_eq_true rfl) ?_
  refine lv_aload_n hx hb dX6_morningsFrom_16 rfl (lv_at hl 0 rfl) ?_
  refine lv_iload_n hx hb dX6_morningsFrom_17 rfl (lv_at hl 1 rfl) ?_
  refine lv_aload_n hx hb dX6_morningsFrom_18 rfl (lv_at hl 0 rfl) ?_
  refine va_get (D := J.1) (ci := 6) (v := .int 0) (C := RX6) (T := TX6) (N := 11) hx hb hts inX6 hown hK.1 hP 1 rfl rfl 6 (by decide) (hts _ q_271) (fun _ h9 => h9) rfl dX6_morningsFrom_19 ?_
  refine lv_iand hx hb dX6_morningsFrom_22 ?_
  refine top_i (y := 0) (and0 _) ?_
  refine lv_iload_n hx hb dX6_morningsFrom_23 rfl (lv_at hl 2 rfl) ?_
  refine lv_sipush (v := 7168) hx hb dX6_morningsFrom_24 (by decide) ?_
  refine go_i (rn_V (As := [.int 0, .int y, .int 7168]) (rest := []) hx hb hml hown hts hK (cH_search l J hu w tr qu lo hi 0 (-1) y 7168) kV_RX6_52 (hP.sub (ws' := [(hu, .inr (6, [.ref w, .ref tr, .ref qu, .int 0, .ref lo, .ref hi, .int 0, .int 0, .int 0, .int 0, .int (-1)]))]) [1] rfl) rfl rfl rfl ⟨Nat.le_of_ble_eq_true rfl, Nat.le_of_ble_eq_true rfl⟩ rfl rfl rfl hl.1 rfl (Nat.le_of_ble_eq_true rfl) ⟨Nat.le_of_ble_eq_true rfl, Nat.le_of_ble_eq_true rfl⟩ dX6_morningsFrom_27) ?_
  exact wz_i () hx hb hr hlk (by decide) (hP.sub (ws' := []) [] rfl) (hD.sub (ws' := []) [] (by decide) rfl) hS dX6_morningsFrom_30
theorem dX6_lookAt_0 : decode cX6_lookAt 0 = .ok (.aload_n 0, 1) := by decide +kernel
theorem dX6_lookAt_1 : decode cX6_lookAt 1 = .ok (.getfield 28, 3) := by decide +kernel
theorem q_186 : Cond.fieldLink RX6 59 RX10 "lookers" "I" ∈ lw_g := mem_q 186 (by decide +kernel) rfl
theorem dX6_lookAt_4 : decode cX6_lookAt 4 = .ok (.getfield 59, 3) := by decide +kernel
theorem dX6_lookAt_7 : decode cX6_lookAt 7 = .ok (.iconst 2, 1) := by decide +kernel
theorem dX6_lookAt_8 : decode cX6_lookAt 8 = .ok (.if_icmp .ne 7, 3) := by decide +kernel
theorem dX6_lookAt_15 : decode cX6_lookAt 15 = .ok (.iconst 0, 1) := by decide +kernel
theorem dX6_lookAt_16 : decode cX6_lookAt 16 = .ok (.istore_n 2, 1) := by decide +kernel
theorem dX6_lookAt_17 : decode cX6_lookAt 17 = .ok (.iload_n 2, 1) := by decide +kernel
theorem dX6_lookAt_18 : decode cX6_lookAt 18 = .ok (.ifCond .eq 9, 3) := by decide +kernel
theorem dX6_lookAt_27 : decode cX6_lookAt 27 = .ok (.iload_n 1, 1) := by decide +kernel
theorem dX6_lookAt_28 : decode cX6_lookAt 28 = .ok (.istore_n 3, 1) := by decide +kernel
theorem dX6_lookAt_29 : decode cX6_lookAt 29 = .ok (.iload_n 1, 1) := by decide +kernel
theorem dX6_lookAt_30 : decode cX6_lookAt 30 = .ok (.ifCond .lt 11, 3) := by decide +kernel
theorem dX6_lookAt_41 : decode cX6_lookAt 41 = .ok (.bipush (-2), 2) := by decide +kernel
theorem dX6_lookAt_43 : decode cX6_lookAt 43 = .ok (.ireturn, 1) := by decide +kernel
theorem dX6_lookAt_33 : decode cX6_lookAt 33 = .ok (.iload_n 3, 1) := by decide +kernel
theorem dX6_lookAt_34 : decode cX6_lookAt 34 = .ok (.aload_n 0, 1) := by decide +kernel
theorem dX6_lookAt_35 : decode cX6_lookAt 35 = .ok (.getfield 56, 3) := by decide +kernel
theorem dX6_lookAt_38 : decode cX6_lookAt 38 = .ok (.if_icmp .lt 6, 3) := by decide +kernel
set_option maxHeartbeats 4000000 in
set_option maxRecDepth 100000 in
theorem cH_lookAt (l : Launch) (J : va_J9) (hu : Nat) (w : Nat) (tr : Nat) (qu : Nat) (lo : Nat) (hi : Nat) (t : Nat) (we : Nat) (jo : Nat) (la : Nat) (n : Int32) : RC l J yX6_lookAt cX6_lookAt 7 (some .int) ({ frames := 0, cells := 0, slots := 0, locals := 0 }) [.ref hu, .int n] [(hu, .inr (6, [.ref w, .ref tr, .ref qu, .int 0, .ref lo, .ref hi, .int 0, .int 0, .int 0, .int 0, .int 0])), (w, .inr (10, [.ref t, .ref we, .ref jo, .ref la, .int 0, .int 0, .int 0, .int 0, .int 1, .int 0, .int 0]))] (vp_Si (fun r => r = (-2))) := by
  refine rc_of (by decide) (Nat.le_of_ble_eq_true rfl) ?_
  intro p e s m below meth c ls hE hl hP hK
  obtain ⟨hx, hb, hr, hml, hown, hts, hlk, hin⟩ := hE
  have hown : s.vm.findClass RX6 = some m.cls := hown
  have hl : lv_has ls 7 [(0, .ref hu), (1, .int n)] := hl
  have rg_n := i_rng n
  refine lv_aload_n hx hb dX6_lookAt_0 rfl (lv_at hl 0 rfl) ?_
  refine va_get (D := J.1) (ci := 6) (v := .ref w) (C := RX6) (T := TX6) (N := 11) hx hb hts inX6 hown hK.1 hP 0 rfl rfl 0 (by decide) (hts _ q_265) (fun _ h9 => h9) rfl dX6_lookAt_1 ?_
  refine va_get (D := J.1) (ci := 10) (v := .int 1) (C := RX10) (T := TX10) (N := 11) hx hb hts inX10 hown hK.1 hP 1 rfl rfl 8 (by decide) (hts _ q_186) (fun _ h9 => h9) rfl dX6_lookAt_4 ?_
  refine lv_iconst (v := 2) hx hb dX6_lookAt_7 (by decide) ?_
  refine lv_icmp_ne (tgt := 15) hx hb dX6_lookAt_8 (by decide) (fun _ => ?_) (fun c => absurd c (by decide))
  refine lv_iconst (v := 0) hx hb dX6_lookAt_15 (by decide) ?_
  refine lv_istore_n (lv' := [(2, .int 0), (0, .ref hu), (1, .int n)]) hx hb dX6_lookAt_16 rfl hl (by decide) rfl (fun ls hl => ?_)
  refine lv_iload_n hx hb dX6_lookAt_17 rfl (lv_at hl 0 rfl) ?_
  refine lv_if_eq (tgt := 27) hx hb dX6_lookAt_18 (by decide) (fun _ => ?_) (fun c => absurd c (by decide))
  refine lv_iload_n hx hb dX6_lookAt_27 rfl (lv_at hl 2 rfl) ?_
  refine lv_istore_n (lv' := [(3, .int n), (2, .int 0), (0, .ref hu), (1, .int n)]) hx hb dX6_lookAt_28 rfl hl (by decide) rfl (fun ls hl => ?_)
  refine lv_iload_n hx hb dX6_lookAt_29 rfl (lv_at hl 3 rfl) ?_
  refine lv_if_lt (tgt := 41) hx hb dX6_lookAt_30 (by decide) (fun c1 => ?_) (fun c1 => ?_)
  · have j2 : n.toInt < 0 := (i_lt rfl (by decide)).mp c1
    refine lv_bipush (v := (-2)) hx hb dX6_lookAt_41 (by decide) ?_
    exact rz_i hx hb hr hlk (by decide) dX6_lookAt_43
  · have j3 : ¬ (n.toInt < 0) := fun h => c1 ((i_lt rfl (by decide)).mpr h)
    refine lv_iload_n hx hb dX6_lookAt_33 rfl (lv_at hl 0 rfl) ?_
    refine lv_aload_n hx hb dX6_lookAt_34 rfl (lv_at hl 2 rfl) ?_
    refine va_get (D := J.1) (ci := 6) (v := .int 0) (C := RX6) (T := TX6) (N := 11) hx hb hts inX6 hown hK.1 hP 0 rfl rfl 9 (by decide) (hts _ q_274) (fun _ h9 => h9) rfl dX6_lookAt_35 ?_
    refine lv_icmp_lt (tgt := 44) hx hb dX6_lookAt_38 (by decide) (fun c4 => absurd (show n.toInt < 0 from (i_lt rfl (by decide)).mp c4) (by omega)) (fun _ => ?_)
    refine lv_bipush (v := (-2)) hx hb dX6_lookAt_41 (by decide) ?_
    exact rz_i hx hb hr hlk (by decide) dX6_lookAt_43
theorem dX6_looksWithin_0 : decode cX6_looksWithin 0 = .ok (.iconst 0, 1) := by decide +kernel
theorem dX6_looksWithin_1 : decode cX6_looksWithin 1 = .ok (.istore_n 2, 1) := by decide +kernel
theorem dX6_looksWithin_2 : decode cX6_looksWithin 2 = .ok (.iconst 0, 1) := by decide +kernel
theorem dX6_looksWithin_3 : decode cX6_looksWithin 3 = .ok (.istore_n 3, 1) := by decide +kernel
theorem dX6_looksWithin_4 : decode cX6_looksWithin 4 = .ok (.iload_n 3, 1) := by decide +kernel
theorem dX6_looksWithin_5 : decode cX6_looksWithin 5 = .ok (.iload_n 1, 1) := by decide +kernel
theorem dX6_looksWithin_6 : decode cX6_looksWithin 6 = .ok (.if_icmp .ge 34, 3) := by decide +kernel
theorem dX6_looksWithin_40 : decode cX6_looksWithin 40 = .ok (.iload_n 2, 1) := by decide +kernel
theorem dX6_looksWithin_41 : decode cX6_looksWithin 41 = .ok (.ireturn, 1) := by decide +kernel
theorem dX6_looksWithin_9 : decode cX6_looksWithin 9 = .ok (.iload_n 2, 1) := by decide +kernel
theorem dX6_looksWithin_10 : decode cX6_looksWithin 10 = .ok (.aload_n 0, 1) := by decide +kernel
theorem dX6_looksWithin_11 : decode cX6_looksWithin 11 = .ok (.getfield 28, 3) := by decide +kernel
theorem dX6_looksWithin_14 : decode cX6_looksWithin 14 = .ok (.iload_n 3, 1) := by decide +kernel
theorem q_857 : Cond.methodLink RX6 86 yX10_sleepsOn ∈ lw_g := mem_q 857 (by decide +kernel) rfl
theorem q_765 : Cond.instanceMethod yX10_sleepsOn ∈ lw_g := mem_q 765 (by decide +kernel) rfl
theorem q_766 : Cond.selects RX10 yX10_sleepsOn yX10_sleepsOn ∈ lw_g := mem_q 766 (by decide +kernel) rfl
theorem q_767 : Cond.code yX10_sleepsOn cX10_sleepsOn 2 (some .boolean) ∈ lw_g := mem_q 767 (by decide +kernel) rfl
theorem kV_RX6_86 : CV RX6 86 RX10 yX10_sleepsOn cX10_sleepsOn 2 (some .boolean) 1 := cv_of q_857 q_765 q_766 q_105 q_767 (by decide +kernel)
theorem dX6_looksWithin_15 : decode cX6_looksWithin 15 = .ok (.invokevirtual 86, 3) := by decide +kernel
theorem dX6_looksWithin_18 : decode cX6_looksWithin 18 = .ok (.ifCond .eq 7, 3) := by decide +kernel
theorem dX6_looksWithin_25 : decode cX6_looksWithin 25 = .ok (.aload_n 0, 1) := by decide +kernel
theorem dX6_looksWithin_26 : decode cX6_looksWithin 26 = .ok (.getfield 28, 3) := by decide +kernel
theorem dX6_looksWithin_29 : decode cX6_looksWithin 29 = .ok (.getfield 59, 3) := by decide +kernel
theorem dX6_looksWithin_32 : decode cX6_looksWithin 32 = .ok (.iadd, 1) := by decide +kernel
theorem dX6_looksWithin_33 : decode cX6_looksWithin 33 = .ok (.istore_n 2, 1) := by decide +kernel
theorem dX6_looksWithin_34 : decode cX6_looksWithin 34 = .ok (.iinc 3 1, 3) := by decide +kernel
theorem dX6_looksWithin_37 : decode cX6_looksWithin 37 = .ok (.goto (-33), 3) := by decide +kernel
set_option maxHeartbeats 4000000 in
set_option maxRecDepth 100000 in
theorem cH_looks (l : Launch) (J : va_J9) (hu : Nat) (w : Nat) (tr : Nat) (qu : Nat) (lo : Nat) (hi : Nat) (t : Nat) (we : Nat) (jo : Nat) (la : Nat) (n : Int32) (hn : 0 ≤ n.toInt) : RC l J yX6_looksWithin cX6_looksWithin 4 (some .int) ({ frames := 1, cells := 0, slots := 0, locals := 21 }) [.ref hu, .int n] [(hu, .inr (6, [.ref w, .ref tr, .ref qu, .int 0, .ref lo, .ref hi, .int 0, .int 0, .int 0, .int 0, .int (-1)])), (w, .inr (10, [.ref t, .ref we, .ref jo, .ref la, .int 0, .int 0, .int 0, .int 0, .int 1, .int 0, .int 0]))] (vp_Si (fun _ => True)) := by
  refine rc_of (by decide) (Nat.le_of_ble_eq_true rfl) ?_
  intro p e s m below meth c ls hE hl hP hK
  obtain ⟨hx, hb, hr, hml, hown, hts, hlk, hin⟩ := hE
  have hown : s.vm.findClass RX6 = some m.cls := hown
  have hl : lv_has ls 4 [(0, .ref hu), (1, .int n)] := hl
  have rg_n := i_rng n
  refine lv_iconst (v := 0) hx hb dX6_looksWithin_0 (by decide) ?_
  refine lv_istore_n (lv' := [(2, .int 0), (0, .ref hu), (1, .int n)]) hx hb dX6_looksWithin_1 rfl hl (by decide) rfl (fun ls hl => ?_)
  refine lv_iconst (v := 0) hx hb dX6_looksWithin_2 (by decide) ?_
  refine lv_istore_n (lv' := [(3, .int 0), (2, .int 0), (0, .ref hu), (1, .int n)]) hx hb dX6_looksWithin_3 rfl hl (by decide) rfl (fun ls hl => ?_)
  have LP3 : ∀ (k1 i2 : Nat), i2 + k1 = n.toInt.toNat → ∀ (g4 : Int32), ∀ (ls : Array Slot), lv_has ls 4 [(3, .int (nI i2)), (2, .int g4), (0, .ref hu), (1, .int n)] → W p l e ({ frames := 1, cells := 0, slots := 0, locals := 21 } : Room) s m ([.ref hu, .int n] : List Value).toArray below meth c s.heap [] 0 0 (MQ below (vp_Si (fun _ => True)) ([.ref hu, .int n] : List Value).toArray s 0 0 (fun _ => False)) (F0 m 4 ls []) := by
    intro k1
    induction k1 with
    | zero =>
      intro i2 hi2 g4 ls hl
      refine lv_iload_n hx hb dX6_looksWithin_4 rfl (lv_at hl 0 rfl) ?_
      refine lv_iload_n hx hb dX6_looksWithin_5 rfl (lv_at hl 3 rfl) ?_
      refine lv_icmp_ge (tgt := 40) hx hb dX6_looksWithin_6 (by decide) (fun _ => ?_) (fun c5 => absurd (show ¬ (n.toInt ≤ ((i2 : Nat) : Int)) from fun h => c5 ((i_le rfl (nI_toInt (by omega))).mpr h)) (by omega))
      refine lv_iload_n hx hb dX6_looksWithin_40 rfl (lv_at hl 1 rfl) ?_
      exact rz_any hx hb hr hlk dX6_looksWithin_41
    | succ k1 ih =>
      intro i2 hi2 g4 ls hl
      refine lv_iload_n hx hb dX6_looksWithin_4 rfl (lv_at hl 0 rfl) ?_
      refine lv_iload_n hx hb dX6_looksWithin_5 rfl (lv_at hl 3 rfl) ?_
      refine lv_icmp_ge (tgt := 40) hx hb dX6_looksWithin_6 (by decide) (fun c6 => absurd (show n.toInt ≤ ((i2 : Nat) : Int) from (i_le rfl (nI_toInt (by omega))).mp c6) (by omega)) (fun _ => ?_)
      refine lv_iload_n hx hb dX6_looksWithin_9 rfl (lv_at hl 1 rfl) ?_
      refine lv_aload_n hx hb dX6_looksWithin_10 rfl (lv_at hl 2 rfl) ?_
      refine va_get (D := J.1) (ci := 6) (v := .ref w) (C := RX6) (T := TX6) (N := 11) hx hb hts inX6 hown hK.1 hP 0 rfl rfl 0 (by decide) (hts _ q_265) (fun _ h9 => h9) rfl dX6_looksWithin_11 ?_
      refine lv_iload_n hx hb dX6_looksWithin_14 rfl (lv_at hl 0 rfl) ?_
      refine go_i (rn_V (As := [.int (nI i2)]) (rest := [.int g4]) hx hb hml hown hts hK (cW_sleepsOn l J w t we jo la (nI i2)) kV_RX6_86 (hP.sub (ws' := [(w, .inr (10, [.ref t, .ref we, .ref jo, .ref la, .int 0, .int 0, .int 0, .int 0, .int 1, .int 0, .int 0]))]) [1] rfl) rfl rfl rfl ⟨Nat.le_of_ble_eq_true rfl, Nat.le_of_ble_eq_true rfl⟩ rfl rfl rfl hl.1 rfl (Nat.le_of_ble_eq_true rfl) ⟨Nat.le_of_ble_eq_true rfl, Nat.le_of_ble_eq_true rfl⟩ dX6_looksWithin_15) ?_
      refine lv_if_eq (tgt := 25) hx hb dX6_looksWithin_18 (by decide) (fun _ => ?_) (fun c => absurd c (by decide))
      refine lv_aload_n hx hb dX6_looksWithin_25 rfl (lv_at hl 2 rfl) ?_
      refine va_get (D := J.1) (ci := 6) (v := .ref w) (C := RX6) (T := TX6) (N := 11) hx hb hts inX6 hown hK.1 hP 0 rfl rfl 0 (by decide) (hts _ q_265) (fun _ h9 => h9) rfl dX6_looksWithin_26 ?_
      refine va_get (D := J.1) (ci := 10) (v := .int 1) (C := RX10) (T := TX10) (N := 11) hx hb hts inX10 hown hK.1 hP 1 rfl rfl 8 (by decide) (hts _ q_186) (fun _ h9 => h9) rfl dX6_looksWithin_29 ?_
      refine lv_iadd hx hb dX6_looksWithin_32 ?_
      refine lv_istore_n (lv' := [(2, .int (g4 + 1)), (3, .int (nI i2)), (0, .ref hu), (1, .int n)]) hx hb dX6_looksWithin_33 rfl hl (by decide) rfl (fun ls hl => ?_)
      refine lv_iinc (v := nI (i2 + 1)) (lv' := [(3, .int (nI (i2 + 1))), (2, .int (g4 + 1)), (0, .ref hu), (1, .int n)]) hx hb dX6_looksWithin_34 hl (k := 1) rfl (nI_inc _) (by decide) rfl (fun ls hl => ?_)
      refine lv_goto (tgt := 4) hx hb dX6_looksWithin_37 (by decide) ?_
      exact ih (i2 + 1) (by omega) (g4 + 1)  ls (lv_sub hl [0, 1, 2, 3] rfl)
  exact LP3 (n.toInt.toNat - 0) 0 (by omega) 0  ls (lv_sub hl [0, 1, 2, 3] rfl)
theorem dX6_fewestStops_0 : decode cX6_fewestStops 0 = .ok (.aload_n 0, 1) := by decide +kernel
theorem dX6_fewestStops_1 : decode cX6_fewestStops 1 = .ok (.iconst (-1), 1) := by decide +kernel
theorem dX6_fewestStops_2 : decode cX6_fewestStops 2 = .ok (.putfield 24, 3) := by decide +kernel
theorem dX6_fewestStops_5 : decode cX6_fewestStops 5 = .ok (.aload_n 0, 1) := by decide +kernel
theorem dX6_fewestStops_6 : decode cX6_fewestStops 6 = .ok (.iload_n 1, 1) := by decide +kernel
theorem q_926 : Cond.methodLink RX6 75 yX6_looksWithin ∈ lw_g := mem_q 926 (by decide +kernel) rfl
theorem q_928 : Cond.instanceMethod yX6_looksWithin ∈ lw_g := mem_q 928 (by decide +kernel) rfl
theorem q_30 : Cond.selects RX6 yX6_looksWithin yX6_looksWithin ∈ lw_g := mem_q 30 (by decide +kernel) rfl
theorem q_929 : Cond.code yX6_looksWithin cX6_looksWithin 4 (some .int) ∈ lw_g := mem_q 929 (by decide +kernel) rfl
theorem kV_RX6_75 : CV RX6 75 RX6 yX6_looksWithin cX6_looksWithin 4 (some .int) 1 := cv_of q_926 q_928 q_30 q_108 q_929 (by decide +kernel)
theorem dX6_fewestStops_7 : decode cX6_fewestStops 7 = .ok (.invokevirtual 75, 3) := by decide +kernel
theorem dX6_fewestStops_10 : decode cX6_fewestStops 10 = .ok (.istore_n 2, 1) := by decide +kernel
theorem dX6_fewestStops_11 : decode cX6_fewestStops 11 = .ok (.aload_n 0, 1) := by decide +kernel
theorem dX6_fewestStops_12 : decode cX6_fewestStops 12 = .ok (.getfield 28, 3) := by decide +kernel
theorem dX6_fewestStops_15 : decode cX6_fewestStops 15 = .ok (.invokevirtual 37, 3) := by decide +kernel
theorem dX6_fewestStops_18 : decode cX6_fewestStops 18 = .ok (.istore_n 3, 1) := by decide +kernel
theorem dX6_fewestStops_19 : decode cX6_fewestStops 19 = .ok (.iload_n 3, 1) := by decide +kernel
theorem dX6_fewestStops_20 : decode cX6_fewestStops 20 = .ok (.invokestatic 78, 3) := by decide +kernel
theorem dX6_fewestStops_23 : decode cX6_fewestStops 23 = .ok (.istore 4, 2) := by decide +kernel
theorem dX6_fewestStops_25 : decode cX6_fewestStops 25 = .ok (.iconst 0, 1) := by decide +kernel
theorem dX6_fewestStops_26 : decode cX6_fewestStops 26 = .ok (.istore 5, 2) := by decide +kernel
theorem dX6_fewestStops_28 : decode cX6_fewestStops 28 = .ok (.iload 5, 2) := by decide +kernel
theorem dX6_fewestStops_30 : decode cX6_fewestStops 30 = .ok (.iload 4, 2) := by decide +kernel
theorem dX6_fewestStops_32 : decode cX6_fewestStops 32 = .ok (.if_icmp .ge 91, 3) := by decide +kernel
theorem dX6_fewestStops_123 : decode cX6_fewestStops 123 = .ok (.iload_n 3, 1) := by decide +kernel
theorem dX6_fewestStops_124 : decode cX6_fewestStops 124 = .ok (.ireturn, 1) := by decide +kernel
set_option maxHeartbeats 4000000 in
set_option maxRecDepth 100000 in
theorem cH_stops (l : Launch) (J : va_J9) (sz : Nat) (hu : Nat) (w : Nat) (tr : Nat) (qu : Nat) (lo : Nat) (hi : Nat) (t : Nat) (we : Nat) (jo : Nat) (la : Nat) (n : Int32) (hn : 0 ≤ n.toInt) : WC l J yX6_fewestStops cX6_fewestStops 7 (some .int) ({ frames := 2, cells := 0, slots := 0, locals := 44 }) [.ref hu, .int n] [(hu, .inr (6, [.ref w, .ref tr, .ref qu, .int 0, .ref lo, .ref hi, .int 0, .int 0, .int 0, .int 0, .int (-1)])), (w, .inr (10, [.ref t, .ref we, .ref jo, .ref la, .int 0, .int 0, .int 0, .int 0, .int 1, .int 0, .int 0]))] sz (Qi J (fun (r : Int32) (_ : Unit) => r = 0) (fun (_ : Unit) => [])) 0 0 := by
  refine wc_of (by decide) (Nat.le_of_ble_eq_true rfl) ?_
  intro p e s m below meth c ls A hE hl hP hK hD hS hA
  obtain ⟨hx, hb, hr, hml, hown, hts, hlk, hin⟩ := hE
  have hown : s.vm.findClass RX6 = some m.cls := hown
  have hl : lv_has ls 7 [(0, .ref hu), (1, .int n)] := hl
  have rg_n := i_rng n
  refine lv_aload_n hx hb dX6_fewestStops_0 rfl (lv_at hl 0 rfl) ?_
  refine lv_iconst (v := (-1)) hx hb dX6_fewestStops_1 (by decide) ?_
  refine va_put (D := J.1) (ci := 6) (v := .int (-1)) (ty := (.int)) (C := RX6) (T := TX6) (N := 11) hx hb hts inX6 tyX6 tyX6_ok nmX6 hown hK.1 hP hD hS 0 rfl rfl 10 (by decide) (hts _ q_275) (fun _ h9 => h9) rfl (by decide +kernel) rfl rfl (Nat.le_of_ble_eq_true rfl) dX6_fewestStops_2 (fun H locs hP hD hS => ?_)
  have hP : va_P J.1 cls [(hu, .inr (6, [.ref w, .ref tr, .ref qu, .int 0, .ref lo, .ref hi, .int 0, .int 0, .int 0, .int 0, .int (-1)])), (w, .inr (10, [.ref t, .ref we, .ref jo, .ref la, .int 0, .int 0, .int 0, .int 0, .int 1, .int 0, .int 0]))] H := hP
  have hD : va_D A [(hu, .inr (6, [.ref w, .ref tr, .ref qu, .int 0, .ref lo, .ref hi, .int 0, .int 0, .int 0, .int 0, .int (-1)])), (w, .inr (10, [.ref t, .ref we, .ref jo, .ref la, .int 0, .int 0, .int 0, .int 0, .int 1, .int 0, .int 0]))] := hD
  refine lv_aload_n hx hb dX6_fewestStops_5 rfl (lv_at hl 0 rfl) ?_
  refine lv_iload_n hx hb dX6_fewestStops_6 rfl (lv_at hl 1 rfl) ?_
  refine vp_callSi (rn_V (As := [.int n]) (rest := []) hx hb hml hown hts hK (cH_looks l J hu w tr qu lo hi t we jo la n (by omega)) kV_RX6_75 hP rfl rfl rfl ⟨Nat.le_of_ble_eq_true rfl, Nat.le_of_ble_eq_true rfl⟩ rfl rfl rfl hl.1 rfl (Nat.le_of_ble_eq_true rfl) ⟨Nat.le_of_ble_eq_true rfl, Nat.le_of_ble_eq_true rfl⟩ dX6_fewestStops_7) (fun y1 _ => ?_)
  refine lv_istore_n (lv' := [(2, .int y1), (0, .ref hu), (1, .int n)]) hx hb dX6_fewestStops_10 rfl hl (by decide) rfl (fun ls hl => ?_)
  refine lv_aload_n hx hb dX6_fewestStops_11 rfl (lv_at hl 1 rfl) ?_
  refine va_get (D := J.1) (ci := 6) (v := .ref w) (C := RX6) (T := TX6) (N := 11) hx hb hts inX6 hown hK.1 hP 0 rfl rfl 0 (by decide) (hts _ q_265) (fun _ h9 => h9) rfl dX6_fewestStops_12 ?_
  refine go_i (rn_V (As := []) (rest := []) hx hb hml hown hts hK (cW_openOnes l J w t we jo la) kV_RX6_37 (hP.sub (ws' := [(w, .inr (10, [.ref t, .ref we, .ref jo, .ref la, .int 0, .int 0, .int 0, .int 0, .int 1, .int 0, .int 0]))]) [1] rfl) rfl rfl rfl ⟨Nat.le_of_ble_eq_true rfl, Nat.le_of_ble_eq_true rfl⟩ rfl rfl rfl hl.1 rfl (Nat.le_of_ble_eq_true rfl) ⟨Nat.le_of_ble_eq_true rfl, Nat.le_of_ble_eq_true rfl⟩ dX6_fewestStops_15) ?_
  refine lv_istore_n (lv' := [(3, .int 0), (2, .int y1), (0, .ref hu), (1, .int n)]) hx hb dX6_fewestStops_18 rfl hl (by decide) rfl (fun ls hl => ?_)
  refine lv_iload_n hx hb dX6_fewestStops_19 rfl (lv_at hl 0 rfl) ?_
  refine go_i (rn_S (As := [.int 0]) (rest := []) hx hb hml hown hts hK (cJ_bit0 l J ) kS_RX6_78 (hP.sub (ws' := []) [] rfl) ⟨Nat.le_of_ble_eq_true rfl, Nat.le_of_ble_eq_true rfl⟩ rfl rfl rfl hl.1 rfl (Nat.le_of_ble_eq_true rfl) ⟨Nat.le_of_ble_eq_true rfl, Nat.le_of_ble_eq_true rfl⟩ dX6_fewestStops_20) ?_
  refine lv_istore (lv' := [(4, .int 0), (3, .int 0), (2, .int y1), (0, .ref hu), (1, .int n)]) hx hb dX6_fewestStops_23 hl (by decide) rfl (fun ls hl => ?_)
  refine lv_iconst (v := 0) hx hb dX6_fewestStops_25 (by decide) ?_
  refine lv_istore (lv' := [(5, .int 0), (4, .int 0), (3, .int 0), (2, .int y1), (0, .ref hu), (1, .int n)]) hx hb dX6_fewestStops_26 hl (by decide) rfl (fun ls hl => ?_)
  refine lv_iload hx hb dX6_fewestStops_28 (lv_at hl 0 rfl) ?_
  refine lv_iload hx hb dX6_fewestStops_30 (lv_at hl 1 rfl) ?_
  refine lv_icmp_ge (tgt := 123) hx hb dX6_fewestStops_32 (by decide) (fun _ => ?_) (fun c => absurd c (by decide))
  refine lv_iload_n hx hb dX6_fewestStops_123 rfl (lv_at hl 2 rfl) ?_
  exact wz_i () hx hb hr hlk (by decide) (hP.sub (ws' := []) [] rfl) (hD.sub (ws' := []) [] (by decide) rfl) hS dX6_fewestStops_124
theorem dX1_ofBestRow_0 : decode cX1_ofBestRow 0 = .ok (.aload_n 0, 1) := by decide +kernel
theorem q_317 : Cond.fieldLink RX1 37 RX1 "warren" "LFoxHoles$Warren;" ∈ lw_g := mem_q 317 (by decide +kernel) rfl
theorem dX1_ofBestRow_1 : decode cX1_ofBestRow 1 = .ok (.getfield 37, 3) := by decide +kernel
theorem q_1024 : Cond.methodLink RX1 102 yX10_openWeight ∈ lw_g := mem_q 1024 (by decide +kernel) rfl
theorem q_1025 : Cond.instanceMethod yX10_openWeight ∈ lw_g := mem_q 1025 (by decide +kernel) rfl
theorem q_1026 : Cond.selects RX10 yX10_openWeight yX10_openWeight ∈ lw_g := mem_q 1026 (by decide +kernel) rfl
theorem q_1027 : Cond.code yX10_openWeight cX10_openWeight 4 (some .int) ∈ lw_g := mem_q 1027 (by decide +kernel) rfl
theorem kV_RX1_102 : CV RX1 102 RX10 yX10_openWeight cX10_openWeight 4 (some .int) 0 := cv_of q_1024 q_1025 q_1026 q_105 q_1027 (by decide +kernel)
theorem dX1_ofBestRow_4 : decode cX1_ofBestRow 4 = .ok (.invokevirtual 102, 3) := by decide +kernel
theorem dX1_ofBestRow_7 : decode cX1_ofBestRow 7 = .ok (.i2l, 1) := by decide +kernel
theorem dX1_ofBestRow_8 : decode cX1_ofBestRow 8 = .ok (.lstore_n 3, 1) := by decide +kernel
theorem dX1_ofBestRow_9 : decode cX1_ofBestRow 9 = .ok (.lload_n 3, 1) := by decide +kernel
theorem dX1_ofBestRow_10 : decode cX1_ofBestRow 10 = .ok (.lconst 0, 1) := by decide +kernel
theorem dX1_ofBestRow_11 : decode cX1_ofBestRow 11 = .ok (.lcmp, 1) := by decide +kernel
theorem dX1_ofBestRow_12 : decode cX1_ofBestRow 12 = .ok (.ifCond .ne 7, 3) := by decide +kernel
theorem q_993 : Cond.constantLong RX1 92 (-2) ∈ lw_g := mem_q 993 (by decide +kernel) rfl
theorem dX1_ofBestRow_15 : decode cX1_ofBestRow 15 = .ok (.ldc2_w 92, 3) := by decide +kernel
theorem dX1_ofBestRow_18 : decode cX1_ofBestRow 18 = .ok (.lreturn, 1) := by decide +kernel
set_option maxHeartbeats 4000000 in
set_option maxRecDepth 100000 in
theorem cN_best (l : Launch) (J : va_J9) (cn : Nat) (lk : Nat) (p2 : Nat) (p3 : Nat) (p4 : Nat) (p5 : Nat) (p9 : Nat) (p10 : Nat) (w : Nat) (t : Nat) (we : Nat) (jo : Nat) (la : Nat) (x : Int32) (y : Int32) : RC l J yX1_ofBestRow cX1_ofBestRow 6 (some .long) ({ frames := 2, cells := 0, slots := 0, locals := 43 }) [.ref cn, .int x, .int y] [(cn, .inr (1, [.ref w, .ref lk, .ref p2, .ref p3, .ref p4, .ref p5, .long 0, .long 0, .long 0, .ref p9, .ref p10, .long 0, .int 0, .int (-1)])), (w, .inr (10, [.ref t, .ref we, .ref jo, .ref la, .int 0, .int 0, .int 0, .int 0, .int 1, .int 0, .int 0]))] (vp_Sl (fun r => r = (-2))) := by
  refine rc_of (by decide) (Nat.le_of_ble_eq_true rfl) ?_
  intro p e s m below meth c ls hE hl hP hK
  obtain ⟨hx, hb, hr, hml, hown, hts, hlk, hin⟩ := hE
  have hown : s.vm.findClass RX1 = some m.cls := hown
  have hl : lv_has ls 6 [(0, .ref cn), (1, .int x), (2, .int y)] := hl
  have rg_x := i_rng x
  have rg_y := i_rng y
  refine lv_aload_n hx hb dX1_ofBestRow_0 rfl (lv_at hl 0 rfl) ?_
  refine va_get (D := J.1) (ci := 1) (v := .ref w) (C := RX1) (T := TX1) (N := 14) hx hb hts inX1 hown hK.1 hP 0 rfl rfl 0 (by decide) (hts _ q_317) (fun _ h9 => h9) rfl dX1_ofBestRow_1 ?_
  refine go_i (rn_V (As := []) (rest := []) hx hb hml hown hts hK (cW_openWeight l J w t we jo la) kV_RX1_102 (hP.sub (ws' := [(w, .inr (10, [.ref t, .ref we, .ref jo, .ref la, .int 0, .int 0, .int 0, .int 0, .int 1, .int 0, .int 0]))]) [1] rfl) rfl rfl rfl ⟨Nat.le_of_ble_eq_true rfl, Nat.le_of_ble_eq_true rfl⟩ rfl rfl rfl hl.1 rfl (Nat.le_of_ble_eq_true rfl) ⟨Nat.le_of_ble_eq_true rfl, Nat.le_of_ble_eq_true rfl⟩ dX1_ofBestRow_4) ?_
  refine lv_i2l (v := 0) hx hb dX1_ofBestRow_7 (by decide) ?_
  refine lv_lstore_n (lv' := [(3, .long 0), (0, .ref cn), (1, .int x), (2, .int y)]) hx hb dX1_ofBestRow_8 rfl hl (by decide) rfl (fun ls hl => ?_)
  refine lv_lload_n hx hb dX1_ofBestRow_9 rfl (lv_at hl 0 rfl) ?_
  refine lv_lconst (v := 0) hx hb dX1_ofBestRow_10 (by decide) ?_
  refine W.lcmp hx hb dX1_ofBestRow_11 ?_
  refine top_i (y := 0) (by decide) ?_
  refine lv_if_ne (tgt := 19) hx hb dX1_ofBestRow_12 (by decide) (fun c => absurd c (by decide)) (fun _ => ?_)
  refine lv_ldc2 (v := (-2)) hx hb hown (hts _ q_993) dX1_ofBestRow_15 ?_
  exact rz_l hx hb hr hlk (by decide) dX1_ofBestRow_18
end
section
theorem dX11_shelfAt_0 : decode cX11_shelfAt 0 = .ok (.iload_n 1, 1) := by decide +kernel
theorem dX11_shelfAt_1 : decode cX11_shelfAt 1 = .ok (.ifCond .lt 18, 3) := by decide +kernel
theorem dX11_shelfAt_4 : decode cX11_shelfAt 4 = .ok (.iload_n 1, 1) := by decide +kernel
theorem dX11_shelfAt_5 : decode cX11_shelfAt 5 = .ok (.bipush 6, 2) := by decide +kernel
theorem dX11_shelfAt_7 : decode cX11_shelfAt 7 = .ok (.if_icmp .ge 12, 3) := by decide +kernel
theorem dX11_shelfAt_10 : decode cX11_shelfAt 10 = .ok (.aload_n 0, 1) := by decide +kernel
theorem q_472 : Cond.fieldLink RX11 90 RX11 "shelves" "[LFoxHoles$Shelf;" ∈ lw_g := mem_q 472 (by decide +kernel) rfl
theorem dX11_shelfAt_11 : decode cX11_shelfAt 11 = .ok (.getfield 90, 3) := by decide +kernel
theorem dX11_shelfAt_14 : decode cX11_shelfAt 14 = .ok (.iload_n 1, 1) := by decide +kernel
theorem dX11_shelfAt_15 : decode cX11_shelfAt 15 = .ok (.aaload, 1) := by decide +kernel
theorem dX11_shelfAt_16 : decode cX11_shelfAt 16 = .ok (.goto 4, 3) := by decide +kernel
theorem dX11_shelfAt_20 : decode cX11_shelfAt 20 = .ok (.areturn, 1) := by decide +kernel
set_option maxHeartbeats 4000000 in
set_option maxRecDepth 100000 in
theorem cF_shelfIn (l : Launch) (J : va_J9) (a : Nat → Nat) (f : Nat → Option Nat) (sh : Nat) (n : Int32) (hd : 0 ≤ n.toInt ∧ n.toInt ≤ 5) (hf : f n.toNatClampNeg = some sh) : RC l J yX11_shelfAt cX11_shelfAt 2 (some (.object "FoxHoles$Shelf")) ({ frames := 0, cells := 0, slots := 0, locals := 0 }) [.ref (a 0), .int n] [((a 0), .inr (11, [.ref (a 1), .ref (a 6), .ref (a 10), .ref (a 15), .ref (a 17), .ref (a 22), .ref (a 23), .ref (a 30), .ref (a 31), .ref (a 34), .int 0, .ref (a 37), .ref (a 40)])), ((a 40), .inl (J.2.2.2, 6, .inr (.inr (.inr (.inr f)))))] (va_Sq (fun r => r = (some sh))) := by
  refine rc_of (by decide) (Nat.le_of_ble_eq_true rfl) ?_
  intro p e s m below meth c ls hE hl hP hK
  obtain ⟨hx, hb, hr, hml, hown, hts, hlk, hin⟩ := hE
  have hown : s.vm.findClass RX11 = some m.cls := hown
  have hl : lv_has ls 2 [(0, .ref (a 0)), (1, .int n)] := hl
  have rg_n := i_rng n
  refine lv_iload_n hx hb dX11_shelfAt_0 rfl (lv_at hl 1 rfl) ?_
  refine lv_if_lt (tgt := 19) hx hb dX11_shelfAt_1 (by decide) (fun c1 => absurd (show n.toInt < 0 from (i_lt rfl (by decide)).mp c1) (by omega)) (fun _ => ?_)
  refine lv_iload_n hx hb dX11_shelfAt_4 rfl (lv_at hl 1 rfl) ?_
  refine lv_bipush (v := 6) hx hb dX11_shelfAt_5 (by decide) ?_
  refine lv_icmp_ge (tgt := 19) hx hb dX11_shelfAt_7 (by decide) (fun c2 => absurd (show 6 ≤ n.toInt from (i_le (by decide) rfl).mp c2) (by omega)) (fun _ => ?_)
  refine lv_aload_n hx hb dX11_shelfAt_10 rfl (lv_at hl 0 rfl) ?_
  refine va_get (D := J.1) (ci := 11) (v := .ref (a 40)) (C := RX11) (T := TX11) (N := 13) hx hb hts inX11 hown hK.1 hP 0 rfl rfl 12 (by decide) (hts _ q_472) (fun _ h9 => h9) rfl dX11_shelfAt_11 ?_
  refine lv_iload_n hx hb dX11_shelfAt_14 rfl (lv_at hl 1 rfl) ?_
  have h3 : vp_in n 6 := (i_in (a := n.toInt) rfl (by omega) (by omega))
  refine va_aldq hx hb hK.1 hP 1 2 rfl rfl h3 dX11_shelfAt_15 ?_
  refine top_q (y := sh) hf ?_
  refine lv_goto (tgt := 20) hx hb dX11_shelfAt_16 (by decide) ?_
  exact rz_a (o := (some sh)) hx hb hr hlk (Or.inr ⟨_, rfl⟩) rfl dX11_shelfAt_20
theorem dX11_shelfAt_19 : decode cX11_shelfAt 19 = .ok (.aconst_null, 1) := by decide +kernel
set_option maxHeartbeats 4000000 in
set_option maxRecDepth 100000 in
theorem cF_shelfOut (l : Launch) (J : va_J9) (a : Nat → Nat) (n : Int32) (hd : ¬ (0 ≤ n.toInt ∧ n.toInt ≤ 5)) : RC l J yX11_shelfAt cX11_shelfAt 2 (some (.object "FoxHoles$Shelf")) ({ frames := 0, cells := 0, slots := 0, locals := 0 }) [.ref (a 0), .int n] [((a 0), .inr (11, [.ref (a 1), .ref (a 6), .ref (a 10), .ref (a 15), .ref (a 17), .ref (a 22), .ref (a 23), .ref (a 30), .ref (a 31), .ref (a 34), .int 0, .ref (a 37), .ref (a 40)]))] (va_Sq (fun r => r = none)) := by
  refine rc_of (by decide) (Nat.le_of_ble_eq_true rfl) ?_
  intro p e s m below meth c ls hE hl hP hK
  obtain ⟨hx, hb, hr, hml, hown, hts, hlk, hin⟩ := hE
  have hown : s.vm.findClass RX11 = some m.cls := hown
  have hl : lv_has ls 2 [(0, .ref (a 0)), (1, .int n)] := hl
  have rg_n := i_rng n
  refine lv_iload_n hx hb dX11_shelfAt_0 rfl (lv_at hl 1 rfl) ?_
  refine lv_if_lt (tgt := 19) hx hb dX11_shelfAt_1 (by decide) (fun c1 => ?_) (fun c1 => ?_)
  · have j2 : n.toInt < 0 := (i_lt rfl (by decide)).mp c1
    refine lv_null hx hb dX11_shelfAt_19 ?_
    exact rz_a (o := none) hx hb hr hlk (Or.inl rfl) rfl dX11_shelfAt_20
  · have j3 : ¬ (n.toInt < 0) := fun h => c1 ((i_lt rfl (by decide)).mpr h)
    refine lv_iload_n hx hb dX11_shelfAt_4 rfl (lv_at hl 1 rfl) ?_
    refine lv_bipush (v := 6) hx hb dX11_shelfAt_5 (by decide) ?_
    refine lv_icmp_ge (tgt := 19) hx hb dX11_shelfAt_7 (by decide) (fun _ => ?_) (fun c4 => absurd (show ¬ (6 ≤ n.toInt) from fun h => c4 ((i_le (by decide) rfl).mpr h)) (by omega))
    refine lv_null hx hb dX11_shelfAt_19 ?_
    exact rz_a (o := none) hx hb hr hlk (Or.inl rfl) rfl dX11_shelfAt_20
theorem dX11_areTwoShelves_0 : decode cX11_areTwoShelves 0 = .ok (.iload_n 0, 1) := by decide +kernel
theorem dX11_areTwoShelves_1 : decode cX11_areTwoShelves 1 = .ok (.ifCond .lt 25, 3) := by decide +kernel
theorem dX11_areTwoShelves_26 : decode cX11_areTwoShelves 26 = .ok (.iconst 0, 1) := by decide +kernel
theorem dX11_areTwoShelves_27 : decode cX11_areTwoShelves 27 = .ok (.ireturn, 1) := by decide +kernel
theorem dX11_areTwoShelves_4 : decode cX11_areTwoShelves 4 = .ok (.iload_n 0, 1) := by decide +kernel
theorem dX11_areTwoShelves_5 : decode cX11_areTwoShelves 5 = .ok (.bipush 10, 2) := by decide +kernel
theorem dX11_areTwoShelves_7 : decode cX11_areTwoShelves 7 = .ok (.idiv, 1) := by decide +kernel
theorem dX11_areTwoShelves_8 : decode cX11_areTwoShelves 8 = .ok (.bipush 6, 2) := by decide +kernel
theorem dX11_areTwoShelves_10 : decode cX11_areTwoShelves 10 = .ok (.if_icmp .ge 16, 3) := by decide +kernel
theorem dX11_areTwoShelves_13 : decode cX11_areTwoShelves 13 = .ok (.iload_n 0, 1) := by decide +kernel
theorem dX11_areTwoShelves_14 : decode cX11_areTwoShelves 14 = .ok (.bipush 10, 2) := by decide +kernel
theorem dX11_areTwoShelves_16 : decode cX11_areTwoShelves 16 = .ok (.irem, 1) := by decide +kernel
theorem dX11_areTwoShelves_17 : decode cX11_areTwoShelves 17 = .ok (.bipush 6, 2) := by decide +kernel
theorem dX11_areTwoShelves_19 : decode cX11_areTwoShelves 19 = .ok (.if_icmp .ge 7, 3) := by decide +kernel
theorem dX11_areTwoShelves_22 : decode cX11_areTwoShelves 22 = .ok (.iconst 1, 1) := by decide +kernel
theorem dX11_areTwoShelves_23 : decode cX11_areTwoShelves 23 = .ok (.goto 4, 3) := by decide +kernel
set_option maxHeartbeats 4000000 in
set_option maxRecDepth 100000 in
theorem cF_twoShelves (l : Launch) (J : va_J9) (x : Int32) : RC l J yX11_areTwoShelves cX11_areTwoShelves 1 (some .boolean) ({ frames := 0, cells := 0, slots := 0, locals := 0 }) [.int x] [] (vp_Si (fun r => r = B01 (0 ≤ x.toInt ∧ x.toInt / 10 ≤ 5 ∧ x.toInt % 10 ≤ 5))) := by
  refine rc_of (by decide) (Nat.le_of_ble_eq_true rfl) ?_
  intro p e s m below meth c ls hE hl hP hK
  obtain ⟨hx, hb, hr, hml, hown, hts, hlk, hin⟩ := hE
  have hown : s.vm.findClass RX11 = some m.cls := hown
  have hl : lv_has ls 1 [(0, .int x)] := hl
  have rg_x := i_rng x
  refine lv_iload_n hx hb dX11_areTwoShelves_0 rfl (lv_at hl 0 rfl) ?_
  refine lv_if_lt (tgt := 26) hx hb dX11_areTwoShelves_1 (by decide) (fun c1 => ?_) (fun c1 => ?_)
  · have j2 : x.toInt < 0 := (i_lt rfl (by decide)).mp c1
    refine lv_iconst (v := 0) hx hb dX11_areTwoShelves_26 (by decide) ?_
    exact rz_z hx hb hr hlk (by decide) (b_f (by omega)) dX11_areTwoShelves_27
  · have j3 : ¬ (x.toInt < 0) := fun h => c1 ((i_lt rfl (by decide)).mpr h)
    refine lv_iload_n hx hb dX11_areTwoShelves_4 rfl (lv_at hl 0 rfl) ?_
    refine lv_bipush (v := 10) hx hb dX11_areTwoShelves_5 (by decide) ?_
    refine lv_idiv hx hb dX11_areTwoShelves_7 (by decide) ?_
    have p4 : (x / 10).toInt = x.toInt / 10 := i_div rfl (by decide) (by omega) (by omega)
    refine lv_bipush (v := 6) hx hb dX11_areTwoShelves_8 (by decide) ?_
    refine lv_icmp_ge (tgt := 26) hx hb dX11_areTwoShelves_10 (by decide) (fun c5 => ?_) (fun c5 => ?_)
    · have j6 : 6 ≤ x.toInt / 10 := (i_le (by decide) p4).mp c5
      refine lv_iconst (v := 0) hx hb dX11_areTwoShelves_26 (by decide) ?_
      exact rz_z hx hb hr hlk (by decide) (b_f (by omega)) dX11_areTwoShelves_27
    · have j7 : ¬ (6 ≤ x.toInt / 10) := fun h => c5 ((i_le (by decide) p4).mpr h)
      refine lv_iload_n hx hb dX11_areTwoShelves_13 rfl (lv_at hl 0 rfl) ?_
      refine lv_bipush (v := 10) hx hb dX11_areTwoShelves_14 (by decide) ?_
      refine lv_irem hx hb dX11_areTwoShelves_16 (by decide) ?_
      have p8 : (x - x / 10 * 10).toInt = x.toInt % 10 := i_rem rfl (by decide) (by omega) (by omega)
      refine lv_bipush (v := 6) hx hb dX11_areTwoShelves_17 (by decide) ?_
      refine lv_icmp_ge (tgt := 26) hx hb dX11_areTwoShelves_19 (by decide) (fun c9 => ?_) (fun c9 => ?_)
      · have j10 : 6 ≤ x.toInt % 10 := (i_le (by decide) p8).mp c9
        refine lv_iconst (v := 0) hx hb dX11_areTwoShelves_26 (by decide) ?_
        exact rz_z hx hb hr hlk (by decide) (b_f (by omega)) dX11_areTwoShelves_27
      · have j11 : ¬ (6 ≤ x.toInt % 10) := fun h => c9 ((i_le (by decide) p8).mpr h)
        refine lv_iconst (v := 1) hx hb dX11_areTwoShelves_22 (by decide) ?_
        refine lv_goto (tgt := 27) hx hb dX11_areTwoShelves_23 (by decide) ?_
        exact rz_z hx hb hr hlk (by decide) (b_t (by omega)) dX11_areTwoShelves_27
theorem dX11_areTwoHoles_0 : decode cX11_areTwoHoles 0 = .ok (.iload_n 1, 1) := by decide +kernel
theorem dX11_areTwoHoles_1 : decode cX11_areTwoHoles 1 = .ok (.ifCond .lt 35, 3) := by decide +kernel
theorem dX11_areTwoHoles_36 : decode cX11_areTwoHoles 36 = .ok (.iconst 0, 1) := by decide +kernel
theorem dX11_areTwoHoles_37 : decode cX11_areTwoHoles 37 = .ok (.ireturn, 1) := by decide +kernel
theorem dX11_areTwoHoles_4 : decode cX11_areTwoHoles 4 = .ok (.aload_n 0, 1) := by decide +kernel
theorem q_461 : Cond.fieldLink RX11 21 RX11 "warren" "LFoxHoles$Warren;" ∈ lw_g := mem_q 461 (by decide +kernel) rfl
theorem dX11_areTwoHoles_5 : decode cX11_areTwoHoles 5 = .ok (.getfield 21, 3) := by decide +kernel
theorem dX11_areTwoHoles_8 : decode cX11_areTwoHoles 8 = .ok (.iload_n 1, 1) := by decide +kernel
theorem dX11_areTwoHoles_9 : decode cX11_areTwoHoles 9 = .ok (.bipush 10, 2) := by decide +kernel
theorem dX11_areTwoHoles_11 : decode cX11_areTwoHoles 11 = .ok (.idiv, 1) := by decide +kernel
theorem q_594 : Cond.methodLink RX11 143 yX10_isHole ∈ lw_g := mem_q 594 (by decide +kernel) rfl
theorem kV_RX11_143 : CV RX11 143 RX10 yX10_isHole cX10_isHole 2 (some .boolean) 1 := cv_of q_594 q_595 q_596 q_105 q_597 (by decide +kernel)
theorem dX11_areTwoHoles_12 : decode cX11_areTwoHoles 12 = .ok (.invokevirtual 143, 3) := by decide +kernel
theorem dX11_areTwoHoles_15 : decode cX11_areTwoHoles 15 = .ok (.ifCond .eq 21, 3) := by decide +kernel
set_option maxHeartbeats 4000000 in
set_option maxRecDepth 100000 in
theorem cF_twoHoles (l : Launch) (J : va_J9) (a : Nat → Nat) (x : Int32) : RC l J yX11_areTwoHoles cX11_areTwoHoles 2 (some .boolean) ({ frames := 1, cells := 0, slots := 0, locals := 21 }) [.ref (a 0), .int x] [((a 0), .inr (11, [.ref (a 1), .ref (a 6), .ref (a 10), .ref (a 15), .ref (a 17), .ref (a 22), .ref (a 23), .ref (a 30), .ref (a 31), .ref (a 34), .int 0, .ref (a 37), .ref (a 40)])), ((a 6), .inr (10, [.ref (a 1), .ref (a 7), .ref (a 8), .ref (a 9), .int 0, .int 0, .int 0, .int 0, .int 1, .int 0, .int 0]))] (vp_Si (fun r => r = 0)) := by
  refine rc_of (by decide) (Nat.le_of_ble_eq_true rfl) ?_
  intro p e s m below meth c ls hE hl hP hK
  obtain ⟨hx, hb, hr, hml, hown, hts, hlk, hin⟩ := hE
  have hown : s.vm.findClass RX11 = some m.cls := hown
  have hl : lv_has ls 2 [(0, .ref (a 0)), (1, .int x)] := hl
  have rg_x := i_rng x
  refine lv_iload_n hx hb dX11_areTwoHoles_0 rfl (lv_at hl 1 rfl) ?_
  refine lv_if_lt (tgt := 36) hx hb dX11_areTwoHoles_1 (by decide) (fun c1 => ?_) (fun c1 => ?_)
  · have j2 : x.toInt < 0 := (i_lt rfl (by decide)).mp c1
    refine lv_iconst (v := 0) hx hb dX11_areTwoHoles_36 (by decide) ?_
    exact rz_z hx hb hr hlk (by decide) (by decide) dX11_areTwoHoles_37
  · have j3 : ¬ (x.toInt < 0) := fun h => c1 ((i_lt rfl (by decide)).mpr h)
    refine lv_aload_n hx hb dX11_areTwoHoles_4 rfl (lv_at hl 0 rfl) ?_
    refine va_get (D := J.1) (ci := 11) (v := .ref (a 6)) (C := RX11) (T := TX11) (N := 13) hx hb hts inX11 hown hK.1 hP 0 rfl rfl 1 (by decide) (hts _ q_461) (fun _ h9 => h9) rfl dX11_areTwoHoles_5 ?_
    refine lv_iload_n hx hb dX11_areTwoHoles_8 rfl (lv_at hl 1 rfl) ?_
    refine lv_bipush (v := 10) hx hb dX11_areTwoHoles_9 (by decide) ?_
    refine lv_idiv hx hb dX11_areTwoHoles_11 (by decide) ?_
    have p4 : (x / 10).toInt = x.toInt / 10 := i_div rfl (by decide) (by omega) (by omega)
    refine go_i (rn_V (As := [.int (x / 10)]) (rest := []) hx hb hml hown hts hK (cW_isHole l J (a 6) (a 1) (a 7) (a 8) (a 9) (x / 10)) kV_RX11_143 (hP.sub (ws' := [((a 6), .inr (10, [.ref (a 1), .ref (a 7), .ref (a 8), .ref (a 9), .int 0, .int 0, .int 0, .int 0, .int 1, .int 0, .int 0]))]) [1] rfl) rfl rfl rfl ⟨Nat.le_of_ble_eq_true rfl, Nat.le_of_ble_eq_true rfl⟩ rfl rfl rfl hl.1 rfl (Nat.le_of_ble_eq_true rfl) ⟨Nat.le_of_ble_eq_true rfl, Nat.le_of_ble_eq_true rfl⟩ dX11_areTwoHoles_12) ?_
    refine lv_if_eq (tgt := 36) hx hb dX11_areTwoHoles_15 (by decide) (fun _ => ?_) (fun c => absurd c (by decide))
    refine lv_iconst (v := 0) hx hb dX11_areTwoHoles_36 (by decide) ?_
    exact rz_z hx hb hr hlk (by decide) (by decide) dX11_areTwoHoles_37
theorem dX11_refusalOf_0 : decode cX11_refusalOf 0 = .ok (.aload_n 0, 1) := by decide +kernel
theorem q_563 : Cond.methodLink RX11 110 yX9_isEmpty ∈ lw_g := mem_q 563 (by decide +kernel) rfl
theorem q_564 : Cond.instanceMethod yX9_isEmpty ∈ lw_g := mem_q 564 (by decide +kernel) rfl
theorem q_565 : Cond.selects RX9 yX9_isEmpty yX9_isEmpty ∈ lw_g := mem_q 565 (by decide +kernel) rfl
theorem q_114 : Cond.initialized RX9 ∈ lw_g := mem_q 114 (by decide +kernel) rfl
theorem q_566 : Cond.code yX9_isEmpty cX9_isEmpty 1 (some .boolean) ∈ lw_g := mem_q 566 (by decide +kernel) rfl
theorem kV_RX11_110 : CV RX11 110 RX9 yX9_isEmpty cX9_isEmpty 1 (some .boolean) 0 := cv_of q_563 q_564 q_565 q_114 q_566 (by decide +kernel)
theorem dX11_refusalOf_1 : decode cX11_refusalOf 1 = .ok (.invokevirtual 110, 3) := by decide +kernel
theorem dX11_refusalOf_4 : decode cX11_refusalOf 4 = .ok (.ifCond .eq 6, 3) := by decide +kernel
theorem dX11_refusalOf_7 : decode cX11_refusalOf 7 = .ok (.bipush (-11), 2) := by decide +kernel
theorem dX11_refusalOf_9 : decode cX11_refusalOf 9 = .ok (.ireturn, 1) := by decide +kernel
set_option maxHeartbeats 4000000 in
set_option maxRecDepth 100000 in
theorem cF_refusal (l : Launch) (J : va_J9) (sh : Nat) (ce : Nat) : RC l J yX11_refusalOf cX11_refusalOf 1 (some .int) ({ frames := 1, cells := 0, slots := 0, locals := 20 }) [.ref sh] [(sh, .inr (9, [.ref ce, .int 0, .int 0, .int 0, .int 0]))] (vp_Si (fun r => r = (-11))) := by
  refine rc_of (by decide) (Nat.le_of_ble_eq_true rfl) ?_
  intro p e s m below meth c ls hE hl hP hK
  obtain ⟨hx, hb, hr, hml, hown, hts, hlk, hin⟩ := hE
  have hown : s.vm.findClass RX11 = some m.cls := hown
  have hl : lv_has ls 1 [(0, .ref sh)] := hl
  refine lv_aload_n hx hb dX11_refusalOf_0 rfl (lv_at hl 0 rfl) ?_
  refine go_i (rn_V (As := []) (rest := []) hx hb hml hown hts hK (cS_isEmpty l J sh ce) kV_RX11_110 hP rfl rfl rfl ⟨Nat.le_of_ble_eq_true rfl, Nat.le_of_ble_eq_true rfl⟩ rfl rfl rfl hl.1 rfl (Nat.le_of_ble_eq_true rfl) ⟨Nat.le_of_ble_eq_true rfl, Nat.le_of_ble_eq_true rfl⟩ dX11_refusalOf_1) ?_
  refine lv_if_eq (tgt := 10) hx hb dX11_refusalOf_4 (by decide) (fun c => absurd c (by decide)) (fun _ => ?_)
  refine lv_bipush (v := (-11)) hx hb dX11_refusalOf_7 (by decide) ?_
  exact rz_i hx hb hr hlk (by decide) dX11_refusalOf_9
theorem dX11_refusalOfBoth_0 : decode cX11_refusalOfBoth 0 = .ok (.aload_n 0, 1) := by decide +kernel
theorem dX11_refusalOfBoth_1 : decode cX11_refusalOfBoth 1 = .ok (.invokevirtual 110, 3) := by decide +kernel
theorem dX11_refusalOfBoth_4 : decode cX11_refusalOfBoth 4 = .ok (.ifCond .ne 10, 3) := by decide +kernel
theorem dX11_refusalOfBoth_14 : decode cX11_refusalOfBoth 14 = .ok (.bipush (-11), 2) := by decide +kernel
theorem dX11_refusalOfBoth_16 : decode cX11_refusalOfBoth 16 = .ok (.ireturn, 1) := by decide +kernel
set_option maxHeartbeats 4000000 in
set_option maxRecDepth 100000 in
theorem cF_both (l : Launch) (J : va_J9) (sh : Nat) (ce : Nat) (o : Nat) (x : Int32) : RC l J yX11_refusalOfBoth cX11_refusalOfBoth 3 (some .int) ({ frames := 1, cells := 0, slots := 0, locals := 20 }) [.ref sh, .ref o, .int x] [(sh, .inr (9, [.ref ce, .int 0, .int 0, .int 0, .int 0]))] (vp_Si (fun r => r = (-11))) := by
  refine rc_of (by decide) (Nat.le_of_ble_eq_true rfl) ?_
  intro p e s m below meth c ls hE hl hP hK
  obtain ⟨hx, hb, hr, hml, hown, hts, hlk, hin⟩ := hE
  have hown : s.vm.findClass RX11 = some m.cls := hown
  have hl : lv_has ls 3 [(0, .ref sh), (1, .ref o), (2, .int x)] := hl
  have rg_x := i_rng x
  refine lv_aload_n hx hb dX11_refusalOfBoth_0 rfl (lv_at hl 0 rfl) ?_
  refine go_i (rn_V (As := []) (rest := []) hx hb hml hown hts hK (cS_isEmpty l J sh ce) kV_RX11_110 hP rfl rfl rfl ⟨Nat.le_of_ble_eq_true rfl, Nat.le_of_ble_eq_true rfl⟩ rfl rfl rfl hl.1 rfl (Nat.le_of_ble_eq_true rfl) ⟨Nat.le_of_ble_eq_true rfl, Nat.le_of_ble_eq_true rfl⟩ dX11_refusalOfBoth_1) ?_
  refine lv_if_ne (tgt := 14) hx hb dX11_refusalOfBoth_4 (by decide) (fun _ => ?_) (fun c => absurd c (by decide))
  refine lv_bipush (v := (-11)) hx hb dX11_refusalOfBoth_14 (by decide) ?_
  exact rz_i hx hb hr hlk (by decide) dX11_refusalOfBoth_16
theorem dX11_refusalOfPlace_0 : decode cX11_refusalOfPlace 0 = .ok (.aload_n 0, 1) := by decide +kernel
theorem dX11_refusalOfPlace_1 : decode cX11_refusalOfPlace 1 = .ok (.invokevirtual 110, 3) := by decide +kernel
theorem dX11_refusalOfPlace_4 : decode cX11_refusalOfPlace 4 = .ok (.ifCond .eq 6, 3) := by decide +kernel
theorem dX11_refusalOfPlace_7 : decode cX11_refusalOfPlace 7 = .ok (.bipush (-11), 2) := by decide +kernel
theorem dX11_refusalOfPlace_9 : decode cX11_refusalOfPlace 9 = .ok (.ireturn, 1) := by decide +kernel
set_option maxHeartbeats 4000000 in
set_option maxRecDepth 100000 in
theorem cF_place (l : Launch) (J : va_J9) (sh : Nat) (ce : Nat) (x : Int32) : RC l J yX11_refusalOfPlace cX11_refusalOfPlace 2 (some .int) ({ frames := 1, cells := 0, slots := 0, locals := 20 }) [.ref sh, .int x] [(sh, .inr (9, [.ref ce, .int 0, .int 0, .int 0, .int 0]))] (vp_Si (fun r => r = (-11))) := by
  refine rc_of (by decide) (Nat.le_of_ble_eq_true rfl) ?_
  intro p e s m below meth c ls hE hl hP hK
  obtain ⟨hx, hb, hr, hml, hown, hts, hlk, hin⟩ := hE
  have hown : s.vm.findClass RX11 = some m.cls := hown
  have hl : lv_has ls 2 [(0, .ref sh), (1, .int x)] := hl
  have rg_x := i_rng x
  refine lv_aload_n hx hb dX11_refusalOfPlace_0 rfl (lv_at hl 0 rfl) ?_
  refine go_i (rn_V (As := []) (rest := []) hx hb hml hown hts hK (cS_isEmpty l J sh ce) kV_RX11_110 hP rfl rfl rfl ⟨Nat.le_of_ble_eq_true rfl, Nat.le_of_ble_eq_true rfl⟩ rfl rfl rfl hl.1 rfl (Nat.le_of_ble_eq_true rfl) ⟨Nat.le_of_ble_eq_true rfl, Nat.le_of_ble_eq_true rfl⟩ dX11_refusalOfPlace_1) ?_
  refine lv_if_eq (tgt := 10) hx hb dX11_refusalOfPlace_4 (by decide) (fun c => absurd c (by decide)) (fun _ => ?_)
  refine lv_bipush (v := (-11)) hx hb dX11_refusalOfPlace_7 (by decide) ?_
  exact rz_i hx hb hr hlk (by decide) dX11_refusalOfPlace_9
theorem dX11_refusalOfPrints_0 : decode cX11_refusalOfPrints 0 = .ok (.iload_n 1, 1) := by decide +kernel
theorem q_790 : Cond.methodLink RX11 213 yX11_areTwoShelves ∈ lw_g := mem_q 790 (by decide +kernel) rfl
theorem q_791 : Cond.static yX11_areTwoShelves ∈ lw_g := mem_q 791 (by decide +kernel) rfl
theorem q_103 : Cond.initialized RX11 ∈ lw_g := mem_q 103 (by decide +kernel) rfl
theorem q_792 : Cond.code yX11_areTwoShelves cX11_areTwoShelves 1 (some .boolean) ∈ lw_g := mem_q 792 (by decide +kernel) rfl
theorem kS_RX11_213 : CS RX11 213 yX11_areTwoShelves cX11_areTwoShelves 1 (some .boolean) 1 := cs_of q_790 q_791 q_103 q_792 (by decide +kernel)
theorem dX11_refusalOfPrints_1 : decode cX11_refusalOfPrints 1 = .ok (.invokestatic 213, 3) := by decide +kernel
theorem dX11_refusalOfPrints_4 : decode cX11_refusalOfPrints 4 = .ok (.ifCond .eq 8, 3) := by decide +kernel
theorem dX11_refusalOfPrints_7 : decode cX11_refusalOfPrints 7 = .ok (.iload_n 2, 1) := by decide +kernel
theorem dX11_refusalOfPrints_8 : decode cX11_refusalOfPrints 8 = .ok (.iload_n 3, 1) := by decide +kernel
theorem dX11_refusalOfPrints_9 : decode cX11_refusalOfPrints 9 = .ok (.if_icmp .ge 5, 3) := by decide +kernel
theorem dX11_refusalOfPrints_14 : decode cX11_refusalOfPrints 14 = .ok (.aload_n 0, 1) := by decide +kernel
theorem dX11_refusalOfPrints_15 : decode cX11_refusalOfPrints 15 = .ok (.getfield 90, 3) := by decide +kernel
theorem dX11_refusalOfPrints_18 : decode cX11_refusalOfPrints 18 = .ok (.iload_n 1, 1) := by decide +kernel
theorem dX11_refusalOfPrints_19 : decode cX11_refusalOfPrints 19 = .ok (.bipush 10, 2) := by decide +kernel
theorem dX11_refusalOfPrints_21 : decode cX11_refusalOfPrints 21 = .ok (.idiv, 1) := by decide +kernel
theorem dX11_refusalOfPrints_22 : decode cX11_refusalOfPrints 22 = .ok (.aaload, 1) := by decide +kernel
theorem dX11_refusalOfPrints_23 : decode cX11_refusalOfPrints 23 = .ok (.astore 4, 2) := by decide +kernel
theorem dX11_refusalOfPrints_25 : decode cX11_refusalOfPrints 25 = .ok (.aload 4, 2) := by decide +kernel
theorem dX11_refusalOfPrints_27 : decode cX11_refusalOfPrints 27 = .ok (.aload_n 0, 1) := by decide +kernel
theorem dX11_refusalOfPrints_28 : decode cX11_refusalOfPrints 28 = .ok (.getfield 90, 3) := by decide +kernel
theorem dX11_refusalOfPrints_31 : decode cX11_refusalOfPrints 31 = .ok (.iload_n 1, 1) := by decide +kernel
theorem dX11_refusalOfPrints_32 : decode cX11_refusalOfPrints 32 = .ok (.bipush 10, 2) := by decide +kernel
theorem dX11_refusalOfPrints_34 : decode cX11_refusalOfPrints 34 = .ok (.irem, 1) := by decide +kernel
theorem dX11_refusalOfPrints_35 : decode cX11_refusalOfPrints 35 = .ok (.aaload, 1) := by decide +kernel
theorem dX11_refusalOfPrints_36 : decode cX11_refusalOfPrints 36 = .ok (.iconst 1, 1) := by decide +kernel
theorem q_793 : Cond.methodLink RX11 216 yX11_refusalOfBoth ∈ lw_g := mem_q 793 (by decide +kernel) rfl
theorem q_794 : Cond.static yX11_refusalOfBoth ∈ lw_g := mem_q 794 (by decide +kernel) rfl
theorem q_795 : Cond.code yX11_refusalOfBoth cX11_refusalOfBoth 3 (some .int) ∈ lw_g := mem_q 795 (by decide +kernel) rfl
theorem kS_RX11_216 : CS RX11 216 yX11_refusalOfBoth cX11_refusalOfBoth 3 (some .int) 3 := cs_of q_793 q_794 q_103 q_795 (by decide +kernel)
theorem dX11_refusalOfPrints_37 : decode cX11_refusalOfPrints 37 = .ok (.invokestatic 216, 3) := by decide +kernel
theorem dX11_refusalOfPrints_40 : decode cX11_refusalOfPrints 40 = .ok (.istore 5, 2) := by decide +kernel
theorem dX11_refusalOfPrints_42 : decode cX11_refusalOfPrints 42 = .ok (.iload 5, 2) := by decide +kernel
theorem dX11_refusalOfPrints_44 : decode cX11_refusalOfPrints 44 = .ok (.ifCond .eq 6, 3) := by decide +kernel
theorem dX11_refusalOfPrints_47 : decode cX11_refusalOfPrints 47 = .ok (.iload 5, 2) := by decide +kernel
theorem dX11_refusalOfPrints_49 : decode cX11_refusalOfPrints 49 = .ok (.ireturn, 1) := by decide +kernel
theorem dX11_refusalOfPrints_12 : decode cX11_refusalOfPrints 12 = .ok (.iconst (-1), 1) := by decide +kernel
theorem dX11_refusalOfPrints_13 : decode cX11_refusalOfPrints 13 = .ok (.ireturn, 1) := by decide +kernel
set_option maxHeartbeats 4000000 in
set_option maxRecDepth 100000 in
theorem cF_prints0In (l : Launch) (J : va_J9) (a : Nat → Nat) (f : Nat → Option Nat) (sh : Nat) (ce : Nat) (s2 : Nat) (x : Int32) (k : Int32) (hd : 0 ≤ x.toInt ∧ x.toInt / 10 ≤ 5 ∧ x.toInt % 10 ≤ 5) (hf : f (x / 10).toNatClampNeg = some sh) (hg : f (x - x / 10 * 10).toNatClampNeg = some s2) : RC l J yX11_refusalOfPrints cX11_refusalOfPrints 6 (some .int) ({ frames := 2, cells := 0, slots := 0, locals := 42 }) [.ref (a 0), .int x, .int k, .int 0] [((a 0), .inr (11, [.ref (a 1), .ref (a 6), .ref (a 10), .ref (a 15), .ref (a 17), .ref (a 22), .ref (a 23), .ref (a 30), .ref (a 31), .ref (a 34), .int 0, .ref (a 37), .ref (a 40)])), ((a 40), .inl (J.2.2.2, 6, .inr (.inr (.inr (.inr f))))), (sh, .inr (9, [.ref ce, .int 0, .int 0, .int 0, .int 0]))] (vp_Si (fun r => r = sp_two (x.toInt) (k.toInt) (0))) := by
  refine rc_of (by decide) (Nat.le_of_ble_eq_true rfl) ?_
  intro p e s m below meth c ls hE hl hP hK
  obtain ⟨hx, hb, hr, hml, hown, hts, hlk, hin⟩ := hE
  have hown : s.vm.findClass RX11 = some m.cls := hown
  have hl : lv_has ls 6 [(0, .ref (a 0)), (1, .int x), (2, .int k), (3, .int 0)] := hl
  have rg_x := i_rng x
  have rg_k := i_rng k
  refine lv_iload_n hx hb dX11_refusalOfPrints_0 rfl (lv_at hl 1 rfl) ?_
  refine go_i (rn_S (As := [.int x]) (rest := []) hx hb hml hown hts hK (cF_twoShelves l J x) kS_RX11_213 (hP.sub (ws' := []) [] rfl) ⟨Nat.le_of_ble_eq_true rfl, Nat.le_of_ble_eq_true rfl⟩ rfl rfl rfl hl.1 rfl (Nat.le_of_ble_eq_true rfl) ⟨Nat.le_of_ble_eq_true rfl, Nat.le_of_ble_eq_true rfl⟩ dX11_refusalOfPrints_1) ?_
  refine lv_if_eq (tgt := 12) hx hb dX11_refusalOfPrints_4 (by decide) (fun c1 => (b0 c1 (by omega)).elim) (fun _ => ?_)
  refine lv_iload_n hx hb dX11_refusalOfPrints_7 rfl (lv_at hl 2 rfl) ?_
  refine lv_iload_n hx hb dX11_refusalOfPrints_8 rfl (lv_at hl 3 rfl) ?_
  refine lv_icmp_ge (tgt := 14) hx hb dX11_refusalOfPrints_9 (by decide) (fun c2 => ?_) (fun c2 => ?_)
  · have j3 : 0 ≤ k.toInt := (i_le (by decide) rfl).mp c2
    refine lv_aload_n hx hb dX11_refusalOfPrints_14 rfl (lv_at hl 0 rfl) ?_
    refine va_get (D := J.1) (ci := 11) (v := .ref (a 40)) (C := RX11) (T := TX11) (N := 13) hx hb hts inX11 hown hK.1 hP 0 rfl rfl 12 (by decide) (hts _ q_472) (fun _ h9 => h9) rfl dX11_refusalOfPrints_15 ?_
    refine lv_iload_n hx hb dX11_refusalOfPrints_18 rfl (lv_at hl 1 rfl) ?_
    refine lv_bipush (v := 10) hx hb dX11_refusalOfPrints_19 (by decide) ?_
    refine lv_idiv hx hb dX11_refusalOfPrints_21 (by decide) ?_
    have p4 : (x / 10).toInt = x.toInt / 10 := i_div rfl (by decide) (by omega) (by omega)
    have h5 : vp_in (x / 10) 6 := (i_in (a := x.toInt / 10) p4 (by omega) (by omega))
    refine va_aldq hx hb hK.1 hP 1 2 rfl rfl h5 dX11_refusalOfPrints_22 ?_
    refine top_q (y := sh) hf ?_
    refine lv_astore (lv' := [(4, .ref sh), (0, .ref (a 0)), (1, .int x), (2, .int k), (3, .int 0)]) hx hb dX11_refusalOfPrints_23 hl (by decide) rfl (fun ls hl => ?_)
    refine lv_aload hx hb dX11_refusalOfPrints_25 (lv_at hl 0 rfl) ?_
    refine lv_aload_n hx hb dX11_refusalOfPrints_27 rfl (lv_at hl 1 rfl) ?_
    refine va_get (D := J.1) (ci := 11) (v := .ref (a 40)) (C := RX11) (T := TX11) (N := 13) hx hb hts inX11 hown hK.1 hP 0 rfl rfl 12 (by decide) (hts _ q_472) (fun _ h9 => h9) rfl dX11_refusalOfPrints_28 ?_
    refine lv_iload_n hx hb dX11_refusalOfPrints_31 rfl (lv_at hl 2 rfl) ?_
    refine lv_bipush (v := 10) hx hb dX11_refusalOfPrints_32 (by decide) ?_
    refine lv_irem hx hb dX11_refusalOfPrints_34 (by decide) ?_
    have p6 : (x - x / 10 * 10).toInt = x.toInt % 10 := i_rem rfl (by decide) (by omega) (by omega)
    have h7 : vp_in (x - x / 10 * 10) 6 := (i_in (a := x.toInt % 10) p6 (by omega) (by omega))
    refine va_aldq hx hb hK.1 hP 1 2 rfl rfl h7 dX11_refusalOfPrints_35 ?_
    refine top_q (y := s2) hg ?_
    refine lv_iconst (v := 1) hx hb dX11_refusalOfPrints_36 (by decide) ?_
    refine go_i (rn_S (As := [.ref sh, .ref s2, .int 1]) (rest := []) hx hb hml hown hts hK (cF_both l J sh ce s2 1) kS_RX11_216 (hP.sub (ws' := [(sh, .inr (9, [.ref ce, .int 0, .int 0, .int 0, .int 0]))]) [2] rfl) ⟨Nat.le_of_ble_eq_true rfl, Nat.le_of_ble_eq_true rfl⟩ rfl rfl rfl hl.1 rfl (Nat.le_of_ble_eq_true rfl) ⟨Nat.le_of_ble_eq_true rfl, Nat.le_of_ble_eq_true rfl⟩ dX11_refusalOfPrints_37) ?_
    refine lv_istore (lv' := [(5, .int (-11)), (4, .ref sh), (0, .ref (a 0)), (1, .int x), (2, .int k), (3, .int 0)]) hx hb dX11_refusalOfPrints_40 hl (by decide) rfl (fun ls hl => ?_)
    refine lv_iload hx hb dX11_refusalOfPrints_42 (lv_at hl 0 rfl) ?_
    refine lv_if_eq (tgt := 50) hx hb dX11_refusalOfPrints_44 (by decide) (fun c => absurd c (by decide)) (fun _ => ?_)
    refine lv_iload hx hb dX11_refusalOfPrints_47 (lv_at hl 0 rfl) ?_
    exact rz_i hx hb hr hlk (by unfold sp_two; (repeat' split) <;> first | rfl | (exfalso; omega)) dX11_refusalOfPrints_49
  · have j8 : ¬ (0 ≤ k.toInt) := fun h => c2 ((i_le (by decide) rfl).mpr h)
    refine lv_iconst (v := (-1)) hx hb dX11_refusalOfPrints_12 (by decide) ?_
    exact rz_i hx hb hr hlk (by unfold sp_two; (repeat' split) <;> first | rfl | (exfalso; omega)) dX11_refusalOfPrints_13
set_option maxHeartbeats 4000000 in
set_option maxRecDepth 100000 in
theorem cF_prints0Out (l : Launch) (J : va_J9) (a : Nat → Nat) (x : Int32) (k : Int32) (hd : ¬ (0 ≤ x.toInt ∧ x.toInt / 10 ≤ 5 ∧ x.toInt % 10 ≤ 5)) : RC l J yX11_refusalOfPrints cX11_refusalOfPrints 6 (some .int) ({ frames := 1, cells := 0, slots := 0, locals := 20 }) [.ref (a 0), .int x, .int k, .int 0] [((a 0), .inr (11, [.ref (a 1), .ref (a 6), .ref (a 10), .ref (a 15), .ref (a 17), .ref (a 22), .ref (a 23), .ref (a 30), .ref (a 31), .ref (a 34), .int 0, .ref (a 37), .ref (a 40)]))] (vp_Si (fun r => r = sp_two (x.toInt) (k.toInt) (0))) := by
  refine rc_of (by decide) (Nat.le_of_ble_eq_true rfl) ?_
  intro p e s m below meth c ls hE hl hP hK
  obtain ⟨hx, hb, hr, hml, hown, hts, hlk, hin⟩ := hE
  have hown : s.vm.findClass RX11 = some m.cls := hown
  have hl : lv_has ls 6 [(0, .ref (a 0)), (1, .int x), (2, .int k), (3, .int 0)] := hl
  have rg_x := i_rng x
  have rg_k := i_rng k
  refine lv_iload_n hx hb dX11_refusalOfPrints_0 rfl (lv_at hl 1 rfl) ?_
  refine go_i (rn_S (As := [.int x]) (rest := []) hx hb hml hown hts hK (cF_twoShelves l J x) kS_RX11_213 (hP.sub (ws' := []) [] rfl) ⟨Nat.le_of_ble_eq_true rfl, Nat.le_of_ble_eq_true rfl⟩ rfl rfl rfl hl.1 rfl (Nat.le_of_ble_eq_true rfl) ⟨Nat.le_of_ble_eq_true rfl, Nat.le_of_ble_eq_true rfl⟩ dX11_refusalOfPrints_1) ?_
  refine lv_if_eq (tgt := 12) hx hb dX11_refusalOfPrints_4 (by decide) (fun _ => ?_) (fun c1 => absurd (b1 c1) (by omega))
  refine lv_iconst (v := (-1)) hx hb dX11_refusalOfPrints_12 (by decide) ?_
  exact rz_i hx hb hr hlk (by unfold sp_two; (repeat' split) <;> first | rfl | (exfalso; omega)) dX11_refusalOfPrints_13
set_option maxHeartbeats 4000000 in
set_option maxRecDepth 100000 in
theorem cF_prints1In (l : Launch) (J : va_J9) (a : Nat → Nat) (f : Nat → Option Nat) (sh : Nat) (ce : Nat) (s2 : Nat) (x : Int32) (k : Int32) (hd : 0 ≤ x.toInt ∧ x.toInt / 10 ≤ 5 ∧ x.toInt % 10 ≤ 5) (hf : f (x / 10).toNatClampNeg = some sh) (hg : f (x - x / 10 * 10).toNatClampNeg = some s2) : RC l J yX11_refusalOfPrints cX11_refusalOfPrints 6 (some .int) ({ frames := 2, cells := 0, slots := 0, locals := 42 }) [.ref (a 0), .int x, .int k, .int 1] [((a 0), .inr (11, [.ref (a 1), .ref (a 6), .ref (a 10), .ref (a 15), .ref (a 17), .ref (a 22), .ref (a 23), .ref (a 30), .ref (a 31), .ref (a 34), .int 0, .ref (a 37), .ref (a 40)])), ((a 40), .inl (J.2.2.2, 6, .inr (.inr (.inr (.inr f))))), (sh, .inr (9, [.ref ce, .int 0, .int 0, .int 0, .int 0]))] (vp_Si (fun r => r = sp_two (x.toInt) (k.toInt) (1))) := by
  refine rc_of (by decide) (Nat.le_of_ble_eq_true rfl) ?_
  intro p e s m below meth c ls hE hl hP hK
  obtain ⟨hx, hb, hr, hml, hown, hts, hlk, hin⟩ := hE
  have hown : s.vm.findClass RX11 = some m.cls := hown
  have hl : lv_has ls 6 [(0, .ref (a 0)), (1, .int x), (2, .int k), (3, .int 1)] := hl
  have rg_x := i_rng x
  have rg_k := i_rng k
  refine lv_iload_n hx hb dX11_refusalOfPrints_0 rfl (lv_at hl 1 rfl) ?_
  refine go_i (rn_S (As := [.int x]) (rest := []) hx hb hml hown hts hK (cF_twoShelves l J x) kS_RX11_213 (hP.sub (ws' := []) [] rfl) ⟨Nat.le_of_ble_eq_true rfl, Nat.le_of_ble_eq_true rfl⟩ rfl rfl rfl hl.1 rfl (Nat.le_of_ble_eq_true rfl) ⟨Nat.le_of_ble_eq_true rfl, Nat.le_of_ble_eq_true rfl⟩ dX11_refusalOfPrints_1) ?_
  refine lv_if_eq (tgt := 12) hx hb dX11_refusalOfPrints_4 (by decide) (fun c1 => (b0 c1 (by omega)).elim) (fun _ => ?_)
  refine lv_iload_n hx hb dX11_refusalOfPrints_7 rfl (lv_at hl 2 rfl) ?_
  refine lv_iload_n hx hb dX11_refusalOfPrints_8 rfl (lv_at hl 3 rfl) ?_
  refine lv_icmp_ge (tgt := 14) hx hb dX11_refusalOfPrints_9 (by decide) (fun c2 => ?_) (fun c2 => ?_)
  · have j3 : 1 ≤ k.toInt := (i_le (by decide) rfl).mp c2
    refine lv_aload_n hx hb dX11_refusalOfPrints_14 rfl (lv_at hl 0 rfl) ?_
    refine va_get (D := J.1) (ci := 11) (v := .ref (a 40)) (C := RX11) (T := TX11) (N := 13) hx hb hts inX11 hown hK.1 hP 0 rfl rfl 12 (by decide) (hts _ q_472) (fun _ h9 => h9) rfl dX11_refusalOfPrints_15 ?_
    refine lv_iload_n hx hb dX11_refusalOfPrints_18 rfl (lv_at hl 1 rfl) ?_
    refine lv_bipush (v := 10) hx hb dX11_refusalOfPrints_19 (by decide) ?_
    refine lv_idiv hx hb dX11_refusalOfPrints_21 (by decide) ?_
    have p4 : (x / 10).toInt = x.toInt / 10 := i_div rfl (by decide) (by omega) (by omega)
    have h5 : vp_in (x / 10) 6 := (i_in (a := x.toInt / 10) p4 (by omega) (by omega))
    refine va_aldq hx hb hK.1 hP 1 2 rfl rfl h5 dX11_refusalOfPrints_22 ?_
    refine top_q (y := sh) hf ?_
    refine lv_astore (lv' := [(4, .ref sh), (0, .ref (a 0)), (1, .int x), (2, .int k), (3, .int 1)]) hx hb dX11_refusalOfPrints_23 hl (by decide) rfl (fun ls hl => ?_)
    refine lv_aload hx hb dX11_refusalOfPrints_25 (lv_at hl 0 rfl) ?_
    refine lv_aload_n hx hb dX11_refusalOfPrints_27 rfl (lv_at hl 1 rfl) ?_
    refine va_get (D := J.1) (ci := 11) (v := .ref (a 40)) (C := RX11) (T := TX11) (N := 13) hx hb hts inX11 hown hK.1 hP 0 rfl rfl 12 (by decide) (hts _ q_472) (fun _ h9 => h9) rfl dX11_refusalOfPrints_28 ?_
    refine lv_iload_n hx hb dX11_refusalOfPrints_31 rfl (lv_at hl 2 rfl) ?_
    refine lv_bipush (v := 10) hx hb dX11_refusalOfPrints_32 (by decide) ?_
    refine lv_irem hx hb dX11_refusalOfPrints_34 (by decide) ?_
    have p6 : (x - x / 10 * 10).toInt = x.toInt % 10 := i_rem rfl (by decide) (by omega) (by omega)
    have h7 : vp_in (x - x / 10 * 10) 6 := (i_in (a := x.toInt % 10) p6 (by omega) (by omega))
    refine va_aldq hx hb hK.1 hP 1 2 rfl rfl h7 dX11_refusalOfPrints_35 ?_
    refine top_q (y := s2) hg ?_
    refine lv_iconst (v := 1) hx hb dX11_refusalOfPrints_36 (by decide) ?_
    refine go_i (rn_S (As := [.ref sh, .ref s2, .int 1]) (rest := []) hx hb hml hown hts hK (cF_both l J sh ce s2 1) kS_RX11_216 (hP.sub (ws' := [(sh, .inr (9, [.ref ce, .int 0, .int 0, .int 0, .int 0]))]) [2] rfl) ⟨Nat.le_of_ble_eq_true rfl, Nat.le_of_ble_eq_true rfl⟩ rfl rfl rfl hl.1 rfl (Nat.le_of_ble_eq_true rfl) ⟨Nat.le_of_ble_eq_true rfl, Nat.le_of_ble_eq_true rfl⟩ dX11_refusalOfPrints_37) ?_
    refine lv_istore (lv' := [(5, .int (-11)), (4, .ref sh), (0, .ref (a 0)), (1, .int x), (2, .int k), (3, .int 1)]) hx hb dX11_refusalOfPrints_40 hl (by decide) rfl (fun ls hl => ?_)
    refine lv_iload hx hb dX11_refusalOfPrints_42 (lv_at hl 0 rfl) ?_
    refine lv_if_eq (tgt := 50) hx hb dX11_refusalOfPrints_44 (by decide) (fun c => absurd c (by decide)) (fun _ => ?_)
    refine lv_iload hx hb dX11_refusalOfPrints_47 (lv_at hl 0 rfl) ?_
    exact rz_i hx hb hr hlk (by unfold sp_two; (repeat' split) <;> first | rfl | (exfalso; omega)) dX11_refusalOfPrints_49
  · have j8 : ¬ (1 ≤ k.toInt) := fun h => c2 ((i_le (by decide) rfl).mpr h)
    refine lv_iconst (v := (-1)) hx hb dX11_refusalOfPrints_12 (by decide) ?_
    exact rz_i hx hb hr hlk (by unfold sp_two; (repeat' split) <;> first | rfl | (exfalso; omega)) dX11_refusalOfPrints_13
set_option maxHeartbeats 4000000 in
set_option maxRecDepth 100000 in
theorem cF_prints1Out (l : Launch) (J : va_J9) (a : Nat → Nat) (x : Int32) (k : Int32) (hd : ¬ (0 ≤ x.toInt ∧ x.toInt / 10 ≤ 5 ∧ x.toInt % 10 ≤ 5)) : RC l J yX11_refusalOfPrints cX11_refusalOfPrints 6 (some .int) ({ frames := 1, cells := 0, slots := 0, locals := 20 }) [.ref (a 0), .int x, .int k, .int 1] [((a 0), .inr (11, [.ref (a 1), .ref (a 6), .ref (a 10), .ref (a 15), .ref (a 17), .ref (a 22), .ref (a 23), .ref (a 30), .ref (a 31), .ref (a 34), .int 0, .ref (a 37), .ref (a 40)]))] (vp_Si (fun r => r = sp_two (x.toInt) (k.toInt) (1))) := by
  refine rc_of (by decide) (Nat.le_of_ble_eq_true rfl) ?_
  intro p e s m below meth c ls hE hl hP hK
  obtain ⟨hx, hb, hr, hml, hown, hts, hlk, hin⟩ := hE
  have hown : s.vm.findClass RX11 = some m.cls := hown
  have hl : lv_has ls 6 [(0, .ref (a 0)), (1, .int x), (2, .int k), (3, .int 1)] := hl
  have rg_x := i_rng x
  have rg_k := i_rng k
  refine lv_iload_n hx hb dX11_refusalOfPrints_0 rfl (lv_at hl 1 rfl) ?_
  refine go_i (rn_S (As := [.int x]) (rest := []) hx hb hml hown hts hK (cF_twoShelves l J x) kS_RX11_213 (hP.sub (ws' := []) [] rfl) ⟨Nat.le_of_ble_eq_true rfl, Nat.le_of_ble_eq_true rfl⟩ rfl rfl rfl hl.1 rfl (Nat.le_of_ble_eq_true rfl) ⟨Nat.le_of_ble_eq_true rfl, Nat.le_of_ble_eq_true rfl⟩ dX11_refusalOfPrints_1) ?_
  refine lv_if_eq (tgt := 12) hx hb dX11_refusalOfPrints_4 (by decide) (fun _ => ?_) (fun c1 => absurd (b1 c1) (by omega))
  refine lv_iconst (v := (-1)) hx hb dX11_refusalOfPrints_12 (by decide) ?_
  exact rz_i hx hb hr hlk (by unfold sp_two; (repeat' split) <;> first | rfl | (exfalso; omega)) dX11_refusalOfPrints_13
end
section
theorem dX11_hole_0 : decode cX11_hole 0 = .ok (.aload_n 0, 1) := by decide +kernel
theorem dX11_hole_1 : decode cX11_hole 1 = .ok (.getfield 21, 3) := by decide +kernel
theorem dX11_hole_4 : decode cX11_hole 4 = .ok (.iload_n 1, 1) := by decide +kernel
theorem q_504 : Cond.methodLink RX11 95 yX10_isWeight ∈ lw_g := mem_q 504 (by decide +kernel) rfl
theorem q_505 : Cond.instanceMethod yX10_isWeight ∈ lw_g := mem_q 505 (by decide +kernel) rfl
theorem q_506 : Cond.selects RX10 yX10_isWeight yX10_isWeight ∈ lw_g := mem_q 506 (by decide +kernel) rfl
theorem q_507 : Cond.code yX10_isWeight cX10_isWeight 2 (some .boolean) ∈ lw_g := mem_q 507 (by decide +kernel) rfl
theorem kV_RX11_95 : CV RX11 95 RX10 yX10_isWeight cX10_isWeight 2 (some .boolean) 1 := cv_of q_504 q_505 q_506 q_105 q_507 (by decide +kernel)
theorem dX11_hole_5 : decode cX11_hole 5 = .ok (.invokevirtual 95, 3) := by decide +kernel
theorem dX11_hole_8 : decode cX11_hole 8 = .ok (.ifCond .ne 5, 3) := by decide +kernel
theorem dX11_hole_13 : decode cX11_hole 13 = .ok (.aload_n 0, 1) := by decide +kernel
theorem dX11_hole_14 : decode cX11_hole 14 = .ok (.getfield 21, 3) := by decide +kernel
theorem dX11_hole_17 : decode cX11_hole 17 = .ok (.iload_n 1, 1) := by decide +kernel
theorem q_508 : Cond.methodLink RX11 99 yX10_addHole ∈ lw_g := mem_q 508 (by decide +kernel) rfl
theorem q_509 : Cond.instanceMethod yX10_addHole ∈ lw_g := mem_q 509 (by decide +kernel) rfl
theorem q_510 : Cond.selects RX10 yX10_addHole yX10_addHole ∈ lw_g := mem_q 510 (by decide +kernel) rfl
theorem q_511 : Cond.code yX10_addHole cX10_addHole 2 (some .int) ∈ lw_g := mem_q 511 (by decide +kernel) rfl
theorem kV_RX11_99 : CV RX11 99 RX10 yX10_addHole cX10_addHole 2 (some .int) 1 := cv_of q_508 q_509 q_510 q_105 q_511 (by decide +kernel)
theorem dX11_hole_18 : decode cX11_hole 18 = .ok (.invokevirtual 99, 3) := by decide +kernel
theorem dX11_hole_21 : decode cX11_hole 21 = .ok (.istore_n 2, 1) := by decide +kernel
theorem dX11_hole_22 : decode cX11_hole 22 = .ok (.aload_n 0, 1) := by decide +kernel
theorem dX11_hole_23 : decode cX11_hole 23 = .ok (.getfield 21, 3) := by decide +kernel
theorem q_516 : Cond.methodLink RX11 103 yX10_settle ∈ lw_g := mem_q 516 (by decide +kernel) rfl
theorem q_517 : Cond.instanceMethod yX10_settle ∈ lw_g := mem_q 517 (by decide +kernel) rfl
theorem q_518 : Cond.selects RX10 yX10_settle yX10_settle ∈ lw_g := mem_q 518 (by decide +kernel) rfl
theorem q_519 : Cond.code yX10_settle cX10_settle 4 none ∈ lw_g := mem_q 519 (by decide +kernel) rfl
theorem kV_RX11_103 : CV RX11 103 RX10 yX10_settle cX10_settle 4 none 0 := cv_of q_516 q_517 q_518 q_105 q_519 (by decide +kernel)
theorem dX11_hole_26 : decode cX11_hole 26 = .ok (.invokevirtual 103, 3) := by decide +kernel
theorem dX11_hole_29 : decode cX11_hole 29 = .ok (.iload_n 2, 1) := by decide +kernel
theorem dX11_hole_30 : decode cX11_hole 30 = .ok (.ireturn, 1) := by decide +kernel
theorem dX11_hole_11 : decode cX11_hole 11 = .ok (.iconst (-1), 1) := by decide +kernel
theorem dX11_hole_12 : decode cX11_hole 12 = .ok (.ireturn, 1) := by decide +kernel
set_option maxHeartbeats 4000000 in
set_option maxRecDepth 100000 in
theorem c_hole (l : Launch) (J : va_J9) (sz : Nat) (a : Nat → Nat) (x : Int32) : WC l J yX11_hole cX11_hole 3 (some .int) ({ frames := 2, cells := 0, slots := 0, locals := 51 }) [.ref (a 0), .int x] [((a 0), .inr (11, [.ref (a 1), .ref (a 6), .ref (a 10), .ref (a 15), .ref (a 17), .ref (a 22), .ref (a 23), .ref (a 30), .ref (a 31), .ref (a 34), .int 0, .ref (a 37), .ref (a 40)])), ((a 6), .inr (10, [.ref (a 1), .ref (a 7), .ref (a 8), .ref (a 9), .int 0, .int 0, .int 0, .int 0, .int 1, .int 0, .int 0])), ((a 7), .inl (J.2.1, 10, .inl (fun _ => 0))), ((a 8), .inl (J.2.1, 10, .inl (fun _ => 0))), ((a 9), .inl (J.2.1, 10, .inl (fun _ => 0))), ((a 1), .inr (7, [.ref (a 2), .int 0, .ref (a 3), .int 0, .int 0, .int 0, .ref (a 4), .int 0, .ref (a 5), .int 0]))] sz (Qi J (fun (r : Int32) (_ : Unit) => r = sp_hole (x.toInt)) (fun (_ : Unit) => [])) 0 0 := by
  refine wc_of (by decide) (Nat.le_of_ble_eq_true rfl) ?_
  intro p e s m below meth c ls A hE hl hP hK hD hS hA
  obtain ⟨hx, hb, hr, hml, hown, hts, hlk, hin⟩ := hE
  have hown : s.vm.findClass RX11 = some m.cls := hown
  have hl : lv_has ls 3 [(0, .ref (a 0)), (1, .int x)] := hl
  have rg_x := i_rng x
  refine lv_aload_n hx hb dX11_hole_0 rfl (lv_at hl 0 rfl) ?_
  refine va_get (D := J.1) (ci := 11) (v := .ref (a 6)) (C := RX11) (T := TX11) (N := 13) hx hb hts inX11 hown hK.1 hP 0 rfl rfl 1 (by decide) (hts _ q_461) (fun _ h9 => h9) rfl dX11_hole_1 ?_
  refine lv_iload_n hx hb dX11_hole_4 rfl (lv_at hl 1 rfl) ?_
  refine go_i (rn_V (As := [.int x]) (rest := []) hx hb hml hown hts hK (cW_isWeight l J (a 6) (a 1) (a 7) (a 8) (a 9) x) kV_RX11_95 (hP.sub (ws' := [((a 6), .inr (10, [.ref (a 1), .ref (a 7), .ref (a 8), .ref (a 9), .int 0, .int 0, .int 0, .int 0, .int 1, .int 0, .int 0]))]) [1] rfl) rfl rfl rfl ⟨Nat.le_of_ble_eq_true rfl, Nat.le_of_ble_eq_true rfl⟩ rfl rfl rfl hl.1 rfl (Nat.le_of_ble_eq_true rfl) ⟨Nat.le_of_ble_eq_true rfl, Nat.le_of_ble_eq_true rfl⟩ dX11_hole_5) ?_
  refine lv_if_ne (tgt := 13) hx hb dX11_hole_8 (by decide) (fun c1 => ?_) (fun c1 => ?_)
  · have j2 := b1 c1
    refine lv_aload_n hx hb dX11_hole_13 rfl (lv_at hl 0 rfl) ?_
    refine va_get (D := J.1) (ci := 11) (v := .ref (a 6)) (C := RX11) (T := TX11) (N := 13) hx hb hts inX11 hown hK.1 hP 0 rfl rfl 1 (by decide) (hts _ q_461) (fun _ h9 => h9) rfl dX11_hole_14 ?_
    refine lv_iload_n hx hb dX11_hole_17 rfl (lv_at hl 1 rfl) ?_
    refine gw_i (wc := [((a 6), .inr (10, [.ref (a 1), .ref (a 7), .ref (a 8), .ref (a 9), .int 0, .int 0, .int 0, .int 0, .int 1, .int 0, .int 0])), ((a 7), .inl (J.2.1, 10, .inl (fun _ => 0)))]) (wr := [((a 0), .inr (11, [.ref (a 1), .ref (a 6), .ref (a 10), .ref (a 15), .ref (a 17), .ref (a 22), .ref (a 23), .ref (a 30), .ref (a 31), .ref (a 34), .int 0, .ref (a 37), .ref (a 40)])), ((a 8), .inl (J.2.1, 10, .inl (fun _ => 0))), ((a 9), .inl (J.2.1, 10, .inl (fun _ => 0))), ((a 1), .inr (7, [.ref (a 2), .int 0, .ref (a 3), .int 0, .int 0, .int 0, .ref (a 4), .int 0, .ref (a 5), .int 0]))]) hP hD hS hA [1, 2] [0, 3, 4, 5] rfl rfl (by decide) (by decide) (wn_V (As := [.int x]) (rest := []) hx hb hml hown hts hK (cW_addHole l J _ (a 6) (a 1) (a 7) (a 8) (a 9) x) kV_RX11_99 (hP.sub (ws' := [((a 6), .inr (10, [.ref (a 1), .ref (a 7), .ref (a 8), .ref (a 9), .int 0, .int 0, .int 0, .int 0, .int 1, .int 0, .int 0])), ((a 7), .inl (J.2.1, 10, .inl (fun _ => 0)))]) [1, 2] rfl) ((hD.sub (ws' := [((a 6), .inr (10, [.ref (a 1), .ref (a 7), .ref (a 8), .ref (a 9), .int 0, .int 0, .int 0, .int 0, .int 1, .int 0, .int 0])), ((a 7), .inl (J.2.1, 10, .inl (fun _ => 0)))]) [1, 2] (by decide) rfl).weaken (fun _ _ _ _ => trivial)) rfl rfl rfl ⟨Nat.le_of_ble_eq_true rfl, Nat.le_of_ble_eq_true rfl⟩ rfl rfl rfl hl.1 rfl (Nat.le_of_ble_eq_true rfl) ⟨Nat.le_of_ble_eq_true rfl, Nat.le_of_ble_eq_true rfl⟩ dX11_hole_18) (fun r4 u3 H locs hw hP hD hS => ?_)
    subst hw
    have hP : va_P J.1 cls [((a 0), .inr (11, [.ref (a 1), .ref (a 6), .ref (a 10), .ref (a 15), .ref (a 17), .ref (a 22), .ref (a 23), .ref (a 30), .ref (a 31), .ref (a 34), .int 0, .ref (a 37), .ref (a 40)])), ((a 8), .inl (J.2.1, 10, .inl (fun _ => 0))), ((a 9), .inl (J.2.1, 10, .inl (fun _ => 0))), ((a 1), .inr (7, [.ref (a 2), .int 0, .ref (a 3), .int 0, .int 0, .int 0, .ref (a 4), .int 0, .ref (a 5), .int 0])), ((a 6), .inr (10, [.ref (a 1), .ref (a 7), .ref (a 8), .ref (a 9), .int 1, .int 0, .int 1, .int 0, .int 1, .int 0, .int 1])), ((a 7), .inl (J.2.1, 10, .inl (upd (fun _ => 0) (0 : Int32).toNatClampNeg x)))] H := hP
    have hD : va_D A [((a 0), .inr (11, [.ref (a 1), .ref (a 6), .ref (a 10), .ref (a 15), .ref (a 17), .ref (a 22), .ref (a 23), .ref (a 30), .ref (a 31), .ref (a 34), .int 0, .ref (a 37), .ref (a 40)])), ((a 8), .inl (J.2.1, 10, .inl (fun _ => 0))), ((a 9), .inl (J.2.1, 10, .inl (fun _ => 0))), ((a 1), .inr (7, [.ref (a 2), .int 0, .ref (a 3), .int 0, .int 0, .int 0, .ref (a 4), .int 0, .ref (a 5), .int 0])), ((a 6), .inr (10, [.ref (a 1), .ref (a 7), .ref (a 8), .ref (a 9), .int 1, .int 0, .int 1, .int 0, .int 1, .int 0, .int 1])), ((a 7), .inl (J.2.1, 10, .inl (upd (fun _ => 0) (0 : Int32).toNatClampNeg x)))] := hD
    refine W.widen (k := 0) (n := 0) (Nat.le_of_ble_eq_true rfl) (Nat.le_of_ble_eq_true rfl) ?_
    refine lv_istore_n (lv' := [(2, .int 0), (0, .ref (a 0)), (1, .int x)]) hx hb dX11_hole_21 rfl hl (by decide) rfl (fun ls hl => ?_)
    refine lv_aload_n hx hb dX11_hole_22 rfl (lv_at hl 1 rfl) ?_
    refine va_get (D := J.1) (ci := 11) (v := .ref (a 6)) (C := RX11) (T := TX11) (N := 13) hx hb hts inX11 hown hK.1 hP 0 rfl rfl 1 (by decide) (hts _ q_461) (fun _ h9 => h9) rfl dX11_hole_23 ?_
    refine gw_v (wc := [((a 6), .inr (10, [.ref (a 1), .ref (a 7), .ref (a 8), .ref (a 9), .int 1, .int 0, .int 1, .int 0, .int 1, .int 0, .int 1])), ((a 1), .inr (7, [.ref (a 2), .int 0, .ref (a 3), .int 0, .int 0, .int 0, .ref (a 4), .int 0, .ref (a 5), .int 0])), ((a 7), .inl (J.2.1, 10, .inl (upd (fun _ => 0) (0 : Int32).toNatClampNeg x))), ((a 8), .inl (J.2.1, 10, .inl (fun _ => 0))), ((a 9), .inl (J.2.1, 10, .inl (fun _ => 0)))]) (wr := [((a 0), .inr (11, [.ref (a 1), .ref (a 6), .ref (a 10), .ref (a 15), .ref (a 17), .ref (a 22), .ref (a 23), .ref (a 30), .ref (a 31), .ref (a 34), .int 0, .ref (a 37), .ref (a 40)]))]) hP hD hS hA [4, 3, 5, 1, 2] [0] rfl rfl (by decide) (by decide) (wn_V (As := []) (rest := []) hx hb hml hown hts hK (cW_settle1 l J _ (a 6) (a 1) (a 7) (a 8) (a 9) (a 2) (a 3) (a 4) (a 5) x) kV_RX11_103 (hP.sub (ws' := [((a 6), .inr (10, [.ref (a 1), .ref (a 7), .ref (a 8), .ref (a 9), .int 1, .int 0, .int 1, .int 0, .int 1, .int 0, .int 1])), ((a 1), .inr (7, [.ref (a 2), .int 0, .ref (a 3), .int 0, .int 0, .int 0, .ref (a 4), .int 0, .ref (a 5), .int 0])), ((a 7), .inl (J.2.1, 10, .inl (upd (fun _ => 0) (0 : Int32).toNatClampNeg x))), ((a 8), .inl (J.2.1, 10, .inl (fun _ => 0))), ((a 9), .inl (J.2.1, 10, .inl (fun _ => 0)))]) [4, 3, 5, 1, 2] rfl) ((hD.sub (ws' := [((a 6), .inr (10, [.ref (a 1), .ref (a 7), .ref (a 8), .ref (a 9), .int 1, .int 0, .int 1, .int 0, .int 1, .int 0, .int 1])), ((a 1), .inr (7, [.ref (a 2), .int 0, .ref (a 3), .int 0, .int 0, .int 0, .ref (a 4), .int 0, .ref (a 5), .int 0])), ((a 7), .inl (J.2.1, 10, .inl (upd (fun _ => 0) (0 : Int32).toNatClampNeg x))), ((a 8), .inl (J.2.1, 10, .inl (fun _ => 0))), ((a 9), .inl (J.2.1, 10, .inl (fun _ => 0)))]) [4, 3, 5, 1, 2] (by decide) rfl).weaken (fun _ _ _ _ => trivial)) rfl rfl rfl ⟨Nat.le_of_ble_eq_true rfl, Nat.le_of_ble_eq_true rfl⟩ rfl rfl rfl hl.1 rfl (Nat.le_of_ble_eq_true rfl) ⟨Nat.le_of_ble_eq_true rfl, Nat.le_of_ble_eq_true rfl⟩ dX11_hole_26) (fun u5 H locs hw hP hD hS => ?_)
    have hP : va_P J.1 cls [((a 0), .inr (11, [.ref (a 1), .ref (a 6), .ref (a 10), .ref (a 15), .ref (a 17), .ref (a 22), .ref (a 23), .ref (a 30), .ref (a 31), .ref (a 34), .int 0, .ref (a 37), .ref (a 40)]))] H := hP
    have hD : va_D A [((a 0), .inr (11, [.ref (a 1), .ref (a 6), .ref (a 10), .ref (a 15), .ref (a 17), .ref (a 22), .ref (a 23), .ref (a 30), .ref (a 31), .ref (a 34), .int 0, .ref (a 37), .ref (a 40)]))] := hD
    refine W.widen (k := 0) (n := 0) (Nat.le_of_ble_eq_true rfl) (Nat.le_of_ble_eq_true rfl) ?_
    refine lv_iload_n hx hb dX11_hole_29 rfl (lv_at hl 0 rfl) ?_
    exact wz_i () hx hb hr hlk (by unfold sp_hole; (repeat' split) <;> first | rfl | (exfalso; omega)) (hP.sub (ws' := []) [] rfl) (hD.sub (ws' := []) [] (by decide) rfl) hS dX11_hole_30
  · have j6 := b0 c1
    refine lv_iconst (v := (-1)) hx hb dX11_hole_11 (by decide) ?_
    exact wz_i () hx hb hr hlk (by unfold sp_hole; (repeat' split) <;> first | rfl | (exfalso; omega)) (hP.sub (ws' := []) [] rfl) (hD.sub (ws' := []) [] (by decide) rfl) hS dX11_hole_12
theorem dX11_holes_0 : decode cX11_holes 0 = .ok (.aload_n 0, 1) := by decide +kernel
theorem dX11_holes_1 : decode cX11_holes 1 = .ok (.iload_n 1, 1) := by decide +kernel
theorem q_559 : Cond.methodLink RX11 106 yX11_shelfAt ∈ lw_g := mem_q 559 (by decide +kernel) rfl
theorem q_561 : Cond.instanceMethod yX11_shelfAt ∈ lw_g := mem_q 561 (by decide +kernel) rfl
theorem q_4 : Cond.selects RX11 yX11_shelfAt yX11_shelfAt ∈ lw_g := mem_q 4 (by decide +kernel) rfl
theorem q_562 : Cond.code yX11_shelfAt cX11_shelfAt 2 (some (.object "FoxHoles$Shelf")) ∈ lw_g := mem_q 562 (by decide +kernel) rfl
theorem kV_RX11_106 : CV RX11 106 RX11 yX11_shelfAt cX11_shelfAt 2 (some (.object "FoxHoles$Shelf")) 1 := cv_of q_559 q_561 q_4 q_103 q_562 (by decide +kernel)
theorem dX11_holes_2 : decode cX11_holes 2 = .ok (.invokevirtual 106, 3) := by decide +kernel
theorem dX11_holes_5 : decode cX11_holes 5 = .ok (.astore 4, 2) := by decide +kernel
theorem dX11_holes_7 : decode cX11_holes 7 = .ok (.aload 4, 2) := by decide +kernel
theorem dX11_holes_9 : decode cX11_holes 9 = .ok (.ifnull 14, 3) := by decide +kernel
theorem dX11_holes_12 : decode cX11_holes 12 = .ok (.iload_n 3, 1) := by decide +kernel
theorem dX11_holes_13 : decode cX11_holes 13 = .ok (.iconst 1, 1) := by decide +kernel
theorem dX11_holes_14 : decode cX11_holes 14 = .ok (.if_icmp .lt 9, 3) := by decide +kernel
theorem dX11_holes_23 : decode cX11_holes 23 = .ok (.iconst (-1), 1) := by decide +kernel
theorem dX11_holes_24 : decode cX11_holes 24 = .ok (.ireturn, 1) := by decide +kernel
theorem dX11_holes_17 : decode cX11_holes 17 = .ok (.iload_n 3, 1) := by decide +kernel
theorem dX11_holes_18 : decode cX11_holes 18 = .ok (.bipush 10, 2) := by decide +kernel
theorem dX11_holes_20 : decode cX11_holes 20 = .ok (.if_icmp .le 5, 3) := by decide +kernel
theorem dX11_holes_25 : decode cX11_holes 25 = .ok (.aload 4, 2) := by decide +kernel
theorem dX11_holes_27 : decode cX11_holes 27 = .ok (.invokevirtual 110, 3) := by decide +kernel
theorem dX11_holes_30 : decode cX11_holes 30 = .ok (.ifCond .eq 5, 3) := by decide +kernel
theorem dX11_holes_33 : decode cX11_holes 33 = .ok (.iconst 0, 1) := by decide +kernel
theorem dX11_holes_34 : decode cX11_holes 34 = .ok (.ireturn, 1) := by decide +kernel
set_option maxHeartbeats 4000000 in
set_option maxRecDepth 100000 in
theorem c_holes_in (l : Launch) (J : va_J9) (a : Nat → Nat) (f : Nat → Option Nat) (sh : Nat) (ce : Nat) (d : Int32) (i : Int32) (n : Int32) (hd : 0 ≤ d.toInt ∧ d.toInt ≤ 5) (hf : f d.toNatClampNeg = some sh) : RC l J yX11_holes cX11_holes 6 (some .int) ({ frames := 1, cells := 0, slots := 0, locals := 21 }) [.ref (a 0), .int d, .int i, .int n] [((a 0), .inr (11, [.ref (a 1), .ref (a 6), .ref (a 10), .ref (a 15), .ref (a 17), .ref (a 22), .ref (a 23), .ref (a 30), .ref (a 31), .ref (a 34), .int 0, .ref (a 37), .ref (a 40)])), ((a 40), .inl (J.2.2.2, 6, .inr (.inr (.inr (.inr f))))), (sh, .inr (9, [.ref ce, .int 0, .int 0, .int 0, .int 0]))] (vp_Si (fun r => r = sp_holes (d.toInt) (n.toInt))) := by
  refine rc_of (by decide) (Nat.le_of_ble_eq_true rfl) ?_
  intro p e s m below meth c ls hE hl hP hK
  obtain ⟨hx, hb, hr, hml, hown, hts, hlk, hin⟩ := hE
  have hown : s.vm.findClass RX11 = some m.cls := hown
  have hl : lv_has ls 6 [(0, .ref (a 0)), (1, .int d), (2, .int i), (3, .int n)] := hl
  have rg_d := i_rng d
  have rg_i := i_rng i
  have rg_n := i_rng n
  refine lv_aload_n hx hb dX11_holes_0 rfl (lv_at hl 0 rfl) ?_
  refine lv_iload_n hx hb dX11_holes_1 rfl (lv_at hl 1 rfl) ?_
  refine go_a (rn_V (As := [.int d]) (rest := []) hx hb hml hown hts hK (cF_shelfIn l J a f sh d ⟨by omega, by omega⟩ hf) kV_RX11_106 (hP.sub (ws' := [((a 0), .inr (11, [.ref (a 1), .ref (a 6), .ref (a 10), .ref (a 15), .ref (a 17), .ref (a 22), .ref (a 23), .ref (a 30), .ref (a 31), .ref (a 34), .int 0, .ref (a 37), .ref (a 40)])), ((a 40), .inl (J.2.2.2, 6, .inr (.inr (.inr (.inr f)))))]) [0, 1] rfl) rfl rfl rfl ⟨Nat.le_of_ble_eq_true rfl, Nat.le_of_ble_eq_true rfl⟩ rfl rfl rfl hl.1 rfl (Nat.le_of_ble_eq_true rfl) ⟨Nat.le_of_ble_eq_true rfl, Nat.le_of_ble_eq_true rfl⟩ dX11_holes_2) ?_
  refine top_q (y := sh) rfl ?_
  refine lv_astore (lv' := [(4, .ref sh), (0, .ref (a 0)), (1, .int d), (2, .int i), (3, .int n)]) hx hb dX11_holes_5 hl (by decide) rfl (fun ls hl => ?_)
  refine lv_aload hx hb dX11_holes_7 (lv_at hl 0 rfl) ?_
  refine lv_ifnull hx hb dX11_holes_9 ?_
  refine lv_iload_n hx hb dX11_holes_12 rfl (lv_at hl 4 rfl) ?_
  refine lv_iconst (v := 1) hx hb dX11_holes_13 (by decide) ?_
  refine lv_icmp_lt (tgt := 23) hx hb dX11_holes_14 (by decide) (fun c1 => ?_) (fun c1 => ?_)
  · have j2 : n.toInt < 1 := (i_lt rfl (by decide)).mp c1
    refine lv_iconst (v := (-1)) hx hb dX11_holes_23 (by decide) ?_
    exact rz_i hx hb hr hlk (by unfold sp_holes; (repeat' split) <;> first | rfl | (exfalso; omega)) dX11_holes_24
  · have j3 : ¬ (n.toInt < 1) := fun h => c1 ((i_lt rfl (by decide)).mpr h)
    refine lv_iload_n hx hb dX11_holes_17 rfl (lv_at hl 4 rfl) ?_
    refine lv_bipush (v := 10) hx hb dX11_holes_18 (by decide) ?_
    refine lv_icmp_le (tgt := 25) hx hb dX11_holes_20 (by decide) (fun c4 => ?_) (fun c4 => ?_)
    · have j5 : n.toInt ≤ 10 := (i_le rfl (by decide)).mp c4
      refine lv_aload hx hb dX11_holes_25 (lv_at hl 0 rfl) ?_
      refine go_i (rn_V (As := []) (rest := []) hx hb hml hown hts hK (cS_isEmpty l J sh ce) kV_RX11_110 (hP.sub (ws' := [(sh, .inr (9, [.ref ce, .int 0, .int 0, .int 0, .int 0]))]) [2] rfl) rfl rfl rfl ⟨Nat.le_of_ble_eq_true rfl, Nat.le_of_ble_eq_true rfl⟩ rfl rfl rfl hl.1 rfl (Nat.le_of_ble_eq_true rfl) ⟨Nat.le_of_ble_eq_true rfl, Nat.le_of_ble_eq_true rfl⟩ dX11_holes_27) ?_
      refine lv_if_eq (tgt := 35) hx hb dX11_holes_30 (by decide) (fun c => absurd c (by decide)) (fun _ => ?_)
      refine lv_iconst (v := 0) hx hb dX11_holes_33 (by decide) ?_
      exact rz_i hx hb hr hlk (by unfold sp_holes; (repeat' split) <;> first | rfl | (exfalso; omega)) dX11_holes_34
    · have j6 : ¬ (n.toInt ≤ 10) := fun h => c4 ((i_le rfl (by decide)).mpr h)
      refine lv_iconst (v := (-1)) hx hb dX11_holes_23 (by decide) ?_
      exact rz_i hx hb hr hlk (by unfold sp_holes; (repeat' split) <;> first | rfl | (exfalso; omega)) dX11_holes_24
set_option maxHeartbeats 4000000 in
set_option maxRecDepth 100000 in
theorem c_holes_out (l : Launch) (J : va_J9) (a : Nat → Nat) (d : Int32) (i : Int32) (n : Int32) (hd : ¬ (0 ≤ d.toInt ∧ d.toInt ≤ 5)) : RC l J yX11_holes cX11_holes 6 (some .int) ({ frames := 1, cells := 0, slots := 0, locals := 21 }) [.ref (a 0), .int d, .int i, .int n] [((a 0), .inr (11, [.ref (a 1), .ref (a 6), .ref (a 10), .ref (a 15), .ref (a 17), .ref (a 22), .ref (a 23), .ref (a 30), .ref (a 31), .ref (a 34), .int 0, .ref (a 37), .ref (a 40)]))] (vp_Si (fun r => r = sp_holes (d.toInt) (n.toInt))) := by
  refine rc_of (by decide) (Nat.le_of_ble_eq_true rfl) ?_
  intro p e s m below meth c ls hE hl hP hK
  obtain ⟨hx, hb, hr, hml, hown, hts, hlk, hin⟩ := hE
  have hown : s.vm.findClass RX11 = some m.cls := hown
  have hl : lv_has ls 6 [(0, .ref (a 0)), (1, .int d), (2, .int i), (3, .int n)] := hl
  have rg_d := i_rng d
  have rg_i := i_rng i
  have rg_n := i_rng n
  refine lv_aload_n hx hb dX11_holes_0 rfl (lv_at hl 0 rfl) ?_
  refine lv_iload_n hx hb dX11_holes_1 rfl (lv_at hl 1 rfl) ?_
  refine go_a (rn_V (As := [.int d]) (rest := []) hx hb hml hown hts hK (cF_shelfOut l J a d (by omega)) kV_RX11_106 hP rfl rfl rfl ⟨Nat.le_of_ble_eq_true rfl, Nat.le_of_ble_eq_true rfl⟩ rfl rfl rfl hl.1 rfl (Nat.le_of_ble_eq_true rfl) ⟨Nat.le_of_ble_eq_true rfl, Nat.le_of_ble_eq_true rfl⟩ dX11_holes_2) ?_
  refine top_n rfl ?_
  refine lv_astoreN (lv' := [(4, .null), (0, .ref (a 0)), (1, .int d), (2, .int i), (3, .int n)]) hx hb dX11_holes_5 hl (by decide) rfl (fun ls hl => ?_)
  refine lv_aloadN hx hb dX11_holes_7 (lv_at hl 0 rfl) ?_
  refine lv_ifnullN (tgt := 23) hx hb dX11_holes_9 (by decide) ?_
  refine lv_iconst (v := (-1)) hx hb dX11_holes_23 (by decide) ?_
  exact rz_i hx hb hr hlk (by unfold sp_holes; (repeat' split) <;> first | rfl | (exfalso; omega)) dX11_holes_24
theorem dX11_path_0 : decode cX11_path 0 = .ok (.aload_n 0, 1) := by decide +kernel
theorem dX11_path_1 : decode cX11_path 1 = .ok (.iload_n 1, 1) := by decide +kernel
theorem q_590 : Cond.methodLink RX11 121 yX11_areTwoHoles ∈ lw_g := mem_q 590 (by decide +kernel) rfl
theorem q_592 : Cond.instanceMethod yX11_areTwoHoles ∈ lw_g := mem_q 592 (by decide +kernel) rfl
theorem q_5 : Cond.selects RX11 yX11_areTwoHoles yX11_areTwoHoles ∈ lw_g := mem_q 5 (by decide +kernel) rfl
theorem q_593 : Cond.code yX11_areTwoHoles cX11_areTwoHoles 2 (some .boolean) ∈ lw_g := mem_q 593 (by decide +kernel) rfl
theorem kV_RX11_121 : CV RX11 121 RX11 yX11_areTwoHoles cX11_areTwoHoles 2 (some .boolean) 1 := cv_of q_590 q_592 q_5 q_103 q_593 (by decide +kernel)
theorem dX11_path_2 : decode cX11_path 2 = .ok (.invokevirtual 121, 3) := by decide +kernel
theorem dX11_path_5 : decode cX11_path 5 = .ok (.ifCond .eq 14, 3) := by decide +kernel
theorem dX11_path_19 : decode cX11_path 19 = .ok (.iconst (-1), 1) := by decide +kernel
theorem dX11_path_20 : decode cX11_path 20 = .ok (.ireturn, 1) := by decide +kernel
set_option maxHeartbeats 4000000 in
set_option maxRecDepth 100000 in
theorem c_path (l : Launch) (J : va_J9) (a : Nat → Nat) (x : Int32) : RC l J yX11_path cX11_path 3 (some .int) ({ frames := 2, cells := 0, slots := 0, locals := 42 }) [.ref (a 0), .int x] [((a 0), .inr (11, [.ref (a 1), .ref (a 6), .ref (a 10), .ref (a 15), .ref (a 17), .ref (a 22), .ref (a 23), .ref (a 30), .ref (a 31), .ref (a 34), .int 0, .ref (a 37), .ref (a 40)])), ((a 6), .inr (10, [.ref (a 1), .ref (a 7), .ref (a 8), .ref (a 9), .int 0, .int 0, .int 0, .int 0, .int 1, .int 0, .int 0]))] (vp_Si (fun r => r = (-1))) := by
  refine rc_of (by decide) (Nat.le_of_ble_eq_true rfl) ?_
  intro p e s m below meth c ls hE hl hP hK
  obtain ⟨hx, hb, hr, hml, hown, hts, hlk, hin⟩ := hE
  have hown : s.vm.findClass RX11 = some m.cls := hown
  have hl : lv_has ls 3 [(0, .ref (a 0)), (1, .int x)] := hl
  have rg_x := i_rng x
  refine lv_aload_n hx hb dX11_path_0 rfl (lv_at hl 0 rfl) ?_
  refine lv_iload_n hx hb dX11_path_1 rfl (lv_at hl 1 rfl) ?_
  refine go_i (rn_V (As := [.int x]) (rest := []) hx hb hml hown hts hK (cF_twoHoles l J a x) kV_RX11_121 hP rfl rfl rfl ⟨Nat.le_of_ble_eq_true rfl, Nat.le_of_ble_eq_true rfl⟩ rfl rfl rfl hl.1 rfl (Nat.le_of_ble_eq_true rfl) ⟨Nat.le_of_ble_eq_true rfl, Nat.le_of_ble_eq_true rfl⟩ dX11_path_2) ?_
  refine lv_if_eq (tgt := 19) hx hb dX11_path_5 (by decide) (fun _ => ?_) (fun c => absurd c (by decide))
  refine lv_iconst (v := (-1)) hx hb dX11_path_19 (by decide) ?_
  exact rz_i hx hb hr hlk (by decide) dX11_path_20
theorem dX11_mend_0 : decode cX11_mend 0 = .ok (.aload_n 0, 1) := by decide +kernel
theorem dX11_mend_1 : decode cX11_mend 1 = .ok (.getfield 21, 3) := by decide +kernel
theorem dX11_mend_4 : decode cX11_mend 4 = .ok (.iload_n 1, 1) := by decide +kernel
theorem dX11_mend_5 : decode cX11_mend 5 = .ok (.iload_n 2, 1) := by decide +kernel
theorem dX11_mend_6 : decode cX11_mend 6 = .ok (.iload_n 3, 1) := by decide +kernel
theorem q_617 : Cond.methodLink RX11 128 yX10_mayBecome ∈ lw_g := mem_q 617 (by decide +kernel) rfl
theorem kV_RX11_128 : CV RX11 128 RX10 yX10_mayBecome cX10_mayBecome 4 (some .boolean) 3 := cv_of q_617 q_618 q_619 q_105 q_620 (by decide +kernel)
theorem dX11_mend_7 : decode cX11_mend 7 = .ok (.invokevirtual 128, 3) := by decide +kernel
theorem dX11_mend_10 : decode cX11_mend 10 = .ok (.ifCond .ne 5, 3) := by decide +kernel
theorem dX11_mend_15 : decode cX11_mend 15 = .ok (.aload_n 0, 1) := by decide +kernel
theorem dX11_mend_16 : decode cX11_mend 16 = .ok (.getfield 21, 3) := by decide +kernel
theorem dX11_mend_19 : decode cX11_mend 19 = .ok (.iload_n 1, 1) := by decide +kernel
theorem dX11_mend_20 : decode cX11_mend 20 = .ok (.iload_n 2, 1) := by decide +kernel
theorem q_621 : Cond.methodLink RX11 132 yX10_told ∈ lw_g := mem_q 621 (by decide +kernel) rfl
theorem q_622 : Cond.instanceMethod yX10_told ∈ lw_g := mem_q 622 (by decide +kernel) rfl
theorem q_623 : Cond.selects RX10 yX10_told yX10_told ∈ lw_g := mem_q 623 (by decide +kernel) rfl
theorem q_624 : Cond.code yX10_told cX10_told 3 (some .int) ∈ lw_g := mem_q 624 (by decide +kernel) rfl
theorem kV_RX11_132 : CV RX11 132 RX10 yX10_told cX10_told 3 (some .int) 2 := cv_of q_621 q_622 q_623 q_105 q_624 (by decide +kernel)
theorem dX11_mend_21 : decode cX11_mend 21 = .ok (.invokevirtual 132, 3) := by decide +kernel
theorem dX11_mend_24 : decode cX11_mend 24 = .ok (.istore 4, 2) := by decide +kernel
theorem dX11_mend_26 : decode cX11_mend 26 = .ok (.iload 4, 2) := by decide +kernel
theorem dX11_mend_28 : decode cX11_mend 28 = .ok (.iload_n 3, 1) := by decide +kernel
theorem dX11_mend_29 : decode cX11_mend 29 = .ok (.if_icmp .eq 32, 3) := by decide +kernel
theorem dX11_mend_61 : decode cX11_mend 61 = .ok (.iload 4, 2) := by decide +kernel
theorem dX11_mend_63 : decode cX11_mend 63 = .ok (.ireturn, 1) := by decide +kernel
theorem dX11_mend_32 : decode cX11_mend 32 = .ok (.aload_n 0, 1) := by decide +kernel
theorem q_462 : Cond.fieldLink RX11 30 RX11 "changes" "LFoxHoles$Changes;" ∈ lw_g := mem_q 462 (by decide +kernel) rfl
theorem dX11_mend_33 : decode cX11_mend 33 = .ok (.getfield 30, 3) := by decide +kernel
theorem dX11_mend_36 : decode cX11_mend 36 = .ok (.iload_n 1, 1) := by decide +kernel
theorem dX11_mend_37 : decode cX11_mend 37 = .ok (.iload_n 2, 1) := by decide +kernel
theorem dX11_mend_38 : decode cX11_mend 38 = .ok (.iload 4, 2) := by decide +kernel
theorem dX11_mend_40 : decode cX11_mend 40 = .ok (.iload_n 3, 1) := by decide +kernel
theorem q_625 : Cond.methodLink RX11 135 yX2_note ∈ lw_g := mem_q 625 (by decide +kernel) rfl
theorem q_626 : Cond.instanceMethod yX2_note ∈ lw_g := mem_q 626 (by decide +kernel) rfl
theorem q_627 : Cond.selects RX2 yX2_note yX2_note ∈ lw_g := mem_q 627 (by decide +kernel) rfl
theorem q_106 : Cond.initialized RX2 ∈ lw_g := mem_q 106 (by decide +kernel) rfl
theorem q_628 : Cond.code yX2_note cX2_note 5 none ∈ lw_g := mem_q 628 (by decide +kernel) rfl
theorem kV_RX11_135 : CV RX11 135 RX2 yX2_note cX2_note 5 none 4 := cv_of q_625 q_626 q_627 q_106 q_628 (by decide +kernel)
theorem dX11_mend_41 : decode cX11_mend 41 = .ok (.invokevirtual 135, 3) := by decide +kernel
theorem dX11_mend_44 : decode cX11_mend 44 = .ok (.aload_n 0, 1) := by decide +kernel
theorem dX11_mend_45 : decode cX11_mend 45 = .ok (.getfield 21, 3) := by decide +kernel
theorem dX11_mend_48 : decode cX11_mend 48 = .ok (.iload_n 1, 1) := by decide +kernel
theorem dX11_mend_49 : decode cX11_mend 49 = .ok (.iload_n 2, 1) := by decide +kernel
theorem dX11_mend_50 : decode cX11_mend 50 = .ok (.iload_n 3, 1) := by decide +kernel
theorem q_633 : Cond.methodLink RX11 139 yX10_become ∈ lw_g := mem_q 633 (by decide +kernel) rfl
theorem q_634 : Cond.instanceMethod yX10_become ∈ lw_g := mem_q 634 (by decide +kernel) rfl
theorem q_635 : Cond.selects RX10 yX10_become yX10_become ∈ lw_g := mem_q 635 (by decide +kernel) rfl
theorem q_636 : Cond.code yX10_become cX10_become 4 none ∈ lw_g := mem_q 636 (by decide +kernel) rfl
theorem kV_RX11_139 : CV RX11 139 RX10 yX10_become cX10_become 4 none 3 := cv_of q_633 q_634 q_635 q_105 q_636 (by decide +kernel)
theorem dX11_mend_51 : decode cX11_mend 51 = .ok (.invokevirtual 139, 3) := by decide +kernel
theorem dX11_mend_54 : decode cX11_mend 54 = .ok (.aload_n 0, 1) := by decide +kernel
theorem dX11_mend_55 : decode cX11_mend 55 = .ok (.getfield 21, 3) := by decide +kernel
theorem dX11_mend_58 : decode cX11_mend 58 = .ok (.invokevirtual 103, 3) := by decide +kernel
theorem dX11_mend_13 : decode cX11_mend 13 = .ok (.iconst (-1), 1) := by decide +kernel
theorem dX11_mend_14 : decode cX11_mend 14 = .ok (.ireturn, 1) := by decide +kernel
set_option maxHeartbeats 4000000 in
set_option maxRecDepth 100000 in
theorem c_mend (l : Launch) (J : va_J9) (sz : Nat) (a : Nat → Nat) (n : Int32) (k : Int32) (v : Int32) : WC l J yX11_mend cX11_mend 5 (some .int) ({ frames := 2, cells := 0, slots := 0, locals := 46 }) [.ref (a 0), .int n, .int k, .int v] [((a 0), .inr (11, [.ref (a 1), .ref (a 6), .ref (a 10), .ref (a 15), .ref (a 17), .ref (a 22), .ref (a 23), .ref (a 30), .ref (a 31), .ref (a 34), .int 0, .ref (a 37), .ref (a 40)])), ((a 6), .inr (10, [.ref (a 1), .ref (a 7), .ref (a 8), .ref (a 9), .int 0, .int 0, .int 0, .int 0, .int 1, .int 0, .int 0])), ((a 10), .inr (2, [.ref (a 6), .ref (a 11), .ref (a 12), .ref (a 13), .ref (a 14), .int 0, .int 0])), ((a 11), .inl (J.2.1, 40, .inl (fun _ => 0))), ((a 12), .inl (J.2.1, 40, .inl (fun _ => 0))), ((a 13), .inl (J.2.1, 40, .inl (fun _ => 0))), ((a 14), .inl (J.2.1, 40, .inl (fun _ => 0)))] sz (Qi J (fun (r : Int32) (_ : Unit) => r = sp_mend (n.toInt) (k.toInt) (v.toInt)) (fun (_ : Unit) => [])) 0 0 := by
  refine wc_of (by decide) (Nat.le_of_ble_eq_true rfl) ?_
  intro p e s m below meth c ls A hE hl hP hK hD hS hA
  obtain ⟨hx, hb, hr, hml, hown, hts, hlk, hin⟩ := hE
  have hown : s.vm.findClass RX11 = some m.cls := hown
  have hl : lv_has ls 5 [(0, .ref (a 0)), (1, .int n), (2, .int k), (3, .int v)] := hl
  have rg_n := i_rng n
  have rg_k := i_rng k
  have rg_v := i_rng v
  refine lv_aload_n hx hb dX11_mend_0 rfl (lv_at hl 0 rfl) ?_
  refine va_get (D := J.1) (ci := 11) (v := .ref (a 6)) (C := RX11) (T := TX11) (N := 13) hx hb hts inX11 hown hK.1 hP 0 rfl rfl 1 (by decide) (hts _ q_461) (fun _ h9 => h9) rfl dX11_mend_1 ?_
  refine lv_iload_n hx hb dX11_mend_4 rfl (lv_at hl 1 rfl) ?_
  refine lv_iload_n hx hb dX11_mend_5 rfl (lv_at hl 2 rfl) ?_
  refine lv_iload_n hx hb dX11_mend_6 rfl (lv_at hl 3 rfl) ?_
  refine go_i (rn_V (As := [.int n, .int k, .int v]) (rest := []) hx hb hml hown hts hK (cW_mayBecome l J (a 6) (a 1) (a 7) (a 8) (a 9) n k v) kV_RX11_128 (hP.sub (ws' := [((a 6), .inr (10, [.ref (a 1), .ref (a 7), .ref (a 8), .ref (a 9), .int 0, .int 0, .int 0, .int 0, .int 1, .int 0, .int 0]))]) [1] rfl) rfl rfl rfl ⟨Nat.le_of_ble_eq_true rfl, Nat.le_of_ble_eq_true rfl⟩ rfl rfl rfl hl.1 rfl (Nat.le_of_ble_eq_true rfl) ⟨Nat.le_of_ble_eq_true rfl, Nat.le_of_ble_eq_true rfl⟩ dX11_mend_7) ?_
  refine lv_if_ne (tgt := 15) hx hb dX11_mend_10 (by decide) (fun c1 => ?_) (fun c1 => ?_)
  · have j2 := b1 c1
    obtain ⟨n0, hk⟩ := j2
    have kn : n = 0 := (i_eq rfl (by decide)).mpr n0
    rcases hk with hk | hk
    · have kk : k = 2 := (i_eq rfl (by decide)).mpr hk.1
      refine lv_aload_n hx hb dX11_mend_15 rfl (lv_at hl 0 rfl) ?_
      refine va_get (D := J.1) (ci := 11) (v := .ref (a 6)) (C := RX11) (T := TX11) (N := 13) hx hb hts inX11 hown hK.1 hP 0 rfl rfl 1 (by decide) (hts _ q_461) (fun _ h9 => h9) rfl dX11_mend_16 ?_
      refine lv_iload_n hx hb dX11_mend_19 rfl (lv_at hl 1 rfl) ?_
      refine top_i (y := 0) kn ?_
      refine lv_iload_n hx hb dX11_mend_20 rfl (lv_at hl 2 rfl) ?_
      refine top_i (y := 2) kk ?_
      refine go_i (rn_V (As := [.int 0, .int 2]) (rest := []) hx hb hml hown hts hK (cW_told2 l J (a 6) (a 1) (a 7) (a 8) (a 9) 0) kV_RX11_132 (hP.sub (ws' := [((a 6), .inr (10, [.ref (a 1), .ref (a 7), .ref (a 8), .ref (a 9), .int 0, .int 0, .int 0, .int 0, .int 1, .int 0, .int 0]))]) [1] rfl) rfl rfl rfl ⟨Nat.le_of_ble_eq_true rfl, Nat.le_of_ble_eq_true rfl⟩ rfl rfl rfl hl.1 rfl (Nat.le_of_ble_eq_true rfl) ⟨Nat.le_of_ble_eq_true rfl, Nat.le_of_ble_eq_true rfl⟩ dX11_mend_21) ?_
      refine lv_istore (lv' := [(4, .int 1), (0, .ref (a 0)), (1, .int n), (2, .int k), (3, .int v)]) hx hb dX11_mend_24 hl (by decide) rfl (fun ls hl => ?_)
      refine lv_iload hx hb dX11_mend_26 (lv_at hl 0 rfl) ?_
      refine lv_iload_n hx hb dX11_mend_28 rfl (lv_at hl 4 rfl) ?_
      refine lv_icmp_eq (tgt := 61) hx hb dX11_mend_29 (by decide) (fun c3 => ?_) (fun c3 => ?_)
      · have j4 : 1 = v.toInt := (i_eq (by decide) rfl).mp c3
        refine lv_iload hx hb dX11_mend_61 (lv_at hl 0 rfl) ?_
        exact wz_i () hx hb hr hlk (by unfold sp_mend; (repeat' split) <;> first | rfl | (exfalso; omega)) (hP.sub (ws' := []) [] rfl) (hD.sub (ws' := []) [] (by decide) rfl) hS dX11_mend_63
      · have j5 : ¬ (1 = v.toInt) := fun h => c3 ((i_eq (by decide) rfl).mpr h)
        refine lv_aload_n hx hb dX11_mend_32 rfl (lv_at hl 1 rfl) ?_
        refine va_get (D := J.1) (ci := 11) (v := .ref (a 10)) (C := RX11) (T := TX11) (N := 13) hx hb hts inX11 hown hK.1 hP 0 rfl rfl 2 (by decide) (hts _ q_462) (fun _ h9 => h9) rfl dX11_mend_33 ?_
        refine lv_iload_n hx hb dX11_mend_36 rfl (lv_at hl 2 rfl) ?_
        refine top_i (y := 0) kn ?_
        refine lv_iload_n hx hb dX11_mend_37 rfl (lv_at hl 3 rfl) ?_
        refine top_i (y := 2) kk ?_
        refine lv_iload hx hb dX11_mend_38 (lv_at hl 0 rfl) ?_
        refine lv_iload_n hx hb dX11_mend_40 rfl (lv_at hl 4 rfl) ?_
        refine gw_v (wc := [((a 10), .inr (2, [.ref (a 6), .ref (a 11), .ref (a 12), .ref (a 13), .ref (a 14), .int 0, .int 0])), ((a 11), .inl (J.2.1, 40, .inl (fun _ => 0))), ((a 12), .inl (J.2.1, 40, .inl (fun _ => 0))), ((a 13), .inl (J.2.1, 40, .inl (fun _ => 0))), ((a 14), .inl (J.2.1, 40, .inl (fun _ => 0)))]) (wr := [((a 0), .inr (11, [.ref (a 1), .ref (a 6), .ref (a 10), .ref (a 15), .ref (a 17), .ref (a 22), .ref (a 23), .ref (a 30), .ref (a 31), .ref (a 34), .int 0, .ref (a 37), .ref (a 40)])), ((a 6), .inr (10, [.ref (a 1), .ref (a 7), .ref (a 8), .ref (a 9), .int 0, .int 0, .int 0, .int 0, .int 1, .int 0, .int 0]))]) hP hD hS hA [2, 3, 4, 5, 6] [0, 1] rfl rfl (by decide) (by decide) (wn_V (As := [.int 0, .int 2, .int 1, .int v]) (rest := []) hx hb hml hown hts hK (cC_note l J _ (a 10) (a 6) (a 11) (a 12) (a 13) (a 14) 0 2 1 v) kV_RX11_135 (hP.sub (ws' := [((a 10), .inr (2, [.ref (a 6), .ref (a 11), .ref (a 12), .ref (a 13), .ref (a 14), .int 0, .int 0])), ((a 11), .inl (J.2.1, 40, .inl (fun _ => 0))), ((a 12), .inl (J.2.1, 40, .inl (fun _ => 0))), ((a 13), .inl (J.2.1, 40, .inl (fun _ => 0))), ((a 14), .inl (J.2.1, 40, .inl (fun _ => 0)))]) [2, 3, 4, 5, 6] rfl) ((hD.sub (ws' := [((a 10), .inr (2, [.ref (a 6), .ref (a 11), .ref (a 12), .ref (a 13), .ref (a 14), .int 0, .int 0])), ((a 11), .inl (J.2.1, 40, .inl (fun _ => 0))), ((a 12), .inl (J.2.1, 40, .inl (fun _ => 0))), ((a 13), .inl (J.2.1, 40, .inl (fun _ => 0))), ((a 14), .inl (J.2.1, 40, .inl (fun _ => 0)))]) [2, 3, 4, 5, 6] (by decide) rfl).weaken (fun _ _ _ _ => trivial)) rfl rfl rfl ⟨Nat.le_of_ble_eq_true rfl, Nat.le_of_ble_eq_true rfl⟩ rfl rfl rfl hl.1 rfl (Nat.le_of_ble_eq_true rfl) ⟨Nat.le_of_ble_eq_true rfl, Nat.le_of_ble_eq_true rfl⟩ dX11_mend_41) (fun u6 H locs hw hP hD hS => ?_)
        have hP : va_P J.1 cls [((a 0), .inr (11, [.ref (a 1), .ref (a 6), .ref (a 10), .ref (a 15), .ref (a 17), .ref (a 22), .ref (a 23), .ref (a 30), .ref (a 31), .ref (a 34), .int 0, .ref (a 37), .ref (a 40)])), ((a 6), .inr (10, [.ref (a 1), .ref (a 7), .ref (a 8), .ref (a 9), .int 0, .int 0, .int 0, .int 0, .int 1, .int 0, .int 0]))] H := hP
        have hD : va_D A [((a 0), .inr (11, [.ref (a 1), .ref (a 6), .ref (a 10), .ref (a 15), .ref (a 17), .ref (a 22), .ref (a 23), .ref (a 30), .ref (a 31), .ref (a 34), .int 0, .ref (a 37), .ref (a 40)])), ((a 6), .inr (10, [.ref (a 1), .ref (a 7), .ref (a 8), .ref (a 9), .int 0, .int 0, .int 0, .int 0, .int 1, .int 0, .int 0]))] := hD
        refine W.widen (k := 0) (n := 0) (Nat.le_of_ble_eq_true rfl) (Nat.le_of_ble_eq_true rfl) ?_
        refine lv_aload_n hx hb dX11_mend_44 rfl (lv_at hl 1 rfl) ?_
        refine va_get (D := J.1) (ci := 11) (v := .ref (a 6)) (C := RX11) (T := TX11) (N := 13) hx hb hts inX11 hown hK.1 hP 0 rfl rfl 1 (by decide) (hts _ q_461) (fun _ h9 => h9) rfl dX11_mend_45 ?_
        refine lv_iload_n hx hb dX11_mend_48 rfl (lv_at hl 2 rfl) ?_
        refine top_i (y := 0) kn ?_
        refine lv_iload_n hx hb dX11_mend_49 rfl (lv_at hl 3 rfl) ?_
        refine top_i (y := 2) kk ?_
        refine lv_iload_n hx hb dX11_mend_50 rfl (lv_at hl 4 rfl) ?_
        refine gw_v (wc := [((a 6), .inr (10, [.ref (a 1), .ref (a 7), .ref (a 8), .ref (a 9), .int 0, .int 0, .int 0, .int 0, .int 1, .int 0, .int 0]))]) (wr := [((a 0), .inr (11, [.ref (a 1), .ref (a 6), .ref (a 10), .ref (a 15), .ref (a 17), .ref (a 22), .ref (a 23), .ref (a 30), .ref (a 31), .ref (a 34), .int 0, .ref (a 37), .ref (a 40)]))]) hP hD hS hA [1] [0] rfl rfl (by decide) (by decide) (wn_V (As := [.int 0, .int 2, .int v]) (rest := []) hx hb hml hown hts hK (cW_become2 l J _ (a 6) (a 1) (a 7) (a 8) (a 9) v ⟨by omega, by omega⟩) kV_RX11_139 (hP.sub (ws' := [((a 6), .inr (10, [.ref (a 1), .ref (a 7), .ref (a 8), .ref (a 9), .int 0, .int 0, .int 0, .int 0, .int 1, .int 0, .int 0]))]) [1] rfl) ((hD.sub (ws' := [((a 6), .inr (10, [.ref (a 1), .ref (a 7), .ref (a 8), .ref (a 9), .int 0, .int 0, .int 0, .int 0, .int 1, .int 0, .int 0]))]) [1] (by decide) rfl).weaken (fun _ _ _ _ => trivial)) rfl rfl rfl ⟨Nat.le_of_ble_eq_true rfl, Nat.le_of_ble_eq_true rfl⟩ rfl rfl rfl hl.1 rfl (Nat.le_of_ble_eq_true rfl) ⟨Nat.le_of_ble_eq_true rfl, Nat.le_of_ble_eq_true rfl⟩ dX11_mend_51) (fun u7 H locs hw hP hD hS => ?_)
        have hP : va_P J.1 cls [((a 0), .inr (11, [.ref (a 1), .ref (a 6), .ref (a 10), .ref (a 15), .ref (a 17), .ref (a 22), .ref (a 23), .ref (a 30), .ref (a 31), .ref (a 34), .int 0, .ref (a 37), .ref (a 40)])), ((a 6), .inr (10, [.ref (a 1), .ref (a 7), .ref (a 8), .ref (a 9), .int 0, .int 0, .int 0, .int 0, .int v, .int 0, .int 1]))] H := hP
        have hD : va_D A [((a 0), .inr (11, [.ref (a 1), .ref (a 6), .ref (a 10), .ref (a 15), .ref (a 17), .ref (a 22), .ref (a 23), .ref (a 30), .ref (a 31), .ref (a 34), .int 0, .ref (a 37), .ref (a 40)])), ((a 6), .inr (10, [.ref (a 1), .ref (a 7), .ref (a 8), .ref (a 9), .int 0, .int 0, .int 0, .int 0, .int v, .int 0, .int 1]))] := hD
        refine W.widen (k := 0) (n := 0) (Nat.le_of_ble_eq_true rfl) (Nat.le_of_ble_eq_true rfl) ?_
        refine lv_aload_n hx hb dX11_mend_54 rfl (lv_at hl 1 rfl) ?_
        refine va_get (D := J.1) (ci := 11) (v := .ref (a 6)) (C := RX11) (T := TX11) (N := 13) hx hb hts inX11 hown hK.1 hP 0 rfl rfl 1 (by decide) (hts _ q_461) (fun _ h9 => h9) rfl dX11_mend_55 ?_
        refine go_v (rn_V (As := []) (rest := []) hx hb hml hown hts hK (cW_settle0 l J (a 6) (a 1) (a 7) (a 8) (a 9) 0 0 0 v 0 1) kV_RX11_103 (hP.sub (ws' := [((a 6), .inr (10, [.ref (a 1), .ref (a 7), .ref (a 8), .ref (a 9), .int 0, .int 0, .int 0, .int 0, .int v, .int 0, .int 1]))]) [1] rfl) rfl rfl rfl ⟨Nat.le_of_ble_eq_true rfl, Nat.le_of_ble_eq_true rfl⟩ rfl rfl rfl hl.1 rfl (Nat.le_of_ble_eq_true rfl) ⟨Nat.le_of_ble_eq_true rfl, Nat.le_of_ble_eq_true rfl⟩ dX11_mend_58) ?_
        refine lv_iload hx hb dX11_mend_61 (lv_at hl 0 rfl) ?_
        exact wz_i () hx hb hr hlk (by unfold sp_mend; (repeat' split) <;> first | rfl | (exfalso; omega)) (hP.sub (ws' := []) [] rfl) (hD.sub (ws' := []) [] (by decide) rfl) hS dX11_mend_63
    · have kk : k = 3 := (i_eq rfl (by decide)).mpr hk.1
      refine lv_aload_n hx hb dX11_mend_15 rfl (lv_at hl 0 rfl) ?_
      refine va_get (D := J.1) (ci := 11) (v := .ref (a 6)) (C := RX11) (T := TX11) (N := 13) hx hb hts inX11 hown hK.1 hP 0 rfl rfl 1 (by decide) (hts _ q_461) (fun _ h9 => h9) rfl dX11_mend_16 ?_
      refine lv_iload_n hx hb dX11_mend_19 rfl (lv_at hl 1 rfl) ?_
      refine top_i (y := 0) kn ?_
      refine lv_iload_n hx hb dX11_mend_20 rfl (lv_at hl 2 rfl) ?_
      refine top_i (y := 3) kk ?_
      refine go_i (rn_V (As := [.int 0, .int 3]) (rest := []) hx hb hml hown hts hK (cW_told3 l J (a 6) (a 1) (a 7) (a 8) (a 9) 0) kV_RX11_132 (hP.sub (ws' := [((a 6), .inr (10, [.ref (a 1), .ref (a 7), .ref (a 8), .ref (a 9), .int 0, .int 0, .int 0, .int 0, .int 1, .int 0, .int 0]))]) [1] rfl) rfl rfl rfl ⟨Nat.le_of_ble_eq_true rfl, Nat.le_of_ble_eq_true rfl⟩ rfl rfl rfl hl.1 rfl (Nat.le_of_ble_eq_true rfl) ⟨Nat.le_of_ble_eq_true rfl, Nat.le_of_ble_eq_true rfl⟩ dX11_mend_21) ?_
      refine lv_istore (lv' := [(4, .int 0), (0, .ref (a 0)), (1, .int n), (2, .int k), (3, .int v)]) hx hb dX11_mend_24 hl (by decide) rfl (fun ls hl => ?_)
      refine lv_iload hx hb dX11_mend_26 (lv_at hl 0 rfl) ?_
      refine lv_iload_n hx hb dX11_mend_28 rfl (lv_at hl 4 rfl) ?_
      refine lv_icmp_eq (tgt := 61) hx hb dX11_mend_29 (by decide) (fun c8 => ?_) (fun c8 => ?_)
      · have j9 : 0 = v.toInt := (i_eq (by decide) rfl).mp c8
        refine lv_iload hx hb dX11_mend_61 (lv_at hl 0 rfl) ?_
        exact wz_i () hx hb hr hlk (by unfold sp_mend; (repeat' split) <;> first | rfl | (exfalso; omega)) (hP.sub (ws' := []) [] rfl) (hD.sub (ws' := []) [] (by decide) rfl) hS dX11_mend_63
      · have j10 : ¬ (0 = v.toInt) := fun h => c8 ((i_eq (by decide) rfl).mpr h)
        refine lv_aload_n hx hb dX11_mend_32 rfl (lv_at hl 1 rfl) ?_
        refine va_get (D := J.1) (ci := 11) (v := .ref (a 10)) (C := RX11) (T := TX11) (N := 13) hx hb hts inX11 hown hK.1 hP 0 rfl rfl 2 (by decide) (hts _ q_462) (fun _ h9 => h9) rfl dX11_mend_33 ?_
        refine lv_iload_n hx hb dX11_mend_36 rfl (lv_at hl 2 rfl) ?_
        refine top_i (y := 0) kn ?_
        refine lv_iload_n hx hb dX11_mend_37 rfl (lv_at hl 3 rfl) ?_
        refine top_i (y := 3) kk ?_
        refine lv_iload hx hb dX11_mend_38 (lv_at hl 0 rfl) ?_
        refine lv_iload_n hx hb dX11_mend_40 rfl (lv_at hl 4 rfl) ?_
        refine gw_v (wc := [((a 10), .inr (2, [.ref (a 6), .ref (a 11), .ref (a 12), .ref (a 13), .ref (a 14), .int 0, .int 0])), ((a 11), .inl (J.2.1, 40, .inl (fun _ => 0))), ((a 12), .inl (J.2.1, 40, .inl (fun _ => 0))), ((a 13), .inl (J.2.1, 40, .inl (fun _ => 0))), ((a 14), .inl (J.2.1, 40, .inl (fun _ => 0)))]) (wr := [((a 0), .inr (11, [.ref (a 1), .ref (a 6), .ref (a 10), .ref (a 15), .ref (a 17), .ref (a 22), .ref (a 23), .ref (a 30), .ref (a 31), .ref (a 34), .int 0, .ref (a 37), .ref (a 40)])), ((a 6), .inr (10, [.ref (a 1), .ref (a 7), .ref (a 8), .ref (a 9), .int 0, .int 0, .int 0, .int 0, .int 1, .int 0, .int 0]))]) hP hD hS hA [2, 3, 4, 5, 6] [0, 1] rfl rfl (by decide) (by decide) (wn_V (As := [.int 0, .int 3, .int 0, .int v]) (rest := []) hx hb hml hown hts hK (cC_note l J _ (a 10) (a 6) (a 11) (a 12) (a 13) (a 14) 0 3 0 v) kV_RX11_135 (hP.sub (ws' := [((a 10), .inr (2, [.ref (a 6), .ref (a 11), .ref (a 12), .ref (a 13), .ref (a 14), .int 0, .int 0])), ((a 11), .inl (J.2.1, 40, .inl (fun _ => 0))), ((a 12), .inl (J.2.1, 40, .inl (fun _ => 0))), ((a 13), .inl (J.2.1, 40, .inl (fun _ => 0))), ((a 14), .inl (J.2.1, 40, .inl (fun _ => 0)))]) [2, 3, 4, 5, 6] rfl) ((hD.sub (ws' := [((a 10), .inr (2, [.ref (a 6), .ref (a 11), .ref (a 12), .ref (a 13), .ref (a 14), .int 0, .int 0])), ((a 11), .inl (J.2.1, 40, .inl (fun _ => 0))), ((a 12), .inl (J.2.1, 40, .inl (fun _ => 0))), ((a 13), .inl (J.2.1, 40, .inl (fun _ => 0))), ((a 14), .inl (J.2.1, 40, .inl (fun _ => 0)))]) [2, 3, 4, 5, 6] (by decide) rfl).weaken (fun _ _ _ _ => trivial)) rfl rfl rfl ⟨Nat.le_of_ble_eq_true rfl, Nat.le_of_ble_eq_true rfl⟩ rfl rfl rfl hl.1 rfl (Nat.le_of_ble_eq_true rfl) ⟨Nat.le_of_ble_eq_true rfl, Nat.le_of_ble_eq_true rfl⟩ dX11_mend_41) (fun u11 H locs hw hP hD hS => ?_)
        have hP : va_P J.1 cls [((a 0), .inr (11, [.ref (a 1), .ref (a 6), .ref (a 10), .ref (a 15), .ref (a 17), .ref (a 22), .ref (a 23), .ref (a 30), .ref (a 31), .ref (a 34), .int 0, .ref (a 37), .ref (a 40)])), ((a 6), .inr (10, [.ref (a 1), .ref (a 7), .ref (a 8), .ref (a 9), .int 0, .int 0, .int 0, .int 0, .int 1, .int 0, .int 0]))] H := hP
        have hD : va_D A [((a 0), .inr (11, [.ref (a 1), .ref (a 6), .ref (a 10), .ref (a 15), .ref (a 17), .ref (a 22), .ref (a 23), .ref (a 30), .ref (a 31), .ref (a 34), .int 0, .ref (a 37), .ref (a 40)])), ((a 6), .inr (10, [.ref (a 1), .ref (a 7), .ref (a 8), .ref (a 9), .int 0, .int 0, .int 0, .int 0, .int 1, .int 0, .int 0]))] := hD
        refine W.widen (k := 0) (n := 0) (Nat.le_of_ble_eq_true rfl) (Nat.le_of_ble_eq_true rfl) ?_
        refine lv_aload_n hx hb dX11_mend_44 rfl (lv_at hl 1 rfl) ?_
        refine va_get (D := J.1) (ci := 11) (v := .ref (a 6)) (C := RX11) (T := TX11) (N := 13) hx hb hts inX11 hown hK.1 hP 0 rfl rfl 1 (by decide) (hts _ q_461) (fun _ h9 => h9) rfl dX11_mend_45 ?_
        refine lv_iload_n hx hb dX11_mend_48 rfl (lv_at hl 2 rfl) ?_
        refine top_i (y := 0) kn ?_
        refine lv_iload_n hx hb dX11_mend_49 rfl (lv_at hl 3 rfl) ?_
        refine top_i (y := 3) kk ?_
        refine lv_iload_n hx hb dX11_mend_50 rfl (lv_at hl 4 rfl) ?_
        refine gw_v (wc := [((a 6), .inr (10, [.ref (a 1), .ref (a 7), .ref (a 8), .ref (a 9), .int 0, .int 0, .int 0, .int 0, .int 1, .int 0, .int 0]))]) (wr := [((a 0), .inr (11, [.ref (a 1), .ref (a 6), .ref (a 10), .ref (a 15), .ref (a 17), .ref (a 22), .ref (a 23), .ref (a 30), .ref (a 31), .ref (a 34), .int 0, .ref (a 37), .ref (a 40)]))]) hP hD hS hA [1] [0] rfl rfl (by decide) (by decide) (wn_V (As := [.int 0, .int 3, .int v]) (rest := []) hx hb hml hown hts hK (cW_become3 l J _ (a 6) (a 1) (a 7) (a 8) (a 9) v ⟨by omega, by omega⟩) kV_RX11_139 (hP.sub (ws' := [((a 6), .inr (10, [.ref (a 1), .ref (a 7), .ref (a 8), .ref (a 9), .int 0, .int 0, .int 0, .int 0, .int 1, .int 0, .int 0]))]) [1] rfl) ((hD.sub (ws' := [((a 6), .inr (10, [.ref (a 1), .ref (a 7), .ref (a 8), .ref (a 9), .int 0, .int 0, .int 0, .int 0, .int 1, .int 0, .int 0]))]) [1] (by decide) rfl).weaken (fun _ _ _ _ => trivial)) rfl rfl rfl ⟨Nat.le_of_ble_eq_true rfl, Nat.le_of_ble_eq_true rfl⟩ rfl rfl rfl hl.1 rfl (Nat.le_of_ble_eq_true rfl) ⟨Nat.le_of_ble_eq_true rfl, Nat.le_of_ble_eq_true rfl⟩ dX11_mend_51) (fun u12 H locs hw hP hD hS => ?_)
        have hP : va_P J.1 cls [((a 0), .inr (11, [.ref (a 1), .ref (a 6), .ref (a 10), .ref (a 15), .ref (a 17), .ref (a 22), .ref (a 23), .ref (a 30), .ref (a 31), .ref (a 34), .int 0, .ref (a 37), .ref (a 40)])), ((a 6), .inr (10, [.ref (a 1), .ref (a 7), .ref (a 8), .ref (a 9), .int 0, .int 0, .int 0, .int 0, .int 1, .int v, .int 1]))] H := hP
        have hD : va_D A [((a 0), .inr (11, [.ref (a 1), .ref (a 6), .ref (a 10), .ref (a 15), .ref (a 17), .ref (a 22), .ref (a 23), .ref (a 30), .ref (a 31), .ref (a 34), .int 0, .ref (a 37), .ref (a 40)])), ((a 6), .inr (10, [.ref (a 1), .ref (a 7), .ref (a 8), .ref (a 9), .int 0, .int 0, .int 0, .int 0, .int 1, .int v, .int 1]))] := hD
        refine W.widen (k := 0) (n := 0) (Nat.le_of_ble_eq_true rfl) (Nat.le_of_ble_eq_true rfl) ?_
        refine lv_aload_n hx hb dX11_mend_54 rfl (lv_at hl 1 rfl) ?_
        refine va_get (D := J.1) (ci := 11) (v := .ref (a 6)) (C := RX11) (T := TX11) (N := 13) hx hb hts inX11 hown hK.1 hP 0 rfl rfl 1 (by decide) (hts _ q_461) (fun _ h9 => h9) rfl dX11_mend_55 ?_
        refine go_v (rn_V (As := []) (rest := []) hx hb hml hown hts hK (cW_settle0 l J (a 6) (a 1) (a 7) (a 8) (a 9) 0 0 0 1 v 1) kV_RX11_103 (hP.sub (ws' := [((a 6), .inr (10, [.ref (a 1), .ref (a 7), .ref (a 8), .ref (a 9), .int 0, .int 0, .int 0, .int 0, .int 1, .int v, .int 1]))]) [1] rfl) rfl rfl rfl ⟨Nat.le_of_ble_eq_true rfl, Nat.le_of_ble_eq_true rfl⟩ rfl rfl rfl hl.1 rfl (Nat.le_of_ble_eq_true rfl) ⟨Nat.le_of_ble_eq_true rfl, Nat.le_of_ble_eq_true rfl⟩ dX11_mend_58) ?_
        refine lv_iload hx hb dX11_mend_61 (lv_at hl 0 rfl) ?_
        exact wz_i () hx hb hr hlk (by unfold sp_mend; (repeat' split) <;> first | rfl | (exfalso; omega)) (hP.sub (ws' := []) [] rfl) (hD.sub (ws' := []) [] (by decide) rfl) hS dX11_mend_63
  · have j13 := b0 c1
    refine lv_iconst (v := (-1)) hx hb dX11_mend_13 (by decide) ?_
    exact wz_i () hx hb hr hlk (by unfold sp_mend; (repeat' split) <;> first | rfl | (exfalso; omega)) (hP.sub (ws' := []) [] rfl) (hD.sub (ws' := []) [] (by decide) rfl) hS dX11_mend_14
theorem dX11_ofAll_0 : decode cX11_ofAll 0 = .ok (.iload_n 1, 1) := by decide +kernel
theorem dX11_ofAll_1 : decode cX11_ofAll 1 = .ok (.tableswitch 90 10 14 #[35, 43, 51, 59, 82], 35) := by decide +kernel
theorem dX11_ofAll_36 : decode cX11_ofAll 36 = .ok (.aload_n 0, 1) := by decide +kernel
theorem dX11_ofAll_37 : decode cX11_ofAll 37 = .ok (.getfield 21, 3) := by decide +kernel
theorem q_187 : Cond.fieldLink RX11 162 RX10 "lookers" "I" ∈ lw_g := mem_q 187 (by decide +kernel) rfl
theorem dX11_ofAll_40 : decode cX11_ofAll 40 = .ok (.getfield 162, 3) := by decide +kernel
theorem dX11_ofAll_43 : decode cX11_ofAll 43 = .ok (.ireturn, 1) := by decide +kernel
theorem dX11_ofAll_44 : decode cX11_ofAll 44 = .ok (.aload_n 0, 1) := by decide +kernel
theorem dX11_ofAll_45 : decode cX11_ofAll 45 = .ok (.getfield 21, 3) := by decide +kernel
theorem q_188 : Cond.fieldLink RX11 166 RX10 "sleep" "I" ∈ lw_g := mem_q 188 (by decide +kernel) rfl
theorem dX11_ofAll_48 : decode cX11_ofAll 48 = .ok (.getfield 166, 3) := by decide +kernel
theorem dX11_ofAll_51 : decode cX11_ofAll 51 = .ok (.ireturn, 1) := by decide +kernel
theorem dX11_ofAll_52 : decode cX11_ofAll 52 = .ok (.aload_n 0, 1) := by decide +kernel
theorem q_468 : Cond.fieldLink RX11 74 RX11 "deed" "LFoxHoles$Deed;" ∈ lw_g := mem_q 468 (by decide +kernel) rfl
theorem dX11_ofAll_53 : decode cX11_ofAll 53 = .ok (.getfield 74, 3) := by decide +kernel
theorem q_390 : Cond.fieldLink RX11 169 RX3 "day" "I" ∈ lw_g := mem_q 390 (by decide +kernel) rfl
theorem dX11_ofAll_56 : decode cX11_ofAll 56 = .ok (.getfield 169, 3) := by decide +kernel
theorem dX11_ofAll_59 : decode cX11_ofAll 59 = .ok (.ireturn, 1) := by decide +kernel
theorem dX11_ofAll_60 : decode cX11_ofAll 60 = .ok (.aload_n 0, 1) := by decide +kernel
theorem dX11_ofAll_61 : decode cX11_ofAll 61 = .ok (.getfield 74, 3) := by decide +kernel
theorem q_388 : Cond.fieldLink RX11 172 RX3 "hidden" "Z" ∈ lw_g := mem_q 388 (by decide +kernel) rfl
theorem dX11_ofAll_64 : decode cX11_ofAll 64 = .ok (.getfield 172, 3) := by decide +kernel
theorem dX11_ofAll_67 : decode cX11_ofAll 67 = .ok (.ifCond .eq 13, 3) := by decide +kernel
theorem dX11_ofAll_80 : decode cX11_ofAll 80 = .ok (.bipush (-5), 2) := by decide +kernel
theorem dX11_ofAll_82 : decode cX11_ofAll 82 = .ok (.ireturn, 1) := by decide +kernel
theorem dX11_ofAll_83 : decode cX11_ofAll 83 = .ok (.aload_n 0, 1) := by decide +kernel
theorem dX11_ofAll_84 : decode cX11_ofAll 84 = .ok (.getfield 74, 3) := by decide +kernel
theorem q_394 : Cond.fieldLink RX11 179 RX3 "foxes" "I" ∈ lw_g := mem_q 394 (by decide +kernel) rfl
theorem dX11_ofAll_87 : decode cX11_ofAll 87 = .ok (.getfield 179, 3) := by decide +kernel
theorem dX11_ofAll_90 : decode cX11_ofAll 90 = .ok (.ireturn, 1) := by decide +kernel
theorem q_667 : Cond.constant RX11 149 (-2000000000) ∈ lw_g := mem_q 667 (by decide +kernel) rfl
theorem dX11_ofAll_91 : decode cX11_ofAll 91 = .ok (.ldc 149, 2) := by decide +kernel
theorem dX11_ofAll_93 : decode cX11_ofAll 93 = .ok (.ireturn, 1) := by decide +kernel
set_option maxHeartbeats 4000000 in
set_option maxRecDepth 100000 in
theorem cF_ofAll (l : Launch) (J : va_J9) (a : Nat → Nat) (k : Int32) : RC l J yX11_ofAll cX11_ofAll 2 (some .int) ({ frames := 0, cells := 0, slots := 0, locals := 0 }) [.ref (a 0), .int k] [((a 0), .inr (11, [.ref (a 1), .ref (a 6), .ref (a 10), .ref (a 15), .ref (a 17), .ref (a 22), .ref (a 23), .ref (a 30), .ref (a 31), .ref (a 34), .int 0, .ref (a 37), .ref (a 40)])), ((a 6), .inr (10, [.ref (a 1), .ref (a 7), .ref (a 8), .ref (a 9), .int 0, .int 0, .int 0, .int 0, .int 1, .int 0, .int 0])), ((a 31), .inr (3, [.ref (a 6), .ref (a 32), .ref (a 33), .int 0, .int 0, .int 0, .int 0, .int 0]))] (vp_Si (fun r => r = sp_of 0 (k.toInt))) := by
  refine rc_of (by decide) (Nat.le_of_ble_eq_true rfl) ?_
  intro p e s m below meth c ls hE hl hP hK
  obtain ⟨hx, hb, hr, hml, hown, hts, hlk, hin⟩ := hE
  have hown : s.vm.findClass RX11 = some m.cls := hown
  have hl : lv_has ls 2 [(0, .ref (a 0)), (1, .int k)] := hl
  have rg_k := i_rng k
  refine lv_iload_n hx hb dX11_ofAll_0 rfl (lv_at hl 1 rfl) ?_
  rcases Decidable.em (k = 10) with c1 | c1
  · have j2 : k.toInt = 10 := (i_eq rfl (by decide)).mp c1
    refine top_i (y := 10) c1 ?_
    refine lv_tableIn (tgt := 36) (off := 35) hx hb dX11_ofAll_1 (by decide) (by decide) (by decide) (by decide) ?_
    refine lv_aload_n hx hb dX11_ofAll_36 rfl (lv_at hl 0 rfl) ?_
    refine va_get (D := J.1) (ci := 11) (v := .ref (a 6)) (C := RX11) (T := TX11) (N := 13) hx hb hts inX11 hown hK.1 hP 0 rfl rfl 1 (by decide) (hts _ q_461) (fun _ h9 => h9) rfl dX11_ofAll_37 ?_
    refine va_get (D := J.1) (ci := 10) (v := .int 1) (C := RX10) (T := TX10) (N := 11) hx hb hts inX10 hown hK.1 hP 1 rfl rfl 8 (by decide) (hts _ q_187) (fun _ h9 => h9) rfl dX11_ofAll_40 ?_
    exact rz_i hx hb hr hlk (by unfold sp_of; (repeat' split) <;> first | rfl | (exfalso; omega)) dX11_ofAll_43
  have j3 : ¬ (k.toInt = 10) := fun h => c1 ((i_eq rfl (by decide)).mpr h)
  rcases Decidable.em (k = 11) with c4 | c4
  · have j5 : k.toInt = 11 := (i_eq rfl (by decide)).mp c4
    refine top_i (y := 11) c4 ?_
    refine lv_tableIn (tgt := 44) (off := 43) hx hb dX11_ofAll_1 (by decide) (by decide) (by decide) (by decide) ?_
    refine lv_aload_n hx hb dX11_ofAll_44 rfl (lv_at hl 0 rfl) ?_
    refine va_get (D := J.1) (ci := 11) (v := .ref (a 6)) (C := RX11) (T := TX11) (N := 13) hx hb hts inX11 hown hK.1 hP 0 rfl rfl 1 (by decide) (hts _ q_461) (fun _ h9 => h9) rfl dX11_ofAll_45 ?_
    refine va_get (D := J.1) (ci := 10) (v := .int 0) (C := RX10) (T := TX10) (N := 11) hx hb hts inX10 hown hK.1 hP 1 rfl rfl 9 (by decide) (hts _ q_188) (fun _ h9 => h9) rfl dX11_ofAll_48 ?_
    exact rz_i hx hb hr hlk (by unfold sp_of; (repeat' split) <;> first | rfl | (exfalso; omega)) dX11_ofAll_51
  have j6 : ¬ (k.toInt = 11) := fun h => c4 ((i_eq rfl (by decide)).mpr h)
  rcases Decidable.em (k = 12) with c7 | c7
  · have j8 : k.toInt = 12 := (i_eq rfl (by decide)).mp c7
    refine top_i (y := 12) c7 ?_
    refine lv_tableIn (tgt := 52) (off := 51) hx hb dX11_ofAll_1 (by decide) (by decide) (by decide) (by decide) ?_
    refine lv_aload_n hx hb dX11_ofAll_52 rfl (lv_at hl 0 rfl) ?_
    refine va_get (D := J.1) (ci := 11) (v := .ref (a 31)) (C := RX11) (T := TX11) (N := 13) hx hb hts inX11 hown hK.1 hP 0 rfl rfl 8 (by decide) (hts _ q_468) (fun _ h9 => h9) rfl dX11_ofAll_53 ?_
    refine va_get (D := J.1) (ci := 3) (v := .int 0) (C := RX3) (T := TX3) (N := 8) hx hb hts inX3 hown hK.1 hP 2 rfl rfl 5 (by decide) (hts _ q_390) (fun _ h9 => h9) rfl dX11_ofAll_56 ?_
    exact rz_i hx hb hr hlk (by unfold sp_of; (repeat' split) <;> first | rfl | (exfalso; omega)) dX11_ofAll_59
  have j9 : ¬ (k.toInt = 12) := fun h => c7 ((i_eq rfl (by decide)).mpr h)
  rcases Decidable.em (k = 13) with c10 | c10
  · have j11 : k.toInt = 13 := (i_eq rfl (by decide)).mp c10
    refine top_i (y := 13) c10 ?_
    refine lv_tableIn (tgt := 60) (off := 59) hx hb dX11_ofAll_1 (by decide) (by decide) (by decide) (by decide) ?_
    refine lv_aload_n hx hb dX11_ofAll_60 rfl (lv_at hl 0 rfl) ?_
    refine va_get (D := J.1) (ci := 11) (v := .ref (a 31)) (C := RX11) (T := TX11) (N := 13) hx hb hts inX11 hown hK.1 hP 0 rfl rfl 8 (by decide) (hts _ q_468) (fun _ h9 => h9) rfl dX11_ofAll_61 ?_
    refine va_get (D := J.1) (ci := 3) (v := .int 0) (C := RX3) (T := TX3) (N := 8) hx hb hts inX3 hown hK.1 hP 2 rfl rfl 4 (by decide) (hts _ q_388) (fun _ h9 => h9) rfl dX11_ofAll_64 ?_
    refine lv_if_eq (tgt := 80) hx hb dX11_ofAll_67 (by decide) (fun _ => ?_) (fun c => absurd c (by decide))
    refine lv_bipush (v := (-5)) hx hb dX11_ofAll_80 (by decide) ?_
    exact rz_i hx hb hr hlk (by unfold sp_of; (repeat' split) <;> first | rfl | (exfalso; omega)) dX11_ofAll_82
  have j12 : ¬ (k.toInt = 13) := fun h => c10 ((i_eq rfl (by decide)).mpr h)
  rcases Decidable.em (k = 14) with c13 | c13
  · have j14 : k.toInt = 14 := (i_eq rfl (by decide)).mp c13
    refine top_i (y := 14) c13 ?_
    refine lv_tableIn (tgt := 83) (off := 82) hx hb dX11_ofAll_1 (by decide) (by decide) (by decide) (by decide) ?_
    refine lv_aload_n hx hb dX11_ofAll_83 rfl (lv_at hl 0 rfl) ?_
    refine va_get (D := J.1) (ci := 11) (v := .ref (a 31)) (C := RX11) (T := TX11) (N := 13) hx hb hts inX11 hown hK.1 hP 0 rfl rfl 8 (by decide) (hts _ q_468) (fun _ h9 => h9) rfl dX11_ofAll_84 ?_
    refine va_get (D := J.1) (ci := 3) (v := .int 0) (C := RX3) (T := TX3) (N := 8) hx hb hts inX3 hown hK.1 hP 2 rfl rfl 7 (by decide) (hts _ q_394) (fun _ h9 => h9) rfl dX11_ofAll_87 ?_
    exact rz_i hx hb hr hlk (by unfold sp_of; (repeat' split) <;> first | rfl | (exfalso; omega)) dX11_ofAll_90
  have j15 : ¬ (k.toInt = 14) := fun h => c13 ((i_eq rfl (by decide)).mpr h)
  refine lv_tableOut (tgt := 91) hx hb dX11_ofAll_1 (by omega) (by decide) ?_
  refine lv_ldc (v := (-2000000000)) hx hb hown (hts _ q_667) dX11_ofAll_91 ?_
  exact rz_i hx hb hr hlk (by unfold sp_of; (repeat' split) <;> first | rfl | (exfalso; omega)) dX11_ofAll_93
theorem dX11_of_0 : decode cX11_of 0 = .ok (.iload_n 2, 1) := by decide +kernel
theorem dX11_of_1 : decode cX11_of 1 = .ok (.ifCond .lt 31, 3) := by decide +kernel
theorem dX11_of_32 : decode cX11_of 32 = .ok (.iload_n 1, 1) := by decide +kernel
theorem dX11_of_33 : decode cX11_of 33 = .ok (.ifCond .ne 11, 3) := by decide +kernel
theorem dX11_of_44 : decode cX11_of 44 = .ok (.ldc 149, 2) := by decide +kernel
theorem dX11_of_46 : decode cX11_of 46 = .ok (.ireturn, 1) := by decide +kernel
theorem dX11_of_36 : decode cX11_of 36 = .ok (.aload_n 0, 1) := by decide +kernel
theorem dX11_of_37 : decode cX11_of 37 = .ok (.iload_n 2, 1) := by decide +kernel
theorem q_668 : Cond.methodLink RX11 150 yX11_ofAll ∈ lw_g := mem_q 668 (by decide +kernel) rfl
theorem q_670 : Cond.instanceMethod yX11_ofAll ∈ lw_g := mem_q 670 (by decide +kernel) rfl
theorem q_8 : Cond.selects RX11 yX11_ofAll yX11_ofAll ∈ lw_g := mem_q 8 (by decide +kernel) rfl
theorem q_671 : Cond.code yX11_ofAll cX11_ofAll 2 (some .int) ∈ lw_g := mem_q 671 (by decide +kernel) rfl
theorem kV_RX11_150 : CV RX11 150 RX11 yX11_ofAll cX11_ofAll 2 (some .int) 1 := cv_of q_668 q_670 q_8 q_103 q_671 (by decide +kernel)
theorem dX11_of_38 : decode cX11_of 38 = .ok (.invokevirtual 150, 3) := by decide +kernel
theorem dX11_of_41 : decode cX11_of 41 = .ok (.goto 5, 3) := by decide +kernel
theorem dX11_of_4 : decode cX11_of 4 = .ok (.iload_n 2, 1) := by decide +kernel
theorem dX11_of_5 : decode cX11_of 5 = .ok (.iconst 4, 1) := by decide +kernel
theorem dX11_of_6 : decode cX11_of 6 = .ok (.if_icmp .gt 26, 3) := by decide +kernel
theorem dX11_of_9 : decode cX11_of 9 = .ok (.aload_n 0, 1) := by decide +kernel
theorem dX11_of_10 : decode cX11_of 10 = .ok (.getfield 21, 3) := by decide +kernel
theorem dX11_of_13 : decode cX11_of 13 = .ok (.iload_n 1, 1) := by decide +kernel
theorem dX11_of_14 : decode cX11_of 14 = .ok (.invokevirtual 143, 3) := by decide +kernel
theorem dX11_of_17 : decode cX11_of 17 = .ok (.ifCond .eq 12, 3) := by decide +kernel
theorem dX11_of_29 : decode cX11_of 29 = .ok (.ldc 149, 2) := by decide +kernel
theorem dX11_of_31 : decode cX11_of 31 = .ok (.ireturn, 1) := by decide +kernel
set_option maxHeartbeats 4000000 in
set_option maxRecDepth 100000 in
theorem c_of (l : Launch) (J : va_J9) (a : Nat → Nat) (n : Int32) (k : Int32) : RC l J yX11_of cX11_of 3 (some .int) ({ frames := 1, cells := 0, slots := 0, locals := 21 }) [.ref (a 0), .int n, .int k] [((a 0), .inr (11, [.ref (a 1), .ref (a 6), .ref (a 10), .ref (a 15), .ref (a 17), .ref (a 22), .ref (a 23), .ref (a 30), .ref (a 31), .ref (a 34), .int 0, .ref (a 37), .ref (a 40)])), ((a 6), .inr (10, [.ref (a 1), .ref (a 7), .ref (a 8), .ref (a 9), .int 0, .int 0, .int 0, .int 0, .int 1, .int 0, .int 0])), ((a 31), .inr (3, [.ref (a 6), .ref (a 32), .ref (a 33), .int 0, .int 0, .int 0, .int 0, .int 0]))] (vp_Si (fun r => r = sp_of (n.toInt) (k.toInt))) := by
  refine rc_of (by decide) (Nat.le_of_ble_eq_true rfl) ?_
  intro p e s m below meth c ls hE hl hP hK
  obtain ⟨hx, hb, hr, hml, hown, hts, hlk, hin⟩ := hE
  have hown : s.vm.findClass RX11 = some m.cls := hown
  have hl : lv_has ls 3 [(0, .ref (a 0)), (1, .int n), (2, .int k)] := hl
  have rg_n := i_rng n
  have rg_k := i_rng k
  refine lv_iload_n hx hb dX11_of_0 rfl (lv_at hl 2 rfl) ?_
  refine lv_if_lt (tgt := 32) hx hb dX11_of_1 (by decide) (fun c1 => ?_) (fun c1 => ?_)
  · have j2 : k.toInt < 0 := (i_lt rfl (by decide)).mp c1
    refine lv_iload_n hx hb dX11_of_32 rfl (lv_at hl 1 rfl) ?_
    refine lv_if_ne (tgt := 44) hx hb dX11_of_33 (by decide) (fun c3 => ?_) (fun c3 => ?_)
    · have j4 : ¬ (n.toInt = 0) := fun h => c3 ((i_eq rfl (by decide)).mpr h)
      refine lv_ldc (v := (-2000000000)) hx hb hown (hts _ q_667) dX11_of_44 ?_
      exact rz_i hx hb hr hlk (by unfold sp_of; (repeat' split) <;> first | rfl | (exfalso; omega)) dX11_of_46
    · have j5 : n.toInt = 0 := (i_eq rfl (by decide)).mp c3
      refine lv_aload_n hx hb dX11_of_36 rfl (lv_at hl 0 rfl) ?_
      refine lv_iload_n hx hb dX11_of_37 rfl (lv_at hl 2 rfl) ?_
      refine go_i (rn_V (As := [.int k]) (rest := []) hx hb hml hown hts hK (cF_ofAll l J a k) kV_RX11_150 hP rfl rfl rfl ⟨Nat.le_of_ble_eq_true rfl, Nat.le_of_ble_eq_true rfl⟩ rfl rfl rfl hl.1 rfl (Nat.le_of_ble_eq_true rfl) ⟨Nat.le_of_ble_eq_true rfl, Nat.le_of_ble_eq_true rfl⟩ dX11_of_38) ?_
      refine lv_goto (tgt := 46) hx hb dX11_of_41 (by decide) ?_
      exact rz_i hx hb hr hlk (by unfold sp_of; (repeat' split) <;> first | rfl | (exfalso; omega)) dX11_of_46
  · have j6 : ¬ (k.toInt < 0) := fun h => c1 ((i_lt rfl (by decide)).mpr h)
    refine lv_iload_n hx hb dX11_of_4 rfl (lv_at hl 2 rfl) ?_
    refine lv_iconst (v := 4) hx hb dX11_of_5 (by decide) ?_
    refine lv_icmp_gt (tgt := 32) hx hb dX11_of_6 (by decide) (fun c7 => ?_) (fun c7 => ?_)
    · have j8 : 4 < k.toInt := (i_lt (by decide) rfl).mp c7
      refine lv_iload_n hx hb dX11_of_32 rfl (lv_at hl 1 rfl) ?_
      refine lv_if_ne (tgt := 44) hx hb dX11_of_33 (by decide) (fun c9 => ?_) (fun c9 => ?_)
      · have j10 : ¬ (n.toInt = 0) := fun h => c9 ((i_eq rfl (by decide)).mpr h)
        refine lv_ldc (v := (-2000000000)) hx hb hown (hts _ q_667) dX11_of_44 ?_
        exact rz_i hx hb hr hlk (by unfold sp_of; (repeat' split) <;> first | rfl | (exfalso; omega)) dX11_of_46
      · have j11 : n.toInt = 0 := (i_eq rfl (by decide)).mp c9
        refine lv_aload_n hx hb dX11_of_36 rfl (lv_at hl 0 rfl) ?_
        refine lv_iload_n hx hb dX11_of_37 rfl (lv_at hl 2 rfl) ?_
        refine go_i (rn_V (As := [.int k]) (rest := []) hx hb hml hown hts hK (cF_ofAll l J a k) kV_RX11_150 hP rfl rfl rfl ⟨Nat.le_of_ble_eq_true rfl, Nat.le_of_ble_eq_true rfl⟩ rfl rfl rfl hl.1 rfl (Nat.le_of_ble_eq_true rfl) ⟨Nat.le_of_ble_eq_true rfl, Nat.le_of_ble_eq_true rfl⟩ dX11_of_38) ?_
        refine lv_goto (tgt := 46) hx hb dX11_of_41 (by decide) ?_
        exact rz_i hx hb hr hlk (by unfold sp_of; (repeat' split) <;> first | rfl | (exfalso; omega)) dX11_of_46
    · have j12 : ¬ (4 < k.toInt) := fun h => c7 ((i_lt (by decide) rfl).mpr h)
      refine lv_aload_n hx hb dX11_of_9 rfl (lv_at hl 0 rfl) ?_
      refine va_get (D := J.1) (ci := 11) (v := .ref (a 6)) (C := RX11) (T := TX11) (N := 13) hx hb hts inX11 hown hK.1 hP 0 rfl rfl 1 (by decide) (hts _ q_461) (fun _ h9 => h9) rfl dX11_of_10 ?_
      refine lv_iload_n hx hb dX11_of_13 rfl (lv_at hl 1 rfl) ?_
      refine go_i (rn_V (As := [.int n]) (rest := []) hx hb hml hown hts hK (cW_isHole l J (a 6) (a 1) (a 7) (a 8) (a 9) n) kV_RX11_143 (hP.sub (ws' := [((a 6), .inr (10, [.ref (a 1), .ref (a 7), .ref (a 8), .ref (a 9), .int 0, .int 0, .int 0, .int 0, .int 1, .int 0, .int 0]))]) [1] rfl) rfl rfl rfl ⟨Nat.le_of_ble_eq_true rfl, Nat.le_of_ble_eq_true rfl⟩ rfl rfl rfl hl.1 rfl (Nat.le_of_ble_eq_true rfl) ⟨Nat.le_of_ble_eq_true rfl, Nat.le_of_ble_eq_true rfl⟩ dX11_of_14) ?_
      refine lv_if_eq (tgt := 29) hx hb dX11_of_17 (by decide) (fun _ => ?_) (fun c => absurd c (by decide))
      refine lv_ldc (v := (-2000000000)) hx hb hown (hts _ q_667) dX11_of_29 ?_
      exact rz_i hx hb hr hlk (by unfold sp_of; (repeat' split) <;> first | rfl | (exfalso; omega)) dX11_of_31
theorem dX11_feed_0 : decode cX11_feed 0 = .ok (.iload_n 1, 1) := by decide +kernel
theorem dX11_feed_1 : decode cX11_feed 1 = .ok (.ifCond .lt 10, 3) := by decide +kernel
theorem dX11_feed_11 : decode cX11_feed 11 = .ok (.iconst (-1), 1) := by decide +kernel
theorem dX11_feed_12 : decode cX11_feed 12 = .ok (.ireturn, 1) := by decide +kernel
theorem dX11_feed_4 : decode cX11_feed 4 = .ok (.iload_n 1, 1) := by decide +kernel
theorem dX11_feed_5 : decode cX11_feed 5 = .ok (.sipush 255, 3) := by decide +kernel
theorem dX11_feed_8 : decode cX11_feed 8 = .ok (.if_icmp .le 5, 3) := by decide +kernel
theorem dX11_feed_13 : decode cX11_feed 13 = .ok (.aload_n 0, 1) := by decide +kernel
theorem q_460 : Cond.fieldLink RX11 10 RX11 "text" "LFoxHoles$Law;" ∈ lw_g := mem_q 460 (by decide +kernel) rfl
theorem dX11_feed_14 : decode cX11_feed 14 = .ok (.getfield 10, 3) := by decide +kernel
theorem dX11_feed_17 : decode cX11_feed 17 = .ok (.iload_n 1, 1) := by decide +kernel
theorem q_676 : Cond.methodLink RX11 182 yX7_write ∈ lw_g := mem_q 676 (by decide +kernel) rfl
theorem q_677 : Cond.instanceMethod yX7_write ∈ lw_g := mem_q 677 (by decide +kernel) rfl
theorem q_678 : Cond.selects RX7 yX7_write yX7_write ∈ lw_g := mem_q 678 (by decide +kernel) rfl
theorem q_679 : Cond.code yX7_write cX7_write 2 (some .int) ∈ lw_g := mem_q 679 (by decide +kernel) rfl
theorem kV_RX11_182 : CV RX11 182 RX7 yX7_write cX7_write 2 (some .int) 1 := cv_of q_676 q_677 q_678 q_104 q_679 (by decide +kernel)
theorem dX11_feed_18 : decode cX11_feed 18 = .ok (.invokevirtual 182, 3) := by decide +kernel
theorem dX11_feed_21 : decode cX11_feed 21 = .ok (.ireturn, 1) := by decide +kernel
set_option maxHeartbeats 4000000 in
set_option maxRecDepth 100000 in
theorem c_feed (l : Launch) (J : va_J9) (sz : Nat) (a : Nat → Nat) (x : Int32) : WC l J yX11_feed cX11_feed 2 (some .int) ({ frames := 1, cells := 0, slots := 0, locals := 21 }) [.ref (a 0), .int x] [((a 0), .inr (11, [.ref (a 1), .ref (a 6), .ref (a 10), .ref (a 15), .ref (a 17), .ref (a 22), .ref (a 23), .ref (a 30), .ref (a 31), .ref (a 34), .int 0, .ref (a 37), .ref (a 40)])), ((a 1), .inr (7, [.ref (a 2), .int 0, .ref (a 3), .int 0, .int 0, .int 0, .ref (a 4), .int 0, .ref (a 5), .int 0])), ((a 2), .inl (J.2.1, 120, .inl (fun _ => 0)))] sz (Qi J (fun (r : Int32) (_ : Unit) => r = sp_feed (x.toInt)) (fun (_ : Unit) => [])) 0 0 := by
  refine wc_of (by decide) (Nat.le_of_ble_eq_true rfl) ?_
  intro p e s m below meth c ls A hE hl hP hK hD hS hA
  obtain ⟨hx, hb, hr, hml, hown, hts, hlk, hin⟩ := hE
  have hown : s.vm.findClass RX11 = some m.cls := hown
  have hl : lv_has ls 2 [(0, .ref (a 0)), (1, .int x)] := hl
  have rg_x := i_rng x
  refine lv_iload_n hx hb dX11_feed_0 rfl (lv_at hl 1 rfl) ?_
  refine lv_if_lt (tgt := 11) hx hb dX11_feed_1 (by decide) (fun c1 => ?_) (fun c1 => ?_)
  · have j2 : x.toInt < 0 := (i_lt rfl (by decide)).mp c1
    refine lv_iconst (v := (-1)) hx hb dX11_feed_11 (by decide) ?_
    exact wz_i () hx hb hr hlk (by unfold sp_feed; (repeat' split) <;> first | rfl | (exfalso; omega)) (hP.sub (ws' := []) [] rfl) (hD.sub (ws' := []) [] (by decide) rfl) hS dX11_feed_12
  · have j3 : ¬ (x.toInt < 0) := fun h => c1 ((i_lt rfl (by decide)).mpr h)
    refine lv_iload_n hx hb dX11_feed_4 rfl (lv_at hl 1 rfl) ?_
    refine lv_sipush (v := 255) hx hb dX11_feed_5 (by decide) ?_
    refine lv_icmp_le (tgt := 13) hx hb dX11_feed_8 (by decide) (fun c4 => ?_) (fun c4 => ?_)
    · have j5 : x.toInt ≤ 255 := (i_le rfl (by decide)).mp c4
      refine lv_aload_n hx hb dX11_feed_13 rfl (lv_at hl 0 rfl) ?_
      refine va_get (D := J.1) (ci := 11) (v := .ref (a 1)) (C := RX11) (T := TX11) (N := 13) hx hb hts inX11 hown hK.1 hP 0 rfl rfl 0 (by decide) (hts _ q_460) (fun _ h9 => h9) rfl dX11_feed_14 ?_
      refine lv_iload_n hx hb dX11_feed_17 rfl (lv_at hl 1 rfl) ?_
      refine gw_i (wc := [((a 1), .inr (7, [.ref (a 2), .int 0, .ref (a 3), .int 0, .int 0, .int 0, .ref (a 4), .int 0, .ref (a 5), .int 0])), ((a 2), .inl (J.2.1, 120, .inl (fun _ => 0)))]) (wr := [((a 0), .inr (11, [.ref (a 1), .ref (a 6), .ref (a 10), .ref (a 15), .ref (a 17), .ref (a 22), .ref (a 23), .ref (a 30), .ref (a 31), .ref (a 34), .int 0, .ref (a 37), .ref (a 40)]))]) hP hD hS hA [1, 2] [0] rfl rfl (by decide) (by decide) (wn_V (As := [.int x]) (rest := []) hx hb hml hown hts hK (cL_write l J _ (a 1) (a 2) (a 3) (a 4) (a 5) x) kV_RX11_182 (hP.sub (ws' := [((a 1), .inr (7, [.ref (a 2), .int 0, .ref (a 3), .int 0, .int 0, .int 0, .ref (a 4), .int 0, .ref (a 5), .int 0])), ((a 2), .inl (J.2.1, 120, .inl (fun _ => 0)))]) [1, 2] rfl) ((hD.sub (ws' := [((a 1), .inr (7, [.ref (a 2), .int 0, .ref (a 3), .int 0, .int 0, .int 0, .ref (a 4), .int 0, .ref (a 5), .int 0])), ((a 2), .inl (J.2.1, 120, .inl (fun _ => 0)))]) [1, 2] (by decide) rfl).weaken (fun _ _ _ _ => trivial)) rfl rfl rfl ⟨Nat.le_of_ble_eq_true rfl, Nat.le_of_ble_eq_true rfl⟩ rfl rfl rfl hl.1 rfl (Nat.le_of_ble_eq_true rfl) ⟨Nat.le_of_ble_eq_true rfl, Nat.le_of_ble_eq_true rfl⟩ dX11_feed_18) (fun r7 u6 H locs hw hP hD hS => ?_)
      subst hw
      have hP : va_P J.1 cls [((a 0), .inr (11, [.ref (a 1), .ref (a 6), .ref (a 10), .ref (a 15), .ref (a 17), .ref (a 22), .ref (a 23), .ref (a 30), .ref (a 31), .ref (a 34), .int 0, .ref (a 37), .ref (a 40)]))] H := hP
      have hD : va_D A [((a 0), .inr (11, [.ref (a 1), .ref (a 6), .ref (a 10), .ref (a 15), .ref (a 17), .ref (a 22), .ref (a 23), .ref (a 30), .ref (a 31), .ref (a 34), .int 0, .ref (a 37), .ref (a 40)]))] := hD
      refine W.widen (k := 0) (n := 0) (Nat.le_of_ble_eq_true rfl) (Nat.le_of_ble_eq_true rfl) ?_
      exact wz_i () hx hb hr hlk (by unfold sp_feed; (repeat' split) <;> first | rfl | (exfalso; omega)) (hP.sub (ws' := []) [] rfl) (hD.sub (ws' := []) [] (by decide) rfl) hS dX11_feed_21
    · have j8 : ¬ (x.toInt ≤ 255) := fun h => c4 ((i_le rfl (by decide)).mpr h)
      refine lv_iconst (v := (-1)) hx hb dX11_feed_11 (by decide) ?_
      exact wz_i () hx hb hr hlk (by unfold sp_feed; (repeat' split) <;> first | rfl | (exfalso; omega)) (hP.sub (ws' := []) [] rfl) (hD.sub (ws' := []) [] (by decide) rfl) hS dX11_feed_12
theorem dX11_law_0 : decode cX11_law 0 = .ok (.aload_n 0, 1) := by decide +kernel
theorem dX11_law_1 : decode cX11_law 1 = .ok (.getfield 10, 3) := by decide +kernel
theorem q_684 : Cond.methodLink RX11 185 yX7_read ∈ lw_g := mem_q 684 (by decide +kernel) rfl
theorem q_685 : Cond.instanceMethod yX7_read ∈ lw_g := mem_q 685 (by decide +kernel) rfl
theorem q_686 : Cond.selects RX7 yX7_read yX7_read ∈ lw_g := mem_q 686 (by decide +kernel) rfl
theorem q_687 : Cond.code yX7_read cX7_read 1 (some .int) ∈ lw_g := mem_q 687 (by decide +kernel) rfl
theorem kV_RX11_185 : CV RX11 185 RX7 yX7_read cX7_read 1 (some .int) 0 := cv_of q_684 q_685 q_686 q_104 q_687 (by decide +kernel)
theorem dX11_law_4 : decode cX11_law 4 = .ok (.invokevirtual 185, 3) := by decide +kernel
theorem dX11_law_7 : decode cX11_law 7 = .ok (.istore_n 1, 1) := by decide +kernel
theorem dX11_law_8 : decode cX11_law 8 = .ok (.iload_n 1, 1) := by decide +kernel
theorem dX11_law_9 : decode cX11_law 9 = .ok (.iconst 1, 1) := by decide +kernel
theorem dX11_law_10 : decode cX11_law 10 = .ok (.if_icmp .ne 17, 3) := by decide +kernel
theorem dX11_law_27 : decode cX11_law 27 = .ok (.iload_n 1, 1) := by decide +kernel
theorem dX11_law_28 : decode cX11_law 28 = .ok (.ireturn, 1) := by decide +kernel
set_option maxHeartbeats 4000000 in
set_option maxRecDepth 100000 in
theorem c_law (l : Launch) (J : va_J9) (sz : Nat) (a : Nat → Nat) : WC l J yX11_law cX11_law 2 (some .int) ({ frames := 11, cells := 0, slots := 0, locals := 248 }) [.ref (a 0)] [((a 0), .inr (11, [.ref (a 1), .ref (a 6), .ref (a 10), .ref (a 15), .ref (a 17), .ref (a 22), .ref (a 23), .ref (a 30), .ref (a 31), .ref (a 34), .int 0, .ref (a 37), .ref (a 40)])), ((a 1), .inr (7, [.ref (a 2), .int 0, .ref (a 3), .int 0, .int 0, .int 0, .ref (a 4), .int 0, .ref (a 5), .int 0])), ((a 3), .inl (J.2.1, 256, .inl (fun _ => 0)))] sz (Qi J (fun (r : Int32) (_ : Unit) => r = (-100)) (fun (_ : Unit) => [])) 0 0 := by
  refine wc_of (by decide) (Nat.le_of_ble_eq_true rfl) ?_
  intro p e s m below meth c ls A hE hl hP hK hD hS hA
  obtain ⟨hx, hb, hr, hml, hown, hts, hlk, hin⟩ := hE
  have hown : s.vm.findClass RX11 = some m.cls := hown
  have hl : lv_has ls 2 [(0, .ref (a 0))] := hl
  refine lv_aload_n hx hb dX11_law_0 rfl (lv_at hl 0 rfl) ?_
  refine va_get (D := J.1) (ci := 11) (v := .ref (a 1)) (C := RX11) (T := TX11) (N := 13) hx hb hts inX11 hown hK.1 hP 0 rfl rfl 0 (by decide) (hts _ q_460) (fun _ h9 => h9) rfl dX11_law_1 ?_
  refine gw_i (wc := [((a 1), .inr (7, [.ref (a 2), .int 0, .ref (a 3), .int 0, .int 0, .int 0, .ref (a 4), .int 0, .ref (a 5), .int 0])), ((a 3), .inl (J.2.1, 256, .inl (fun _ => 0)))]) (wr := [((a 0), .inr (11, [.ref (a 1), .ref (a 6), .ref (a 10), .ref (a 15), .ref (a 17), .ref (a 22), .ref (a 23), .ref (a 30), .ref (a 31), .ref (a 34), .int 0, .ref (a 37), .ref (a 40)]))]) hP hD hS hA [1, 2] [0] rfl rfl (by decide) (by decide) (wn_V (As := []) (rest := []) hx hb hml hown hts hK (cL_read l J _ (a 1) (a 2) (a 3) (a 4) (a 5)) kV_RX11_185 (hP.sub (ws' := [((a 1), .inr (7, [.ref (a 2), .int 0, .ref (a 3), .int 0, .int 0, .int 0, .ref (a 4), .int 0, .ref (a 5), .int 0])), ((a 3), .inl (J.2.1, 256, .inl (fun _ => 0)))]) [1, 2] rfl) ((hD.sub (ws' := [((a 1), .inr (7, [.ref (a 2), .int 0, .ref (a 3), .int 0, .int 0, .int 0, .ref (a 4), .int 0, .ref (a 5), .int 0])), ((a 3), .inl (J.2.1, 256, .inl (fun _ => 0)))]) [1, 2] (by decide) rfl).weaken (fun _ _ _ _ => trivial)) rfl rfl rfl ⟨Nat.le_of_ble_eq_true rfl, Nat.le_of_ble_eq_true rfl⟩ rfl rfl rfl hl.1 rfl (Nat.le_of_ble_eq_true rfl) ⟨Nat.le_of_ble_eq_true rfl, Nat.le_of_ble_eq_true rfl⟩ dX11_law_4) (fun r2 u1 H locs hw hP hD hS => ?_)
  subst hw
  have hP : va_P J.1 cls [((a 0), .inr (11, [.ref (a 1), .ref (a 6), .ref (a 10), .ref (a 15), .ref (a 17), .ref (a 22), .ref (a 23), .ref (a 30), .ref (a 31), .ref (a 34), .int 0, .ref (a 37), .ref (a 40)]))] H := hP
  have hD : va_D A [((a 0), .inr (11, [.ref (a 1), .ref (a 6), .ref (a 10), .ref (a 15), .ref (a 17), .ref (a 22), .ref (a 23), .ref (a 30), .ref (a 31), .ref (a 34), .int 0, .ref (a 37), .ref (a 40)]))] := hD
  refine W.widen (k := 0) (n := 0) (Nat.le_of_ble_eq_true rfl) (Nat.le_of_ble_eq_true rfl) ?_
  refine lv_istore_n (lv' := [(1, .int (-100)), (0, .ref (a 0))]) hx hb dX11_law_7 rfl hl (by decide) rfl (fun ls hl => ?_)
  refine lv_iload_n hx hb dX11_law_8 rfl (lv_at hl 0 rfl) ?_
  refine lv_iconst (v := 1) hx hb dX11_law_9 (by decide) ?_
  refine lv_icmp_ne (tgt := 27) hx hb dX11_law_10 (by decide) (fun _ => ?_) (fun c => absurd c (by decide))
  refine lv_iload_n hx hb dX11_law_27 rfl (lv_at hl 0 rfl) ?_
  exact wz_i () hx hb hr hlk (by decide) (hP.sub (ws' := []) [] rfl) (hD.sub (ws' := []) [] (by decide) rfl) hS dX11_law_28
theorem dX11_mayBe_0 : decode cX11_mayBe 0 = .ok (.aload_n 0, 1) := by decide +kernel
theorem dX11_mayBe_1 : decode cX11_mayBe 1 = .ok (.iload_n 1, 1) := by decide +kernel
theorem dX11_mayBe_2 : decode cX11_mayBe 2 = .ok (.invokevirtual 106, 3) := by decide +kernel
theorem dX11_mayBe_5 : decode cX11_mayBe 5 = .ok (.astore_n 3, 1) := by decide +kernel
theorem dX11_mayBe_6 : decode cX11_mayBe 6 = .ok (.aload_n 3, 1) := by decide +kernel
theorem dX11_mayBe_7 : decode cX11_mayBe 7 = .ok (.ifnull 7, 3) := by decide +kernel
theorem dX11_mayBe_10 : decode cX11_mayBe 10 = .ok (.iload_n 2, 1) := by decide +kernel
theorem dX11_mayBe_11 : decode cX11_mayBe 11 = .ok (.ifCond .ge 5, 3) := by decide +kernel
theorem dX11_mayBe_16 : decode cX11_mayBe 16 = .ok (.aload_n 3, 1) := by decide +kernel
theorem q_734 : Cond.methodLink RX11 192 yX11_refusalOf ∈ lw_g := mem_q 734 (by decide +kernel) rfl
theorem q_735 : Cond.static yX11_refusalOf ∈ lw_g := mem_q 735 (by decide +kernel) rfl
theorem q_736 : Cond.code yX11_refusalOf cX11_refusalOf 1 (some .int) ∈ lw_g := mem_q 736 (by decide +kernel) rfl
theorem kS_RX11_192 : CS RX11 192 yX11_refusalOf cX11_refusalOf 1 (some .int) 1 := cs_of q_734 q_735 q_103 q_736 (by decide +kernel)
theorem dX11_mayBe_17 : decode cX11_mayBe 17 = .ok (.invokestatic 192, 3) := by decide +kernel
theorem dX11_mayBe_20 : decode cX11_mayBe 20 = .ok (.istore 4, 2) := by decide +kernel
theorem dX11_mayBe_22 : decode cX11_mayBe 22 = .ok (.iload 4, 2) := by decide +kernel
theorem dX11_mayBe_24 : decode cX11_mayBe 24 = .ok (.ifCond .eq 6, 3) := by decide +kernel
theorem dX11_mayBe_27 : decode cX11_mayBe 27 = .ok (.iload 4, 2) := by decide +kernel
theorem dX11_mayBe_29 : decode cX11_mayBe 29 = .ok (.ireturn, 1) := by decide +kernel
theorem dX11_mayBe_14 : decode cX11_mayBe 14 = .ok (.iconst (-1), 1) := by decide +kernel
theorem dX11_mayBe_15 : decode cX11_mayBe 15 = .ok (.ireturn, 1) := by decide +kernel
set_option maxHeartbeats 4000000 in
set_option maxRecDepth 100000 in
theorem c_mayBe_in (l : Launch) (J : va_J9) (a : Nat → Nat) (f : Nat → Option Nat) (sh : Nat) (ce : Nat) (d : Int32) (k : Int32) (hd : 0 ≤ d.toInt ∧ d.toInt ≤ 5) (hf : f d.toNatClampNeg = some sh) : RC l J yX11_mayBe cX11_mayBe 5 (some .int) ({ frames := 2, cells := 0, slots := 0, locals := 40 }) [.ref (a 0), .int d, .int k] [((a 0), .inr (11, [.ref (a 1), .ref (a 6), .ref (a 10), .ref (a 15), .ref (a 17), .ref (a 22), .ref (a 23), .ref (a 30), .ref (a 31), .ref (a 34), .int 0, .ref (a 37), .ref (a 40)])), ((a 40), .inl (J.2.2.2, 6, .inr (.inr (.inr (.inr f))))), (sh, .inr (9, [.ref ce, .int 0, .int 0, .int 0, .int 0]))] (vp_Si (fun r => r = sp_mayBe (d.toInt) (k.toInt))) := by
  refine rc_of (by decide) (Nat.le_of_ble_eq_true rfl) ?_
  intro p e s m below meth c ls hE hl hP hK
  obtain ⟨hx, hb, hr, hml, hown, hts, hlk, hin⟩ := hE
  have hown : s.vm.findClass RX11 = some m.cls := hown
  have hl : lv_has ls 5 [(0, .ref (a 0)), (1, .int d), (2, .int k)] := hl
  have rg_d := i_rng d
  have rg_k := i_rng k
  refine lv_aload_n hx hb dX11_mayBe_0 rfl (lv_at hl 0 rfl) ?_
  refine lv_iload_n hx hb dX11_mayBe_1 rfl (lv_at hl 1 rfl) ?_
  refine go_a (rn_V (As := [.int d]) (rest := []) hx hb hml hown hts hK (cF_shelfIn l J a f sh d ⟨by omega, by omega⟩ hf) kV_RX11_106 (hP.sub (ws' := [((a 0), .inr (11, [.ref (a 1), .ref (a 6), .ref (a 10), .ref (a 15), .ref (a 17), .ref (a 22), .ref (a 23), .ref (a 30), .ref (a 31), .ref (a 34), .int 0, .ref (a 37), .ref (a 40)])), ((a 40), .inl (J.2.2.2, 6, .inr (.inr (.inr (.inr f)))))]) [0, 1] rfl) rfl rfl rfl ⟨Nat.le_of_ble_eq_true rfl, Nat.le_of_ble_eq_true rfl⟩ rfl rfl rfl hl.1 rfl (Nat.le_of_ble_eq_true rfl) ⟨Nat.le_of_ble_eq_true rfl, Nat.le_of_ble_eq_true rfl⟩ dX11_mayBe_2) ?_
  refine top_q (y := sh) rfl ?_
  refine lv_astore_n (lv' := [(3, .ref sh), (0, .ref (a 0)), (1, .int d), (2, .int k)]) hx hb dX11_mayBe_5 rfl hl (by decide) rfl (fun ls hl => ?_)
  refine lv_aload_n hx hb dX11_mayBe_6 rfl (lv_at hl 0 rfl) ?_
  refine lv_ifnull hx hb dX11_mayBe_7 ?_
  refine lv_iload_n hx hb dX11_mayBe_10 rfl (lv_at hl 3 rfl) ?_
  refine lv_if_ge (tgt := 16) hx hb dX11_mayBe_11 (by decide) (fun c1 => ?_) (fun c1 => ?_)
  · have j2 : 0 ≤ k.toInt := (i_le (by decide) rfl).mp c1
    refine lv_aload_n hx hb dX11_mayBe_16 rfl (lv_at hl 0 rfl) ?_
    refine go_i (rn_S (As := [.ref sh]) (rest := []) hx hb hml hown hts hK (cF_refusal l J sh ce) kS_RX11_192 (hP.sub (ws' := [(sh, .inr (9, [.ref ce, .int 0, .int 0, .int 0, .int 0]))]) [2] rfl) ⟨Nat.le_of_ble_eq_true rfl, Nat.le_of_ble_eq_true rfl⟩ rfl rfl rfl hl.1 rfl (Nat.le_of_ble_eq_true rfl) ⟨Nat.le_of_ble_eq_true rfl, Nat.le_of_ble_eq_true rfl⟩ dX11_mayBe_17) ?_
    refine lv_istore (lv' := [(4, .int (-11)), (3, .ref sh), (0, .ref (a 0)), (1, .int d), (2, .int k)]) hx hb dX11_mayBe_20 hl (by decide) rfl (fun ls hl => ?_)
    refine lv_iload hx hb dX11_mayBe_22 (lv_at hl 0 rfl) ?_
    refine lv_if_eq (tgt := 30) hx hb dX11_mayBe_24 (by decide) (fun c => absurd c (by decide)) (fun _ => ?_)
    refine lv_iload hx hb dX11_mayBe_27 (lv_at hl 0 rfl) ?_
    exact rz_i hx hb hr hlk (by unfold sp_mayBe; (repeat' split) <;> first | rfl | (exfalso; omega)) dX11_mayBe_29
  · have j3 : ¬ (0 ≤ k.toInt) := fun h => c1 ((i_le (by decide) rfl).mpr h)
    refine lv_iconst (v := (-1)) hx hb dX11_mayBe_14 (by decide) ?_
    exact rz_i hx hb hr hlk (by unfold sp_mayBe; (repeat' split) <;> first | rfl | (exfalso; omega)) dX11_mayBe_15
set_option maxHeartbeats 4000000 in
set_option maxRecDepth 100000 in
theorem c_mayBe_out (l : Launch) (J : va_J9) (a : Nat → Nat) (d : Int32) (k : Int32) (hd : ¬ (0 ≤ d.toInt ∧ d.toInt ≤ 5)) : RC l J yX11_mayBe cX11_mayBe 5 (some .int) ({ frames := 1, cells := 0, slots := 0, locals := 21 }) [.ref (a 0), .int d, .int k] [((a 0), .inr (11, [.ref (a 1), .ref (a 6), .ref (a 10), .ref (a 15), .ref (a 17), .ref (a 22), .ref (a 23), .ref (a 30), .ref (a 31), .ref (a 34), .int 0, .ref (a 37), .ref (a 40)]))] (vp_Si (fun r => r = sp_mayBe (d.toInt) (k.toInt))) := by
  refine rc_of (by decide) (Nat.le_of_ble_eq_true rfl) ?_
  intro p e s m below meth c ls hE hl hP hK
  obtain ⟨hx, hb, hr, hml, hown, hts, hlk, hin⟩ := hE
  have hown : s.vm.findClass RX11 = some m.cls := hown
  have hl : lv_has ls 5 [(0, .ref (a 0)), (1, .int d), (2, .int k)] := hl
  have rg_d := i_rng d
  have rg_k := i_rng k
  refine lv_aload_n hx hb dX11_mayBe_0 rfl (lv_at hl 0 rfl) ?_
  refine lv_iload_n hx hb dX11_mayBe_1 rfl (lv_at hl 1 rfl) ?_
  refine go_a (rn_V (As := [.int d]) (rest := []) hx hb hml hown hts hK (cF_shelfOut l J a d (by omega)) kV_RX11_106 hP rfl rfl rfl ⟨Nat.le_of_ble_eq_true rfl, Nat.le_of_ble_eq_true rfl⟩ rfl rfl rfl hl.1 rfl (Nat.le_of_ble_eq_true rfl) ⟨Nat.le_of_ble_eq_true rfl, Nat.le_of_ble_eq_true rfl⟩ dX11_mayBe_2) ?_
  refine top_n rfl ?_
  refine lv_astore_nN (lv' := [(3, .null), (0, .ref (a 0)), (1, .int d), (2, .int k)]) hx hb dX11_mayBe_5 rfl hl (by decide) rfl (fun ls hl => ?_)
  refine lv_aload_nN hx hb dX11_mayBe_6 rfl (lv_at hl 0 rfl) ?_
  refine lv_ifnullN (tgt := 14) hx hb dX11_mayBe_7 (by decide) ?_
  refine lv_iconst (v := (-1)) hx hb dX11_mayBe_14 (by decide) ?_
  exact rz_i hx hb hr hlk (by unfold sp_mayBe; (repeat' split) <;> first | rfl | (exfalso; omega)) dX11_mayBe_15
theorem dX11_caught_0 : decode cX11_caught 0 = .ok (.aload_n 0, 1) := by decide +kernel
theorem dX11_caught_1 : decode cX11_caught 1 = .ok (.iload_n 1, 1) := by decide +kernel
theorem dX11_caught_2 : decode cX11_caught 2 = .ok (.invokevirtual 106, 3) := by decide +kernel
theorem dX11_caught_5 : decode cX11_caught 5 = .ok (.astore_n 2, 1) := by decide +kernel
theorem dX11_caught_6 : decode cX11_caught 6 = .ok (.aload_n 2, 1) := by decide +kernel
theorem dX11_caught_7 : decode cX11_caught 7 = .ok (.ifnonnull 5, 3) := by decide +kernel
theorem dX11_caught_12 : decode cX11_caught 12 = .ok (.aload_n 2, 1) := by decide +kernel
theorem dX11_caught_13 : decode cX11_caught 13 = .ok (.invokestatic 192, 3) := by decide +kernel
theorem dX11_caught_16 : decode cX11_caught 16 = .ok (.istore_n 3, 1) := by decide +kernel
theorem dX11_caught_17 : decode cX11_caught 17 = .ok (.iload_n 3, 1) := by decide +kernel
theorem dX11_caught_18 : decode cX11_caught 18 = .ok (.ifCond .eq 7, 3) := by decide +kernel
theorem dX11_caught_21 : decode cX11_caught 21 = .ok (.iload_n 3, 1) := by decide +kernel
theorem dX11_caught_22 : decode cX11_caught 22 = .ok (.goto 11, 3) := by decide +kernel
theorem dX11_caught_33 : decode cX11_caught 33 = .ok (.ireturn, 1) := by decide +kernel
set_option maxHeartbeats 4000000 in
set_option maxRecDepth 100000 in
theorem c_caught_in (l : Launch) (J : va_J9) (a : Nat → Nat) (f : Nat → Option Nat) (sh : Nat) (ce : Nat) (d : Int32) (hd : 0 ≤ d.toInt ∧ d.toInt ≤ 5) (hf : f d.toNatClampNeg = some sh) : RC l J yX11_caught cX11_caught 4 (some .int) ({ frames := 2, cells := 0, slots := 0, locals := 40 }) [.ref (a 0), .int d] [((a 0), .inr (11, [.ref (a 1), .ref (a 6), .ref (a 10), .ref (a 15), .ref (a 17), .ref (a 22), .ref (a 23), .ref (a 30), .ref (a 31), .ref (a 34), .int 0, .ref (a 37), .ref (a 40)])), ((a 40), .inl (J.2.2.2, 6, .inr (.inr (.inr (.inr f))))), (sh, .inr (9, [.ref ce, .int 0, .int 0, .int 0, .int 0]))] (vp_Si (fun r => r = sp_caught (d.toInt))) := by
  refine rc_of (by decide) (Nat.le_of_ble_eq_true rfl) ?_
  intro p e s m below meth c ls hE hl hP hK
  obtain ⟨hx, hb, hr, hml, hown, hts, hlk, hin⟩ := hE
  have hown : s.vm.findClass RX11 = some m.cls := hown
  have hl : lv_has ls 4 [(0, .ref (a 0)), (1, .int d)] := hl
  have rg_d := i_rng d
  refine lv_aload_n hx hb dX11_caught_0 rfl (lv_at hl 0 rfl) ?_
  refine lv_iload_n hx hb dX11_caught_1 rfl (lv_at hl 1 rfl) ?_
  refine go_a (rn_V (As := [.int d]) (rest := []) hx hb hml hown hts hK (cF_shelfIn l J a f sh d ⟨by omega, by omega⟩ hf) kV_RX11_106 (hP.sub (ws' := [((a 0), .inr (11, [.ref (a 1), .ref (a 6), .ref (a 10), .ref (a 15), .ref (a 17), .ref (a 22), .ref (a 23), .ref (a 30), .ref (a 31), .ref (a 34), .int 0, .ref (a 37), .ref (a 40)])), ((a 40), .inl (J.2.2.2, 6, .inr (.inr (.inr (.inr f)))))]) [0, 1] rfl) rfl rfl rfl ⟨Nat.le_of_ble_eq_true rfl, Nat.le_of_ble_eq_true rfl⟩ rfl rfl rfl hl.1 rfl (Nat.le_of_ble_eq_true rfl) ⟨Nat.le_of_ble_eq_true rfl, Nat.le_of_ble_eq_true rfl⟩ dX11_caught_2) ?_
  refine top_q (y := sh) rfl ?_
  refine lv_astore_n (lv' := [(2, .ref sh), (0, .ref (a 0)), (1, .int d)]) hx hb dX11_caught_5 rfl hl (by decide) rfl (fun ls hl => ?_)
  refine lv_aload_n hx hb dX11_caught_6 rfl (lv_at hl 0 rfl) ?_
  refine lv_ifnonnull (tgt := 12) hx hb dX11_caught_7 (by decide) ?_
  refine lv_aload_n hx hb dX11_caught_12 rfl (lv_at hl 0 rfl) ?_
  refine go_i (rn_S (As := [.ref sh]) (rest := []) hx hb hml hown hts hK (cF_refusal l J sh ce) kS_RX11_192 (hP.sub (ws' := [(sh, .inr (9, [.ref ce, .int 0, .int 0, .int 0, .int 0]))]) [2] rfl) ⟨Nat.le_of_ble_eq_true rfl, Nat.le_of_ble_eq_true rfl⟩ rfl rfl rfl hl.1 rfl (Nat.le_of_ble_eq_true rfl) ⟨Nat.le_of_ble_eq_true rfl, Nat.le_of_ble_eq_true rfl⟩ dX11_caught_13) ?_
  refine lv_istore_n (lv' := [(3, .int (-11)), (2, .ref sh), (0, .ref (a 0)), (1, .int d)]) hx hb dX11_caught_16 rfl hl (by decide) rfl (fun ls hl => ?_)
  refine lv_iload_n hx hb dX11_caught_17 rfl (lv_at hl 0 rfl) ?_
  refine lv_if_eq (tgt := 25) hx hb dX11_caught_18 (by decide) (fun c => absurd c (by decide)) (fun _ => ?_)
  refine lv_iload_n hx hb dX11_caught_21 rfl (lv_at hl 0 rfl) ?_
  refine lv_goto (tgt := 33) hx hb dX11_caught_22 (by decide) ?_
  exact rz_i hx hb hr hlk (by unfold sp_caught; (repeat' split) <;> first | rfl | (exfalso; omega)) dX11_caught_33
theorem dX11_caught_10 : decode cX11_caught 10 = .ok (.iconst (-1), 1) := by decide +kernel
theorem dX11_caught_11 : decode cX11_caught 11 = .ok (.ireturn, 1) := by decide +kernel
set_option maxHeartbeats 4000000 in
set_option maxRecDepth 100000 in
theorem c_caught_out (l : Launch) (J : va_J9) (a : Nat → Nat) (d : Int32) (hd : ¬ (0 ≤ d.toInt ∧ d.toInt ≤ 5)) : RC l J yX11_caught cX11_caught 4 (some .int) ({ frames := 1, cells := 0, slots := 0, locals := 21 }) [.ref (a 0), .int d] [((a 0), .inr (11, [.ref (a 1), .ref (a 6), .ref (a 10), .ref (a 15), .ref (a 17), .ref (a 22), .ref (a 23), .ref (a 30), .ref (a 31), .ref (a 34), .int 0, .ref (a 37), .ref (a 40)]))] (vp_Si (fun r => r = sp_caught (d.toInt))) := by
  refine rc_of (by decide) (Nat.le_of_ble_eq_true rfl) ?_
  intro p e s m below meth c ls hE hl hP hK
  obtain ⟨hx, hb, hr, hml, hown, hts, hlk, hin⟩ := hE
  have hown : s.vm.findClass RX11 = some m.cls := hown
  have hl : lv_has ls 4 [(0, .ref (a 0)), (1, .int d)] := hl
  have rg_d := i_rng d
  refine lv_aload_n hx hb dX11_caught_0 rfl (lv_at hl 0 rfl) ?_
  refine lv_iload_n hx hb dX11_caught_1 rfl (lv_at hl 1 rfl) ?_
  refine go_a (rn_V (As := [.int d]) (rest := []) hx hb hml hown hts hK (cF_shelfOut l J a d (by omega)) kV_RX11_106 hP rfl rfl rfl ⟨Nat.le_of_ble_eq_true rfl, Nat.le_of_ble_eq_true rfl⟩ rfl rfl rfl hl.1 rfl (Nat.le_of_ble_eq_true rfl) ⟨Nat.le_of_ble_eq_true rfl, Nat.le_of_ble_eq_true rfl⟩ dX11_caught_2) ?_
  refine top_n rfl ?_
  refine lv_astore_nN (lv' := [(2, .null), (0, .ref (a 0)), (1, .int d)]) hx hb dX11_caught_5 rfl hl (by decide) rfl (fun ls hl => ?_)
  refine lv_aload_nN hx hb dX11_caught_6 rfl (lv_at hl 0 rfl) ?_
  refine lv_ifnonnullN hx hb dX11_caught_7 ?_
  refine lv_iconst (v := (-1)) hx hb dX11_caught_10 (by decide) ?_
  exact rz_i hx hb hr hlk (by unfold sp_caught; (repeat' split) <;> first | rfl | (exfalso; omega)) dX11_caught_11
theorem dX11_printed_0 : decode cX11_printed 0 = .ok (.aload_n 0, 1) := by decide +kernel
theorem dX11_printed_1 : decode cX11_printed 1 = .ok (.iload_n 1, 1) := by decide +kernel
theorem dX11_printed_2 : decode cX11_printed 2 = .ok (.iload_n 2, 1) := by decide +kernel
theorem dX11_printed_3 : decode cX11_printed 3 = .ok (.iconst 0, 1) := by decide +kernel
theorem q_786 : Cond.methodLink RX11 206 yX11_refusalOfPrints ∈ lw_g := mem_q 786 (by decide +kernel) rfl
theorem q_788 : Cond.instanceMethod yX11_refusalOfPrints ∈ lw_g := mem_q 788 (by decide +kernel) rfl
theorem q_18 : Cond.selects RX11 yX11_refusalOfPrints yX11_refusalOfPrints ∈ lw_g := mem_q 18 (by decide +kernel) rfl
theorem q_789 : Cond.code yX11_refusalOfPrints cX11_refusalOfPrints 6 (some .int) ∈ lw_g := mem_q 789 (by decide +kernel) rfl
theorem kV_RX11_206 : CV RX11 206 RX11 yX11_refusalOfPrints cX11_refusalOfPrints 6 (some .int) 3 := cv_of q_786 q_788 q_18 q_103 q_789 (by decide +kernel)
theorem dX11_printed_4 : decode cX11_printed 4 = .ok (.invokevirtual 206, 3) := by decide +kernel
theorem dX11_printed_7 : decode cX11_printed 7 = .ok (.istore_n 3, 1) := by decide +kernel
theorem dX11_printed_8 : decode cX11_printed 8 = .ok (.iload_n 3, 1) := by decide +kernel
theorem dX11_printed_9 : decode cX11_printed 9 = .ok (.ifCond .eq 7, 3) := by decide +kernel
theorem dX11_printed_12 : decode cX11_printed 12 = .ok (.iload_n 3, 1) := by decide +kernel
theorem dX11_printed_13 : decode cX11_printed 13 = .ok (.goto 29, 3) := by decide +kernel
theorem dX11_printed_42 : decode cX11_printed 42 = .ok (.ireturn, 1) := by decide +kernel
set_option maxHeartbeats 4000000 in
set_option maxRecDepth 100000 in
theorem c_printed_in (l : Launch) (J : va_J9) (a : Nat → Nat) (f : Nat → Option Nat) (sh : Nat) (ce : Nat) (s2 : Nat) (x : Int32) (k : Int32) (hd : 0 ≤ x.toInt ∧ x.toInt / 10 ≤ 5 ∧ x.toInt % 10 ≤ 5) (hf : f (x / 10).toNatClampNeg = some sh) (hg : f (x - x / 10 * 10).toNatClampNeg = some s2) : RC l J yX11_printed cX11_printed 4 (some .int) ({ frames := 3, cells := 0, slots := 0, locals := 67 }) [.ref (a 0), .int x, .int k] [((a 0), .inr (11, [.ref (a 1), .ref (a 6), .ref (a 10), .ref (a 15), .ref (a 17), .ref (a 22), .ref (a 23), .ref (a 30), .ref (a 31), .ref (a 34), .int 0, .ref (a 37), .ref (a 40)])), ((a 40), .inl (J.2.2.2, 6, .inr (.inr (.inr (.inr f))))), (sh, .inr (9, [.ref ce, .int 0, .int 0, .int 0, .int 0]))] (vp_Si (fun r => r = sp_two (x.toInt) (k.toInt) (0))) := by
  refine rc_of (by decide) (Nat.le_of_ble_eq_true rfl) ?_
  intro p e s m below meth c ls hE hl hP hK
  obtain ⟨hx, hb, hr, hml, hown, hts, hlk, hin⟩ := hE
  have hown : s.vm.findClass RX11 = some m.cls := hown
  have hl : lv_has ls 4 [(0, .ref (a 0)), (1, .int x), (2, .int k)] := hl
  have rg_x := i_rng x
  have rg_k := i_rng k
  refine lv_aload_n hx hb dX11_printed_0 rfl (lv_at hl 0 rfl) ?_
  refine lv_iload_n hx hb dX11_printed_1 rfl (lv_at hl 1 rfl) ?_
  refine lv_iload_n hx hb dX11_printed_2 rfl (lv_at hl 2 rfl) ?_
  refine lv_iconst (v := 0) hx hb dX11_printed_3 (by decide) ?_
  refine go_i (rn_V (As := [.int x, .int k, .int 0]) (rest := []) hx hb hml hown hts hK (cF_prints0In l J a f sh ce s2 x k hd hf hg) kV_RX11_206 hP rfl rfl rfl ⟨Nat.le_of_ble_eq_true rfl, Nat.le_of_ble_eq_true rfl⟩ rfl rfl rfl hl.1 rfl (Nat.le_of_ble_eq_true rfl) ⟨Nat.le_of_ble_eq_true rfl, Nat.le_of_ble_eq_true rfl⟩ dX11_printed_4) ?_
  refine lv_istore_n (lv' := [(3, .int (sp_two (x.toInt) (k.toInt) (0))), (0, .ref (a 0)), (1, .int x), (2, .int k)]) hx hb dX11_printed_7 rfl hl (by decide) rfl (fun ls hl => ?_)
  refine lv_iload_n hx hb dX11_printed_8 rfl (lv_at hl 0 rfl) ?_
  refine lv_if_eq (tgt := 16) hx hb dX11_printed_9 (by decide) (fun c1 => absurd c1 (ne_two _ _ _)) (fun _ => ?_)
  refine lv_iload_n hx hb dX11_printed_12 rfl (lv_at hl 0 rfl) ?_
  refine lv_goto (tgt := 42) hx hb dX11_printed_13 (by decide) ?_
  exact rz_i hx hb hr hlk rfl dX11_printed_42
set_option maxHeartbeats 4000000 in
set_option maxRecDepth 100000 in
theorem c_printed_out (l : Launch) (J : va_J9) (a : Nat → Nat) (x : Int32) (k : Int32) (hd : ¬ (0 ≤ x.toInt ∧ x.toInt / 10 ≤ 5 ∧ x.toInt % 10 ≤ 5)) : RC l J yX11_printed cX11_printed 4 (some .int) ({ frames := 2, cells := 0, slots := 0, locals := 45 }) [.ref (a 0), .int x, .int k] [((a 0), .inr (11, [.ref (a 1), .ref (a 6), .ref (a 10), .ref (a 15), .ref (a 17), .ref (a 22), .ref (a 23), .ref (a 30), .ref (a 31), .ref (a 34), .int 0, .ref (a 37), .ref (a 40)]))] (vp_Si (fun r => r = sp_two (x.toInt) (k.toInt) (0))) := by
  refine rc_of (by decide) (Nat.le_of_ble_eq_true rfl) ?_
  intro p e s m below meth c ls hE hl hP hK
  obtain ⟨hx, hb, hr, hml, hown, hts, hlk, hin⟩ := hE
  have hown : s.vm.findClass RX11 = some m.cls := hown
  have hl : lv_has ls 4 [(0, .ref (a 0)), (1, .int x), (2, .int k)] := hl
  have rg_x := i_rng x
  have rg_k := i_rng k
  refine lv_aload_n hx hb dX11_printed_0 rfl (lv_at hl 0 rfl) ?_
  refine lv_iload_n hx hb dX11_printed_1 rfl (lv_at hl 1 rfl) ?_
  refine lv_iload_n hx hb dX11_printed_2 rfl (lv_at hl 2 rfl) ?_
  refine lv_iconst (v := 0) hx hb dX11_printed_3 (by decide) ?_
  refine go_i (rn_V (As := [.int x, .int k, .int 0]) (rest := []) hx hb hml hown hts hK (cF_prints0Out l J a x k hd) kV_RX11_206 hP rfl rfl rfl ⟨Nat.le_of_ble_eq_true rfl, Nat.le_of_ble_eq_true rfl⟩ rfl rfl rfl hl.1 rfl (Nat.le_of_ble_eq_true rfl) ⟨Nat.le_of_ble_eq_true rfl, Nat.le_of_ble_eq_true rfl⟩ dX11_printed_4) ?_
  refine lv_istore_n (lv' := [(3, .int (sp_two (x.toInt) (k.toInt) (0))), (0, .ref (a 0)), (1, .int x), (2, .int k)]) hx hb dX11_printed_7 rfl hl (by decide) rfl (fun ls hl => ?_)
  refine lv_iload_n hx hb dX11_printed_8 rfl (lv_at hl 0 rfl) ?_
  refine lv_if_eq (tgt := 16) hx hb dX11_printed_9 (by decide) (fun c1 => absurd c1 (ne_two _ _ _)) (fun _ => ?_)
  refine lv_iload_n hx hb dX11_printed_12 rfl (lv_at hl 0 rfl) ?_
  refine lv_goto (tgt := 42) hx hb dX11_printed_13 (by decide) ?_
  exact rz_i hx hb hr hlk rfl dX11_printed_42
theorem dX11_ahead_0 : decode cX11_ahead 0 = .ok (.aload_n 0, 1) := by decide +kernel
theorem dX11_ahead_1 : decode cX11_ahead 1 = .ok (.iload_n 1, 1) := by decide +kernel
theorem dX11_ahead_2 : decode cX11_ahead 2 = .ok (.iload_n 2, 1) := by decide +kernel
theorem dX11_ahead_3 : decode cX11_ahead 3 = .ok (.iconst 1, 1) := by decide +kernel
theorem dX11_ahead_4 : decode cX11_ahead 4 = .ok (.invokevirtual 206, 3) := by decide +kernel
theorem dX11_ahead_7 : decode cX11_ahead 7 = .ok (.istore_n 3, 1) := by decide +kernel
theorem dX11_ahead_8 : decode cX11_ahead 8 = .ok (.iload_n 3, 1) := by decide +kernel
theorem dX11_ahead_9 : decode cX11_ahead 9 = .ok (.ifCond .eq 7, 3) := by decide +kernel
theorem dX11_ahead_12 : decode cX11_ahead 12 = .ok (.iload_n 3, 1) := by decide +kernel
theorem dX11_ahead_13 : decode cX11_ahead 13 = .ok (.goto 29, 3) := by decide +kernel
theorem dX11_ahead_42 : decode cX11_ahead 42 = .ok (.ireturn, 1) := by decide +kernel
set_option maxHeartbeats 4000000 in
set_option maxRecDepth 100000 in
theorem c_ahead_in (l : Launch) (J : va_J9) (a : Nat → Nat) (f : Nat → Option Nat) (sh : Nat) (ce : Nat) (s2 : Nat) (x : Int32) (k : Int32) (hd : 0 ≤ x.toInt ∧ x.toInt / 10 ≤ 5 ∧ x.toInt % 10 ≤ 5) (hf : f (x / 10).toNatClampNeg = some sh) (hg : f (x - x / 10 * 10).toNatClampNeg = some s2) : RC l J yX11_ahead cX11_ahead 4 (some .int) ({ frames := 3, cells := 0, slots := 0, locals := 67 }) [.ref (a 0), .int x, .int k] [((a 0), .inr (11, [.ref (a 1), .ref (a 6), .ref (a 10), .ref (a 15), .ref (a 17), .ref (a 22), .ref (a 23), .ref (a 30), .ref (a 31), .ref (a 34), .int 0, .ref (a 37), .ref (a 40)])), ((a 40), .inl (J.2.2.2, 6, .inr (.inr (.inr (.inr f))))), (sh, .inr (9, [.ref ce, .int 0, .int 0, .int 0, .int 0]))] (vp_Si (fun r => r = sp_two (x.toInt) (k.toInt) (1))) := by
  refine rc_of (by decide) (Nat.le_of_ble_eq_true rfl) ?_
  intro p e s m below meth c ls hE hl hP hK
  obtain ⟨hx, hb, hr, hml, hown, hts, hlk, hin⟩ := hE
  have hown : s.vm.findClass RX11 = some m.cls := hown
  have hl : lv_has ls 4 [(0, .ref (a 0)), (1, .int x), (2, .int k)] := hl
  have rg_x := i_rng x
  have rg_k := i_rng k
  refine lv_aload_n hx hb dX11_ahead_0 rfl (lv_at hl 0 rfl) ?_
  refine lv_iload_n hx hb dX11_ahead_1 rfl (lv_at hl 1 rfl) ?_
  refine lv_iload_n hx hb dX11_ahead_2 rfl (lv_at hl 2 rfl) ?_
  refine lv_iconst (v := 1) hx hb dX11_ahead_3 (by decide) ?_
  refine go_i (rn_V (As := [.int x, .int k, .int 1]) (rest := []) hx hb hml hown hts hK (cF_prints1In l J a f sh ce s2 x k hd hf hg) kV_RX11_206 hP rfl rfl rfl ⟨Nat.le_of_ble_eq_true rfl, Nat.le_of_ble_eq_true rfl⟩ rfl rfl rfl hl.1 rfl (Nat.le_of_ble_eq_true rfl) ⟨Nat.le_of_ble_eq_true rfl, Nat.le_of_ble_eq_true rfl⟩ dX11_ahead_4) ?_
  refine lv_istore_n (lv' := [(3, .int (sp_two (x.toInt) (k.toInt) (1))), (0, .ref (a 0)), (1, .int x), (2, .int k)]) hx hb dX11_ahead_7 rfl hl (by decide) rfl (fun ls hl => ?_)
  refine lv_iload_n hx hb dX11_ahead_8 rfl (lv_at hl 0 rfl) ?_
  refine lv_if_eq (tgt := 16) hx hb dX11_ahead_9 (by decide) (fun c1 => absurd c1 (ne_two _ _ _)) (fun _ => ?_)
  refine lv_iload_n hx hb dX11_ahead_12 rfl (lv_at hl 0 rfl) ?_
  refine lv_goto (tgt := 42) hx hb dX11_ahead_13 (by decide) ?_
  exact rz_i hx hb hr hlk rfl dX11_ahead_42
set_option maxHeartbeats 4000000 in
set_option maxRecDepth 100000 in
theorem c_ahead_out (l : Launch) (J : va_J9) (a : Nat → Nat) (x : Int32) (k : Int32) (hd : ¬ (0 ≤ x.toInt ∧ x.toInt / 10 ≤ 5 ∧ x.toInt % 10 ≤ 5)) : RC l J yX11_ahead cX11_ahead 4 (some .int) ({ frames := 2, cells := 0, slots := 0, locals := 45 }) [.ref (a 0), .int x, .int k] [((a 0), .inr (11, [.ref (a 1), .ref (a 6), .ref (a 10), .ref (a 15), .ref (a 17), .ref (a 22), .ref (a 23), .ref (a 30), .ref (a 31), .ref (a 34), .int 0, .ref (a 37), .ref (a 40)]))] (vp_Si (fun r => r = sp_two (x.toInt) (k.toInt) (1))) := by
  refine rc_of (by decide) (Nat.le_of_ble_eq_true rfl) ?_
  intro p e s m below meth c ls hE hl hP hK
  obtain ⟨hx, hb, hr, hml, hown, hts, hlk, hin⟩ := hE
  have hown : s.vm.findClass RX11 = some m.cls := hown
  have hl : lv_has ls 4 [(0, .ref (a 0)), (1, .int x), (2, .int k)] := hl
  have rg_x := i_rng x
  have rg_k := i_rng k
  refine lv_aload_n hx hb dX11_ahead_0 rfl (lv_at hl 0 rfl) ?_
  refine lv_iload_n hx hb dX11_ahead_1 rfl (lv_at hl 1 rfl) ?_
  refine lv_iload_n hx hb dX11_ahead_2 rfl (lv_at hl 2 rfl) ?_
  refine lv_iconst (v := 1) hx hb dX11_ahead_3 (by decide) ?_
  refine go_i (rn_V (As := [.int x, .int k, .int 1]) (rest := []) hx hb hml hown hts hK (cF_prints1Out l J a x k hd) kV_RX11_206 hP rfl rfl rfl ⟨Nat.le_of_ble_eq_true rfl, Nat.le_of_ble_eq_true rfl⟩ rfl rfl rfl hl.1 rfl (Nat.le_of_ble_eq_true rfl) ⟨Nat.le_of_ble_eq_true rfl, Nat.le_of_ble_eq_true rfl⟩ dX11_ahead_4) ?_
  refine lv_istore_n (lv' := [(3, .int (sp_two (x.toInt) (k.toInt) (1))), (0, .ref (a 0)), (1, .int x), (2, .int k)]) hx hb dX11_ahead_7 rfl hl (by decide) rfl (fun ls hl => ?_)
  refine lv_iload_n hx hb dX11_ahead_8 rfl (lv_at hl 0 rfl) ?_
  refine lv_if_eq (tgt := 16) hx hb dX11_ahead_9 (by decide) (fun c1 => absurd c1 (ne_two _ _ _)) (fun _ => ?_)
  refine lv_iload_n hx hb dX11_ahead_12 rfl (lv_at hl 0 rfl) ?_
  refine lv_goto (tgt := 42) hx hb dX11_ahead_13 (by decide) ?_
  exact rz_i hx hb hr hlk rfl dX11_ahead_42
theorem dX11_judge_0 : decode cX11_judge 0 = .ok (.iload_n 1, 1) := by decide +kernel
theorem dX11_judge_1 : decode cX11_judge 1 = .ok (.invokestatic 213, 3) := by decide +kernel
theorem dX11_judge_4 : decode cX11_judge 4 = .ok (.ifCond .ne 5, 3) := by decide +kernel
theorem dX11_judge_9 : decode cX11_judge 9 = .ok (.aload_n 0, 1) := by decide +kernel
theorem dX11_judge_10 : decode cX11_judge 10 = .ok (.getfield 90, 3) := by decide +kernel
theorem dX11_judge_13 : decode cX11_judge 13 = .ok (.iload_n 1, 1) := by decide +kernel
theorem dX11_judge_14 : decode cX11_judge 14 = .ok (.bipush 10, 2) := by decide +kernel
theorem dX11_judge_16 : decode cX11_judge 16 = .ok (.idiv, 1) := by decide +kernel
theorem dX11_judge_17 : decode cX11_judge 17 = .ok (.aaload, 1) := by decide +kernel
theorem dX11_judge_18 : decode cX11_judge 18 = .ok (.astore_n 2, 1) := by decide +kernel
theorem dX11_judge_19 : decode cX11_judge 19 = .ok (.aload_n 0, 1) := by decide +kernel
theorem dX11_judge_20 : decode cX11_judge 20 = .ok (.getfield 90, 3) := by decide +kernel
theorem dX11_judge_23 : decode cX11_judge 23 = .ok (.iload_n 1, 1) := by decide +kernel
theorem dX11_judge_24 : decode cX11_judge 24 = .ok (.bipush 10, 2) := by decide +kernel
theorem dX11_judge_26 : decode cX11_judge 26 = .ok (.irem, 1) := by decide +kernel
theorem dX11_judge_27 : decode cX11_judge 27 = .ok (.aaload, 1) := by decide +kernel
theorem dX11_judge_28 : decode cX11_judge 28 = .ok (.astore_n 3, 1) := by decide +kernel
theorem dX11_judge_29 : decode cX11_judge 29 = .ok (.aload_n 2, 1) := by decide +kernel
theorem dX11_judge_30 : decode cX11_judge 30 = .ok (.aload_n 3, 1) := by decide +kernel
theorem dX11_judge_31 : decode cX11_judge 31 = .ok (.iconst 0, 1) := by decide +kernel
theorem dX11_judge_32 : decode cX11_judge 32 = .ok (.invokestatic 216, 3) := by decide +kernel
theorem dX11_judge_35 : decode cX11_judge 35 = .ok (.istore 4, 2) := by decide +kernel
theorem dX11_judge_37 : decode cX11_judge 37 = .ok (.iload 4, 2) := by decide +kernel
theorem dX11_judge_39 : decode cX11_judge 39 = .ok (.ifCond .eq 8, 3) := by decide +kernel
theorem dX11_judge_42 : decode cX11_judge 42 = .ok (.iload 4, 2) := by decide +kernel
theorem dX11_judge_44 : decode cX11_judge 44 = .ok (.goto 12, 3) := by decide +kernel
theorem dX11_judge_56 : decode cX11_judge 56 = .ok (.ireturn, 1) := by decide +kernel
set_option maxHeartbeats 4000000 in
set_option maxRecDepth 100000 in
theorem c_judge_in (l : Launch) (J : va_J9) (a : Nat → Nat) (f : Nat → Option Nat) (sh : Nat) (ce : Nat) (s2 : Nat) (x : Int32) (hd : 0 ≤ x.toInt ∧ x.toInt / 10 ≤ 5 ∧ x.toInt % 10 ≤ 5) (hf : f (x / 10).toNatClampNeg = some sh) (hg : f (x - x / 10 * 10).toNatClampNeg = some s2) : RC l J yX11_judge cX11_judge 5 (some .int) ({ frames := 2, cells := 0, slots := 0, locals := 42 }) [.ref (a 0), .int x] [((a 0), .inr (11, [.ref (a 1), .ref (a 6), .ref (a 10), .ref (a 15), .ref (a 17), .ref (a 22), .ref (a 23), .ref (a 30), .ref (a 31), .ref (a 34), .int 0, .ref (a 37), .ref (a 40)])), ((a 40), .inl (J.2.2.2, 6, .inr (.inr (.inr (.inr f))))), (sh, .inr (9, [.ref ce, .int 0, .int 0, .int 0, .int 0]))] (vp_Si (fun r => r = sp_two (x.toInt) (0) (0))) := by
  refine rc_of (by decide) (Nat.le_of_ble_eq_true rfl) ?_
  intro p e s m below meth c ls hE hl hP hK
  obtain ⟨hx, hb, hr, hml, hown, hts, hlk, hin⟩ := hE
  have hown : s.vm.findClass RX11 = some m.cls := hown
  have hl : lv_has ls 5 [(0, .ref (a 0)), (1, .int x)] := hl
  have rg_x := i_rng x
  refine lv_iload_n hx hb dX11_judge_0 rfl (lv_at hl 1 rfl) ?_
  refine go_i (rn_S (As := [.int x]) (rest := []) hx hb hml hown hts hK (cF_twoShelves l J x) kS_RX11_213 (hP.sub (ws' := []) [] rfl) ⟨Nat.le_of_ble_eq_true rfl, Nat.le_of_ble_eq_true rfl⟩ rfl rfl rfl hl.1 rfl (Nat.le_of_ble_eq_true rfl) ⟨Nat.le_of_ble_eq_true rfl, Nat.le_of_ble_eq_true rfl⟩ dX11_judge_1) ?_
  refine lv_if_ne (tgt := 9) hx hb dX11_judge_4 (by decide) (fun _ => ?_) (fun c1 => (b0 c1 (by omega)).elim)
  refine lv_aload_n hx hb dX11_judge_9 rfl (lv_at hl 0 rfl) ?_
  refine va_get (D := J.1) (ci := 11) (v := .ref (a 40)) (C := RX11) (T := TX11) (N := 13) hx hb hts inX11 hown hK.1 hP 0 rfl rfl 12 (by decide) (hts _ q_472) (fun _ h9 => h9) rfl dX11_judge_10 ?_
  refine lv_iload_n hx hb dX11_judge_13 rfl (lv_at hl 1 rfl) ?_
  refine lv_bipush (v := 10) hx hb dX11_judge_14 (by decide) ?_
  refine lv_idiv hx hb dX11_judge_16 (by decide) ?_
  have p2 : (x / 10).toInt = x.toInt / 10 := i_div rfl (by decide) (by omega) (by omega)
  have h3 : vp_in (x / 10) 6 := (i_in (a := x.toInt / 10) p2 (by omega) (by omega))
  refine va_aldq hx hb hK.1 hP 1 2 rfl rfl h3 dX11_judge_17 ?_
  refine top_q (y := sh) hf ?_
  refine lv_astore_n (lv' := [(2, .ref sh), (0, .ref (a 0)), (1, .int x)]) hx hb dX11_judge_18 rfl hl (by decide) rfl (fun ls hl => ?_)
  refine lv_aload_n hx hb dX11_judge_19 rfl (lv_at hl 1 rfl) ?_
  refine va_get (D := J.1) (ci := 11) (v := .ref (a 40)) (C := RX11) (T := TX11) (N := 13) hx hb hts inX11 hown hK.1 hP 0 rfl rfl 12 (by decide) (hts _ q_472) (fun _ h9 => h9) rfl dX11_judge_20 ?_
  refine lv_iload_n hx hb dX11_judge_23 rfl (lv_at hl 2 rfl) ?_
  refine lv_bipush (v := 10) hx hb dX11_judge_24 (by decide) ?_
  refine lv_irem hx hb dX11_judge_26 (by decide) ?_
  have p4 : (x - x / 10 * 10).toInt = x.toInt % 10 := i_rem rfl (by decide) (by omega) (by omega)
  have h5 : vp_in (x - x / 10 * 10) 6 := (i_in (a := x.toInt % 10) p4 (by omega) (by omega))
  refine va_aldq hx hb hK.1 hP 1 2 rfl rfl h5 dX11_judge_27 ?_
  refine top_q (y := s2) hg ?_
  refine lv_astore_n (lv' := [(3, .ref s2), (2, .ref sh), (0, .ref (a 0)), (1, .int x)]) hx hb dX11_judge_28 rfl hl (by decide) rfl (fun ls hl => ?_)
  refine lv_aload_n hx hb dX11_judge_29 rfl (lv_at hl 1 rfl) ?_
  refine lv_aload_n hx hb dX11_judge_30 rfl (lv_at hl 0 rfl) ?_
  refine lv_iconst (v := 0) hx hb dX11_judge_31 (by decide) ?_
  refine go_i (rn_S (As := [.ref sh, .ref s2, .int 0]) (rest := []) hx hb hml hown hts hK (cF_both l J sh ce s2 0) kS_RX11_216 (hP.sub (ws' := [(sh, .inr (9, [.ref ce, .int 0, .int 0, .int 0, .int 0]))]) [2] rfl) ⟨Nat.le_of_ble_eq_true rfl, Nat.le_of_ble_eq_true rfl⟩ rfl rfl rfl hl.1 rfl (Nat.le_of_ble_eq_true rfl) ⟨Nat.le_of_ble_eq_true rfl, Nat.le_of_ble_eq_true rfl⟩ dX11_judge_32) ?_
  refine lv_istore (lv' := [(4, .int (-11)), (3, .ref s2), (2, .ref sh), (0, .ref (a 0)), (1, .int x)]) hx hb dX11_judge_35 hl (by decide) rfl (fun ls hl => ?_)
  refine lv_iload hx hb dX11_judge_37 (lv_at hl 0 rfl) ?_
  refine lv_if_eq (tgt := 47) hx hb dX11_judge_39 (by decide) (fun c => absurd c (by decide)) (fun _ => ?_)
  refine lv_iload hx hb dX11_judge_42 (lv_at hl 0 rfl) ?_
  refine lv_goto (tgt := 56) hx hb dX11_judge_44 (by decide) ?_
  exact rz_i hx hb hr hlk (by unfold sp_two; (repeat' split) <;> first | rfl | (exfalso; omega)) dX11_judge_56
theorem dX11_judge_7 : decode cX11_judge 7 = .ok (.iconst (-1), 1) := by decide +kernel
theorem dX11_judge_8 : decode cX11_judge 8 = .ok (.ireturn, 1) := by decide +kernel
set_option maxHeartbeats 4000000 in
set_option maxRecDepth 100000 in
theorem c_judge_out (l : Launch) (J : va_J9) (a : Nat → Nat) (x : Int32) (hd : ¬ (0 ≤ x.toInt ∧ x.toInt / 10 ≤ 5 ∧ x.toInt % 10 ≤ 5)) : RC l J yX11_judge cX11_judge 5 (some .int) ({ frames := 1, cells := 0, slots := 0, locals := 20 }) [.ref (a 0), .int x] [((a 0), .inr (11, [.ref (a 1), .ref (a 6), .ref (a 10), .ref (a 15), .ref (a 17), .ref (a 22), .ref (a 23), .ref (a 30), .ref (a 31), .ref (a 34), .int 0, .ref (a 37), .ref (a 40)]))] (vp_Si (fun r => r = sp_two (x.toInt) (0) (0))) := by
  refine rc_of (by decide) (Nat.le_of_ble_eq_true rfl) ?_
  intro p e s m below meth c ls hE hl hP hK
  obtain ⟨hx, hb, hr, hml, hown, hts, hlk, hin⟩ := hE
  have hown : s.vm.findClass RX11 = some m.cls := hown
  have hl : lv_has ls 5 [(0, .ref (a 0)), (1, .int x)] := hl
  have rg_x := i_rng x
  refine lv_iload_n hx hb dX11_judge_0 rfl (lv_at hl 1 rfl) ?_
  refine go_i (rn_S (As := [.int x]) (rest := []) hx hb hml hown hts hK (cF_twoShelves l J x) kS_RX11_213 (hP.sub (ws' := []) [] rfl) ⟨Nat.le_of_ble_eq_true rfl, Nat.le_of_ble_eq_true rfl⟩ rfl rfl rfl hl.1 rfl (Nat.le_of_ble_eq_true rfl) ⟨Nat.le_of_ble_eq_true rfl, Nat.le_of_ble_eq_true rfl⟩ dX11_judge_1) ?_
  refine lv_if_ne (tgt := 9) hx hb dX11_judge_4 (by decide) (fun c1 => absurd (b1 c1) (by omega)) (fun _ => ?_)
  refine lv_iconst (v := (-1)) hx hb dX11_judge_7 (by decide) ?_
  exact rz_i hx hb hr hlk (by unfold sp_two; (repeat' split) <;> first | rfl | (exfalso; omega)) dX11_judge_8
theorem dX11_sure_0 : decode cX11_sure 0 = .ok (.iload_n 1, 1) := by decide +kernel
theorem dX11_sure_1 : decode cX11_sure 1 = .ok (.iconst (-1), 1) := by decide +kernel
theorem dX11_sure_2 : decode cX11_sure 2 = .ok (.if_icmp .ge 5, 3) := by decide +kernel
theorem dX11_sure_7 : decode cX11_sure 7 = .ok (.aload_n 0, 1) := by decide +kernel
theorem q_464 : Cond.fieldLink RX11 44 RX11 "hunt" "LFoxHoles$Hunt;" ∈ lw_g := mem_q 464 (by decide +kernel) rfl
theorem dX11_sure_8 : decode cX11_sure 8 = .ok (.getfield 44, 3) := by decide +kernel
theorem q_823 : Cond.methodLink RX11 223 yX6_mornings ∈ lw_g := mem_q 823 (by decide +kernel) rfl
theorem q_824 : Cond.instanceMethod yX6_mornings ∈ lw_g := mem_q 824 (by decide +kernel) rfl
theorem q_825 : Cond.selects RX6 yX6_mornings yX6_mornings ∈ lw_g := mem_q 825 (by decide +kernel) rfl
theorem q_826 : Cond.code yX6_mornings cX6_mornings 1 (some .int) ∈ lw_g := mem_q 826 (by decide +kernel) rfl
theorem kV_RX11_223 : CV RX11 223 RX6 yX6_mornings cX6_mornings 1 (some .int) 0 := cv_of q_823 q_824 q_825 q_108 q_826 (by decide +kernel)
theorem dX11_sure_11 : decode cX11_sure 11 = .ok (.invokevirtual 223, 3) := by decide +kernel
theorem dX11_sure_14 : decode cX11_sure 14 = .ok (.istore_n 2, 1) := by decide +kernel
theorem dX11_sure_15 : decode cX11_sure 15 = .ok (.iload_n 1, 1) := by decide +kernel
theorem dX11_sure_16 : decode cX11_sure 16 = .ok (.iconst (-1), 1) := by decide +kernel
theorem dX11_sure_17 : decode cX11_sure 17 = .ok (.if_icmp .ne 7, 3) := by decide +kernel
theorem dX11_sure_24 : decode cX11_sure 24 = .ok (.aload_n 0, 1) := by decide +kernel
theorem dX11_sure_25 : decode cX11_sure 25 = .ok (.getfield 44, 3) := by decide +kernel
theorem dX11_sure_28 : decode cX11_sure 28 = .ok (.iload_n 1, 1) := by decide +kernel
theorem q_866 : Cond.methodLink RX11 225 yX6_lookAt ∈ lw_g := mem_q 866 (by decide +kernel) rfl
theorem q_867 : Cond.instanceMethod yX6_lookAt ∈ lw_g := mem_q 867 (by decide +kernel) rfl
theorem q_868 : Cond.selects RX6 yX6_lookAt yX6_lookAt ∈ lw_g := mem_q 868 (by decide +kernel) rfl
theorem q_869 : Cond.code yX6_lookAt cX6_lookAt 7 (some .int) ∈ lw_g := mem_q 869 (by decide +kernel) rfl
theorem kV_RX11_225 : CV RX11 225 RX6 yX6_lookAt cX6_lookAt 7 (some .int) 1 := cv_of q_866 q_867 q_868 q_108 q_869 (by decide +kernel)
theorem dX11_sure_29 : decode cX11_sure 29 = .ok (.invokevirtual 225, 3) := by decide +kernel
theorem dX11_sure_32 : decode cX11_sure 32 = .ok (.ireturn, 1) := by decide +kernel
theorem dX11_sure_20 : decode cX11_sure 20 = .ok (.iload_n 2, 1) := by decide +kernel
theorem dX11_sure_21 : decode cX11_sure 21 = .ok (.goto 11, 3) := by decide +kernel
theorem dX11_sure_5 : decode cX11_sure 5 = .ok (.iconst (-1), 1) := by decide +kernel
theorem dX11_sure_6 : decode cX11_sure 6 = .ok (.ireturn, 1) := by decide +kernel
set_option maxHeartbeats 4000000 in
set_option maxRecDepth 100000 in
theorem c_sure (l : Launch) (J : va_J9) (sz : Nat) (a : Nat → Nat) (k : Int32) : WC l J yX11_sure cX11_sure 3 (some .int) ({ frames := 4, cells := 0, slots := 0, locals := 83 }) [.ref (a 0), .int k] [((a 0), .inr (11, [.ref (a 1), .ref (a 6), .ref (a 10), .ref (a 15), .ref (a 17), .ref (a 22), .ref (a 23), .ref (a 30), .ref (a 31), .ref (a 34), .int 0, .ref (a 37), .ref (a 40)])), ((a 17), .inr (6, [.ref (a 6), .ref (a 18), .ref (a 19), .int 0, .ref (a 20), .ref (a 21), .int 0, .int 0, .int 0, .int 0, .int (-1)])), ((a 6), .inr (10, [.ref (a 1), .ref (a 7), .ref (a 8), .ref (a 9), .int 0, .int 0, .int 0, .int 0, .int 1, .int 0, .int 0])), ((a 20), .inl (J.2.1, 32, .inl (fun _ => 0))), ((a 21), .inl (J.2.1, 32, .inl (fun _ => 0)))] sz (Qi J (fun (r : Int32) (_ : Unit) => r = sp_sure (k.toInt)) (fun (_ : Unit) => [])) 0 0 := by
  refine wc_of (by decide) (Nat.le_of_ble_eq_true rfl) ?_
  intro p e s m below meth c ls A hE hl hP hK hD hS hA
  obtain ⟨hx, hb, hr, hml, hown, hts, hlk, hin⟩ := hE
  have hown : s.vm.findClass RX11 = some m.cls := hown
  have hl : lv_has ls 3 [(0, .ref (a 0)), (1, .int k)] := hl
  have rg_k := i_rng k
  refine lv_iload_n hx hb dX11_sure_0 rfl (lv_at hl 1 rfl) ?_
  refine lv_iconst (v := (-1)) hx hb dX11_sure_1 (by decide) ?_
  refine lv_icmp_ge (tgt := 7) hx hb dX11_sure_2 (by decide) (fun c1 => ?_) (fun c1 => ?_)
  · have j2 : (-1) ≤ k.toInt := (i_le (by decide) rfl).mp c1
    refine lv_aload_n hx hb dX11_sure_7 rfl (lv_at hl 0 rfl) ?_
    refine va_get (D := J.1) (ci := 11) (v := .ref (a 17)) (C := RX11) (T := TX11) (N := 13) hx hb hts inX11 hown hK.1 hP 0 rfl rfl 4 (by decide) (hts _ q_464) (fun _ h9 => h9) rfl dX11_sure_8 ?_
    refine gw_i (wc := [((a 17), .inr (6, [.ref (a 6), .ref (a 18), .ref (a 19), .int 0, .ref (a 20), .ref (a 21), .int 0, .int 0, .int 0, .int 0, .int (-1)])), ((a 6), .inr (10, [.ref (a 1), .ref (a 7), .ref (a 8), .ref (a 9), .int 0, .int 0, .int 0, .int 0, .int 1, .int 0, .int 0])), ((a 20), .inl (J.2.1, 32, .inl (fun _ => 0))), ((a 21), .inl (J.2.1, 32, .inl (fun _ => 0)))]) (wr := [((a 0), .inr (11, [.ref (a 1), .ref (a 6), .ref (a 10), .ref (a 15), .ref (a 17), .ref (a 22), .ref (a 23), .ref (a 30), .ref (a 31), .ref (a 34), .int 0, .ref (a 37), .ref (a 40)]))]) hP hD hS hA [1, 2, 3, 4] [0] rfl rfl (by decide) (by decide) (wn_V (As := []) (rest := []) hx hb hml hown hts hK (cH_mornings l J _ (a 17) (a 6) (a 18) (a 19) (a 20) (a 21) (a 1) (a 7) (a 8) (a 9)) kV_RX11_223 (hP.sub (ws' := [((a 17), .inr (6, [.ref (a 6), .ref (a 18), .ref (a 19), .int 0, .ref (a 20), .ref (a 21), .int 0, .int 0, .int 0, .int 0, .int (-1)])), ((a 6), .inr (10, [.ref (a 1), .ref (a 7), .ref (a 8), .ref (a 9), .int 0, .int 0, .int 0, .int 0, .int 1, .int 0, .int 0])), ((a 20), .inl (J.2.1, 32, .inl (fun _ => 0))), ((a 21), .inl (J.2.1, 32, .inl (fun _ => 0)))]) [1, 2, 3, 4] rfl) ((hD.sub (ws' := [((a 17), .inr (6, [.ref (a 6), .ref (a 18), .ref (a 19), .int 0, .ref (a 20), .ref (a 21), .int 0, .int 0, .int 0, .int 0, .int (-1)])), ((a 6), .inr (10, [.ref (a 1), .ref (a 7), .ref (a 8), .ref (a 9), .int 0, .int 0, .int 0, .int 0, .int 1, .int 0, .int 0])), ((a 20), .inl (J.2.1, 32, .inl (fun _ => 0))), ((a 21), .inl (J.2.1, 32, .inl (fun _ => 0)))]) [1, 2, 3, 4] (by decide) rfl).weaken (fun _ _ _ _ => trivial)) rfl rfl rfl ⟨Nat.le_of_ble_eq_true rfl, Nat.le_of_ble_eq_true rfl⟩ rfl rfl rfl hl.1 rfl (Nat.le_of_ble_eq_true rfl) ⟨Nat.le_of_ble_eq_true rfl, Nat.le_of_ble_eq_true rfl⟩ dX11_sure_11) (fun r4 u3 H locs hw hP hD hS => ?_)
    subst hw
    have hP : va_P J.1 cls [((a 0), .inr (11, [.ref (a 1), .ref (a 6), .ref (a 10), .ref (a 15), .ref (a 17), .ref (a 22), .ref (a 23), .ref (a 30), .ref (a 31), .ref (a 34), .int 0, .ref (a 37), .ref (a 40)])), ((a 17), .inr (6, [.ref (a 6), .ref (a 18), .ref (a 19), .int 0, .ref (a 20), .ref (a 21), .int 0, .int 0, .int 0, .int 0, .int 0])), ((a 6), .inr (10, [.ref (a 1), .ref (a 7), .ref (a 8), .ref (a 9), .int 0, .int 0, .int 0, .int 0, .int 1, .int 0, .int 0]))] H := hP
    have hD : va_D A [((a 0), .inr (11, [.ref (a 1), .ref (a 6), .ref (a 10), .ref (a 15), .ref (a 17), .ref (a 22), .ref (a 23), .ref (a 30), .ref (a 31), .ref (a 34), .int 0, .ref (a 37), .ref (a 40)])), ((a 17), .inr (6, [.ref (a 6), .ref (a 18), .ref (a 19), .int 0, .ref (a 20), .ref (a 21), .int 0, .int 0, .int 0, .int 0, .int 0])), ((a 6), .inr (10, [.ref (a 1), .ref (a 7), .ref (a 8), .ref (a 9), .int 0, .int 0, .int 0, .int 0, .int 1, .int 0, .int 0]))] := hD
    refine W.widen (k := 0) (n := 0) (Nat.le_of_ble_eq_true rfl) (Nat.le_of_ble_eq_true rfl) ?_
    refine lv_istore_n (lv' := [(2, .int 0), (0, .ref (a 0)), (1, .int k)]) hx hb dX11_sure_14 rfl hl (by decide) rfl (fun ls hl => ?_)
    refine lv_iload_n hx hb dX11_sure_15 rfl (lv_at hl 2 rfl) ?_
    refine lv_iconst (v := (-1)) hx hb dX11_sure_16 (by decide) ?_
    refine lv_icmp_ne (tgt := 24) hx hb dX11_sure_17 (by decide) (fun c5 => ?_) (fun c5 => ?_)
    · have j6 : ¬ (k.toInt = (-1)) := fun h => c5 ((i_eq rfl (by decide)).mpr h)
      refine lv_aload_n hx hb dX11_sure_24 rfl (lv_at hl 1 rfl) ?_
      refine va_get (D := J.1) (ci := 11) (v := .ref (a 17)) (C := RX11) (T := TX11) (N := 13) hx hb hts inX11 hown hK.1 hP 0 rfl rfl 4 (by decide) (hts _ q_464) (fun _ h9 => h9) rfl dX11_sure_25 ?_
      refine lv_iload_n hx hb dX11_sure_28 rfl (lv_at hl 2 rfl) ?_
      refine go_i (rn_V (As := [.int k]) (rest := []) hx hb hml hown hts hK (cH_lookAt l J (a 17) (a 6) (a 18) (a 19) (a 20) (a 21) (a 1) (a 7) (a 8) (a 9) k) kV_RX11_225 (hP.sub (ws' := [((a 17), .inr (6, [.ref (a 6), .ref (a 18), .ref (a 19), .int 0, .ref (a 20), .ref (a 21), .int 0, .int 0, .int 0, .int 0, .int 0])), ((a 6), .inr (10, [.ref (a 1), .ref (a 7), .ref (a 8), .ref (a 9), .int 0, .int 0, .int 0, .int 0, .int 1, .int 0, .int 0]))]) [1, 2] rfl) rfl rfl rfl ⟨Nat.le_of_ble_eq_true rfl, Nat.le_of_ble_eq_true rfl⟩ rfl rfl rfl hl.1 rfl (Nat.le_of_ble_eq_true rfl) ⟨Nat.le_of_ble_eq_true rfl, Nat.le_of_ble_eq_true rfl⟩ dX11_sure_29) ?_
      exact wz_i () hx hb hr hlk (by unfold sp_sure; (repeat' split) <;> first | rfl | (exfalso; omega)) (hP.sub (ws' := []) [] rfl) (hD.sub (ws' := []) [] (by decide) rfl) hS dX11_sure_32
    · have j7 : k.toInt = (-1) := (i_eq rfl (by decide)).mp c5
      refine lv_iload_n hx hb dX11_sure_20 rfl (lv_at hl 0 rfl) ?_
      refine lv_goto (tgt := 32) hx hb dX11_sure_21 (by decide) ?_
      exact wz_i () hx hb hr hlk (by unfold sp_sure; (repeat' split) <;> first | rfl | (exfalso; omega)) (hP.sub (ws' := []) [] rfl) (hD.sub (ws' := []) [] (by decide) rfl) hS dX11_sure_32
  · have j8 : ¬ ((-1) ≤ k.toInt) := fun h => c1 ((i_le (by decide) rfl).mpr h)
    refine lv_iconst (v := (-1)) hx hb dX11_sure_5 (by decide) ?_
    exact wz_i () hx hb hr hlk (by unfold sp_sure; (repeat' split) <;> first | rfl | (exfalso; omega)) (hP.sub (ws' := []) [] rfl) (hD.sub (ws' := []) [] (by decide) rfl) hS dX11_sure_6
theorem dX11_sureFrom_0 : decode cX11_sureFrom 0 = .ok (.aload_n 0, 1) := by decide +kernel
theorem dX11_sureFrom_1 : decode cX11_sureFrom 1 = .ok (.getfield 21, 3) := by decide +kernel
theorem dX11_sureFrom_4 : decode cX11_sureFrom 4 = .ok (.iload_n 1, 1) := by decide +kernel
theorem q_879 : Cond.methodLink RX11 228 yX10_areHoles ∈ lw_g := mem_q 879 (by decide +kernel) rfl
theorem q_880 : Cond.instanceMethod yX10_areHoles ∈ lw_g := mem_q 880 (by decide +kernel) rfl
theorem q_881 : Cond.selects RX10 yX10_areHoles yX10_areHoles ∈ lw_g := mem_q 881 (by decide +kernel) rfl
theorem q_882 : Cond.code yX10_areHoles cX10_areHoles 2 (some .boolean) ∈ lw_g := mem_q 882 (by decide +kernel) rfl
theorem kV_RX11_228 : CV RX11 228 RX10 yX10_areHoles cX10_areHoles 2 (some .boolean) 1 := cv_of q_879 q_880 q_881 q_105 q_882 (by decide +kernel)
theorem dX11_sureFrom_5 : decode cX11_sureFrom 5 = .ok (.invokevirtual 228, 3) := by decide +kernel
theorem dX11_sureFrom_8 : decode cX11_sureFrom 8 = .ok (.ifCond .eq 13, 3) := by decide +kernel
theorem dX11_sureFrom_21 : decode cX11_sureFrom 21 = .ok (.iconst (-1), 1) := by decide +kernel
theorem dX11_sureFrom_22 : decode cX11_sureFrom 22 = .ok (.ireturn, 1) := by decide +kernel
theorem dX11_sureFrom_11 : decode cX11_sureFrom 11 = .ok (.iload_n 2, 1) := by decide +kernel
theorem dX11_sureFrom_12 : decode cX11_sureFrom 12 = .ok (.ifCond .lt 9, 3) := by decide +kernel
theorem dX11_sureFrom_15 : decode cX11_sureFrom 15 = .ok (.iload_n 2, 1) := by decide +kernel
theorem dX11_sureFrom_16 : decode cX11_sureFrom 16 = .ok (.bipush 7, 2) := by decide +kernel
theorem dX11_sureFrom_18 : decode cX11_sureFrom 18 = .ok (.if_icmp .lt 5, 3) := by decide +kernel
theorem dX11_sureFrom_23 : decode cX11_sureFrom 23 = .ok (.aload_n 0, 1) := by decide +kernel
theorem dX11_sureFrom_24 : decode cX11_sureFrom 24 = .ok (.getfield 44, 3) := by decide +kernel
theorem dX11_sureFrom_27 : decode cX11_sureFrom 27 = .ok (.iload_n 1, 1) := by decide +kernel
theorem dX11_sureFrom_28 : decode cX11_sureFrom 28 = .ok (.iload_n 2, 1) := by decide +kernel
theorem q_883 : Cond.methodLink RX11 231 yX6_morningsFrom ∈ lw_g := mem_q 883 (by decide +kernel) rfl
theorem q_884 : Cond.instanceMethod yX6_morningsFrom ∈ lw_g := mem_q 884 (by decide +kernel) rfl
theorem q_885 : Cond.selects RX6 yX6_morningsFrom yX6_morningsFrom ∈ lw_g := mem_q 885 (by decide +kernel) rfl
theorem q_886 : Cond.code yX6_morningsFrom cX6_morningsFrom 3 (some .int) ∈ lw_g := mem_q 886 (by decide +kernel) rfl
theorem kV_RX11_231 : CV RX11 231 RX6 yX6_morningsFrom cX6_morningsFrom 3 (some .int) 2 := cv_of q_883 q_884 q_885 q_108 q_886 (by decide +kernel)
theorem dX11_sureFrom_29 : decode cX11_sureFrom 29 = .ok (.invokevirtual 231, 3) := by decide +kernel
theorem dX11_sureFrom_32 : decode cX11_sureFrom 32 = .ok (.ireturn, 1) := by decide +kernel
set_option maxHeartbeats 4000000 in
set_option maxRecDepth 100000 in
theorem c_sureFrom (l : Launch) (J : va_J9) (sz : Nat) (a : Nat → Nat) (x : Int32) (k : Int32) : WC l J yX11_sureFrom cX11_sureFrom 3 (some .int) ({ frames := 4, cells := 0, slots := 0, locals := 85 }) [.ref (a 0), .int x, .int k] [((a 0), .inr (11, [.ref (a 1), .ref (a 6), .ref (a 10), .ref (a 15), .ref (a 17), .ref (a 22), .ref (a 23), .ref (a 30), .ref (a 31), .ref (a 34), .int 0, .ref (a 37), .ref (a 40)])), ((a 17), .inr (6, [.ref (a 6), .ref (a 18), .ref (a 19), .int 0, .ref (a 20), .ref (a 21), .int 0, .int 0, .int 0, .int 0, .int (-1)])), ((a 6), .inr (10, [.ref (a 1), .ref (a 7), .ref (a 8), .ref (a 9), .int 0, .int 0, .int 0, .int 0, .int 1, .int 0, .int 0])), ((a 20), .inl (J.2.1, 32, .inl (fun _ => 0))), ((a 21), .inl (J.2.1, 32, .inl (fun _ => 0)))] sz (Qi J (fun (r : Int32) (_ : Unit) => r = sp_sureFrom (x.toInt) (k.toInt)) (fun (_ : Unit) => [])) 0 0 := by
  refine wc_of (by decide) (Nat.le_of_ble_eq_true rfl) ?_
  intro p e s m below meth c ls A hE hl hP hK hD hS hA
  obtain ⟨hx, hb, hr, hml, hown, hts, hlk, hin⟩ := hE
  have hown : s.vm.findClass RX11 = some m.cls := hown
  have hl : lv_has ls 3 [(0, .ref (a 0)), (1, .int x), (2, .int k)] := hl
  have rg_x := i_rng x
  have rg_k := i_rng k
  refine lv_aload_n hx hb dX11_sureFrom_0 rfl (lv_at hl 0 rfl) ?_
  refine va_get (D := J.1) (ci := 11) (v := .ref (a 6)) (C := RX11) (T := TX11) (N := 13) hx hb hts inX11 hown hK.1 hP 0 rfl rfl 1 (by decide) (hts _ q_461) (fun _ h9 => h9) rfl dX11_sureFrom_1 ?_
  refine lv_iload_n hx hb dX11_sureFrom_4 rfl (lv_at hl 1 rfl) ?_
  refine go_i (rn_V (As := [.int x]) (rest := []) hx hb hml hown hts hK (cW_areHoles l J (a 6) (a 1) (a 7) (a 8) (a 9) x) kV_RX11_228 (hP.sub (ws' := [((a 6), .inr (10, [.ref (a 1), .ref (a 7), .ref (a 8), .ref (a 9), .int 0, .int 0, .int 0, .int 0, .int 1, .int 0, .int 0]))]) [2] rfl) rfl rfl rfl ⟨Nat.le_of_ble_eq_true rfl, Nat.le_of_ble_eq_true rfl⟩ rfl rfl rfl hl.1 rfl (Nat.le_of_ble_eq_true rfl) ⟨Nat.le_of_ble_eq_true rfl, Nat.le_of_ble_eq_true rfl⟩ dX11_sureFrom_5) ?_
  refine lv_if_eq (tgt := 21) hx hb dX11_sureFrom_8 (by decide) (fun c1 => ?_) (fun c1 => ?_)
  · have j2 := b0 c1
    refine lv_iconst (v := (-1)) hx hb dX11_sureFrom_21 (by decide) ?_
    exact wz_i () hx hb hr hlk (by unfold sp_sureFrom; (repeat' split) <;> first | rfl | (exfalso; omega)) (hP.sub (ws' := []) [] rfl) (hD.sub (ws' := []) [] (by decide) rfl) hS dX11_sureFrom_22
  · have j3 := b1 c1
    refine lv_iload_n hx hb dX11_sureFrom_11 rfl (lv_at hl 2 rfl) ?_
    refine lv_if_lt (tgt := 21) hx hb dX11_sureFrom_12 (by decide) (fun c4 => ?_) (fun c4 => ?_)
    · have j5 : k.toInt < 0 := (i_lt rfl (by decide)).mp c4
      refine lv_iconst (v := (-1)) hx hb dX11_sureFrom_21 (by decide) ?_
      exact wz_i () hx hb hr hlk (by unfold sp_sureFrom; (repeat' split) <;> first | rfl | (exfalso; omega)) (hP.sub (ws' := []) [] rfl) (hD.sub (ws' := []) [] (by decide) rfl) hS dX11_sureFrom_22
    · have j6 : ¬ (k.toInt < 0) := fun h => c4 ((i_lt rfl (by decide)).mpr h)
      refine lv_iload_n hx hb dX11_sureFrom_15 rfl (lv_at hl 2 rfl) ?_
      refine lv_bipush (v := 7) hx hb dX11_sureFrom_16 (by decide) ?_
      refine lv_icmp_lt (tgt := 23) hx hb dX11_sureFrom_18 (by decide) (fun c7 => ?_) (fun c7 => ?_)
      · have j8 : k.toInt < 7 := (i_lt rfl (by decide)).mp c7
        refine lv_aload_n hx hb dX11_sureFrom_23 rfl (lv_at hl 0 rfl) ?_
        refine va_get (D := J.1) (ci := 11) (v := .ref (a 17)) (C := RX11) (T := TX11) (N := 13) hx hb hts inX11 hown hK.1 hP 0 rfl rfl 4 (by decide) (hts _ q_464) (fun _ h9 => h9) rfl dX11_sureFrom_24 ?_
        refine lv_iload_n hx hb dX11_sureFrom_27 rfl (lv_at hl 1 rfl) ?_
        refine lv_iload_n hx hb dX11_sureFrom_28 rfl (lv_at hl 2 rfl) ?_
        refine gw_i (wc := [((a 17), .inr (6, [.ref (a 6), .ref (a 18), .ref (a 19), .int 0, .ref (a 20), .ref (a 21), .int 0, .int 0, .int 0, .int 0, .int (-1)])), ((a 6), .inr (10, [.ref (a 1), .ref (a 7), .ref (a 8), .ref (a 9), .int 0, .int 0, .int 0, .int 0, .int 1, .int 0, .int 0])), ((a 20), .inl (J.2.1, 32, .inl (fun _ => 0))), ((a 21), .inl (J.2.1, 32, .inl (fun _ => 0)))]) (wr := [((a 0), .inr (11, [.ref (a 1), .ref (a 6), .ref (a 10), .ref (a 15), .ref (a 17), .ref (a 22), .ref (a 23), .ref (a 30), .ref (a 31), .ref (a 34), .int 0, .ref (a 37), .ref (a 40)]))]) hP hD hS hA [1, 2, 3, 4] [0] rfl rfl (by decide) (by decide) (wn_V (As := [.int x, .int k]) (rest := []) hx hb hml hown hts hK (cH_from l J _ (a 17) (a 6) (a 18) (a 19) (a 20) (a 21) (a 1) (a 7) (a 8) (a 9) x k) kV_RX11_231 (hP.sub (ws' := [((a 17), .inr (6, [.ref (a 6), .ref (a 18), .ref (a 19), .int 0, .ref (a 20), .ref (a 21), .int 0, .int 0, .int 0, .int 0, .int (-1)])), ((a 6), .inr (10, [.ref (a 1), .ref (a 7), .ref (a 8), .ref (a 9), .int 0, .int 0, .int 0, .int 0, .int 1, .int 0, .int 0])), ((a 20), .inl (J.2.1, 32, .inl (fun _ => 0))), ((a 21), .inl (J.2.1, 32, .inl (fun _ => 0)))]) [1, 2, 3, 4] rfl) ((hD.sub (ws' := [((a 17), .inr (6, [.ref (a 6), .ref (a 18), .ref (a 19), .int 0, .ref (a 20), .ref (a 21), .int 0, .int 0, .int 0, .int 0, .int (-1)])), ((a 6), .inr (10, [.ref (a 1), .ref (a 7), .ref (a 8), .ref (a 9), .int 0, .int 0, .int 0, .int 0, .int 1, .int 0, .int 0])), ((a 20), .inl (J.2.1, 32, .inl (fun _ => 0))), ((a 21), .inl (J.2.1, 32, .inl (fun _ => 0)))]) [1, 2, 3, 4] (by decide) rfl).weaken (fun _ _ _ _ => trivial)) rfl rfl rfl ⟨Nat.le_of_ble_eq_true rfl, Nat.le_of_ble_eq_true rfl⟩ rfl rfl rfl hl.1 rfl (Nat.le_of_ble_eq_true rfl) ⟨Nat.le_of_ble_eq_true rfl, Nat.le_of_ble_eq_true rfl⟩ dX11_sureFrom_29) (fun r10 u9 H locs hw hP hD hS => ?_)
        subst hw
        have hP : va_P J.1 cls [((a 0), .inr (11, [.ref (a 1), .ref (a 6), .ref (a 10), .ref (a 15), .ref (a 17), .ref (a 22), .ref (a 23), .ref (a 30), .ref (a 31), .ref (a 34), .int 0, .ref (a 37), .ref (a 40)]))] H := hP
        have hD : va_D A [((a 0), .inr (11, [.ref (a 1), .ref (a 6), .ref (a 10), .ref (a 15), .ref (a 17), .ref (a 22), .ref (a 23), .ref (a 30), .ref (a 31), .ref (a 34), .int 0, .ref (a 37), .ref (a 40)]))] := hD
        refine W.widen (k := 0) (n := 0) (Nat.le_of_ble_eq_true rfl) (Nat.le_of_ble_eq_true rfl) ?_
        exact wz_i () hx hb hr hlk (by unfold sp_sureFrom; (repeat' split) <;> first | rfl | (exfalso; omega)) (hP.sub (ws' := []) [] rfl) (hD.sub (ws' := []) [] (by decide) rfl) hS dX11_sureFrom_32
      · have j11 : ¬ (k.toInt < 7) := fun h => c7 ((i_lt rfl (by decide)).mpr h)
        refine lv_iconst (v := (-1)) hx hb dX11_sureFrom_21 (by decide) ?_
        exact wz_i () hx hb hr hlk (by unfold sp_sureFrom; (repeat' split) <;> first | rfl | (exfalso; omega)) (hP.sub (ws' := []) [] rfl) (hD.sub (ws' := []) [] (by decide) rfl) hS dX11_sureFrom_22
theorem dX11_ring_0 : decode cX11_ring 0 = .ok (.aload_n 0, 1) := by decide +kernel
theorem q_465 : Cond.fieldLink RX11 51 RX11 "ground" "LFoxHoles$Ground;" ∈ lw_g := mem_q 465 (by decide +kernel) rfl
theorem dX11_ring_1 : decode cX11_ring 1 = .ok (.getfield 51, 3) := by decide +kernel
theorem q_891 : Cond.methodLink RX11 234 yX5_hasRing ∈ lw_g := mem_q 891 (by decide +kernel) rfl
theorem q_892 : Cond.instanceMethod yX5_hasRing ∈ lw_g := mem_q 892 (by decide +kernel) rfl
theorem q_893 : Cond.selects RX5 yX5_hasRing yX5_hasRing ∈ lw_g := mem_q 893 (by decide +kernel) rfl
theorem q_109 : Cond.initialized RX5 ∈ lw_g := mem_q 109 (by decide +kernel) rfl
theorem q_894 : Cond.code yX5_hasRing cX5_hasRing 4 (some .boolean) ∈ lw_g := mem_q 894 (by decide +kernel) rfl
theorem kV_RX11_234 : CV RX11 234 RX5 yX5_hasRing cX5_hasRing 4 (some .boolean) 0 := cv_of q_891 q_892 q_893 q_109 q_894 (by decide +kernel)
theorem dX11_ring_4 : decode cX11_ring 4 = .ok (.invokevirtual 234, 3) := by decide +kernel
theorem dX11_ring_7 : decode cX11_ring 7 = .ok (.ifCond .eq 7, 3) := by decide +kernel
theorem dX11_ring_14 : decode cX11_ring 14 = .ok (.iconst 0, 1) := by decide +kernel
theorem dX11_ring_15 : decode cX11_ring 15 = .ok (.ireturn, 1) := by decide +kernel
set_option maxHeartbeats 4000000 in
set_option maxRecDepth 100000 in
theorem c_ring (l : Launch) (J : va_J9) (a : Nat → Nat) : RC l J yX11_ring cX11_ring 1 (some .int) ({ frames := 4, cells := 0, slots := 0, locals := 86 }) [.ref (a 0)] [((a 0), .inr (11, [.ref (a 1), .ref (a 6), .ref (a 10), .ref (a 15), .ref (a 17), .ref (a 22), .ref (a 23), .ref (a 30), .ref (a 31), .ref (a 34), .int 0, .ref (a 37), .ref (a 40)])), ((a 22), .inr (5, [.ref (a 6)])), ((a 6), .inr (10, [.ref (a 1), .ref (a 7), .ref (a 8), .ref (a 9), .int 0, .int 0, .int 0, .int 0, .int 1, .int 0, .int 0]))] (vp_Si (fun r => r = 0)) := by
  refine rc_of (by decide) (Nat.le_of_ble_eq_true rfl) ?_
  intro p e s m below meth c ls hE hl hP hK
  obtain ⟨hx, hb, hr, hml, hown, hts, hlk, hin⟩ := hE
  have hown : s.vm.findClass RX11 = some m.cls := hown
  have hl : lv_has ls 1 [(0, .ref (a 0))] := hl
  refine lv_aload_n hx hb dX11_ring_0 rfl (lv_at hl 0 rfl) ?_
  refine va_get (D := J.1) (ci := 11) (v := .ref (a 22)) (C := RX11) (T := TX11) (N := 13) hx hb hts inX11 hown hK.1 hP 0 rfl rfl 5 (by decide) (hts _ q_465) (fun _ h9 => h9) rfl dX11_ring_1 ?_
  refine go_i (rn_V (As := []) (rest := []) hx hb hml hown hts hK (cG_ring l J (a 22) (a 6) (a 1) (a 7) (a 8) (a 9)) kV_RX11_234 (hP.sub (ws' := [((a 22), .inr (5, [.ref (a 6)])), ((a 6), .inr (10, [.ref (a 1), .ref (a 7), .ref (a 8), .ref (a 9), .int 0, .int 0, .int 0, .int 0, .int 1, .int 0, .int 0]))]) [1, 2] rfl) rfl rfl rfl ⟨Nat.le_of_ble_eq_true rfl, Nat.le_of_ble_eq_true rfl⟩ rfl rfl rfl hl.1 rfl (Nat.le_of_ble_eq_true rfl) ⟨Nat.le_of_ble_eq_true rfl, Nat.le_of_ble_eq_true rfl⟩ dX11_ring_4) ?_
  refine lv_if_eq (tgt := 14) hx hb dX11_ring_7 (by decide) (fun _ => ?_) (fun c => absurd c (by decide))
  refine lv_iconst (v := 0) hx hb dX11_ring_14 (by decide) ?_
  exact rz_i hx hb hr hlk (by decide) dX11_ring_15
theorem dX11_arms_0 : decode cX11_arms 0 = .ok (.aload_n 0, 1) := by decide +kernel
theorem dX11_arms_1 : decode cX11_arms 1 = .ok (.getfield 51, 3) := by decide +kernel
theorem q_905 : Cond.methodLink RX11 237 yX5_centres ∈ lw_g := mem_q 905 (by decide +kernel) rfl
theorem q_906 : Cond.instanceMethod yX5_centres ∈ lw_g := mem_q 906 (by decide +kernel) rfl
theorem q_907 : Cond.selects RX5 yX5_centres yX5_centres ∈ lw_g := mem_q 907 (by decide +kernel) rfl
theorem q_908 : Cond.code yX5_centres cX5_centres 3 (some .int) ∈ lw_g := mem_q 908 (by decide +kernel) rfl
theorem kV_RX11_237 : CV RX11 237 RX5 yX5_centres cX5_centres 3 (some .int) 0 := cv_of q_905 q_906 q_907 q_109 q_908 (by decide +kernel)
theorem dX11_arms_4 : decode cX11_arms 4 = .ok (.invokevirtual 237, 3) := by decide +kernel
theorem dX11_arms_7 : decode cX11_arms 7 = .ok (.ireturn, 1) := by decide +kernel
set_option maxHeartbeats 4000000 in
set_option maxRecDepth 100000 in
theorem c_arms (l : Launch) (J : va_J9) (a : Nat → Nat) : RC l J yX11_arms cX11_arms 1 (some .int) ({ frames := 1, cells := 0, slots := 0, locals := 22 }) [.ref (a 0)] [((a 0), .inr (11, [.ref (a 1), .ref (a 6), .ref (a 10), .ref (a 15), .ref (a 17), .ref (a 22), .ref (a 23), .ref (a 30), .ref (a 31), .ref (a 34), .int 0, .ref (a 37), .ref (a 40)])), ((a 22), .inr (5, [.ref (a 6)])), ((a 6), .inr (10, [.ref (a 1), .ref (a 7), .ref (a 8), .ref (a 9), .int 0, .int 0, .int 0, .int 0, .int 1, .int 0, .int 0]))] (vp_Si (fun r => r = 0)) := by
  refine rc_of (by decide) (Nat.le_of_ble_eq_true rfl) ?_
  intro p e s m below meth c ls hE hl hP hK
  obtain ⟨hx, hb, hr, hml, hown, hts, hlk, hin⟩ := hE
  have hown : s.vm.findClass RX11 = some m.cls := hown
  have hl : lv_has ls 1 [(0, .ref (a 0))] := hl
  refine lv_aload_n hx hb dX11_arms_0 rfl (lv_at hl 0 rfl) ?_
  refine va_get (D := J.1) (ci := 11) (v := .ref (a 22)) (C := RX11) (T := TX11) (N := 13) hx hb hts inX11 hown hK.1 hP 0 rfl rfl 5 (by decide) (hts _ q_465) (fun _ h9 => h9) rfl dX11_arms_1 ?_
  refine go_i (rn_V (As := []) (rest := []) hx hb hml hown hts hK (cG_centres l J (a 22) (a 6) (a 1) (a 7) (a 8) (a 9)) kV_RX11_237 (hP.sub (ws' := [((a 22), .inr (5, [.ref (a 6)])), ((a 6), .inr (10, [.ref (a 1), .ref (a 7), .ref (a 8), .ref (a 9), .int 0, .int 0, .int 0, .int 0, .int 1, .int 0, .int 0]))]) [1, 2] rfl) rfl rfl rfl ⟨Nat.le_of_ble_eq_true rfl, Nat.le_of_ble_eq_true rfl⟩ rfl rfl rfl hl.1 rfl (Nat.le_of_ble_eq_true rfl) ⟨Nat.le_of_ble_eq_true rfl, Nat.le_of_ble_eq_true rfl⟩ dX11_arms_4) ?_
  exact rz_i hx hb hr hlk (by decide) dX11_arms_7
theorem dX11_toStop_0 : decode cX11_toStop 0 = .ok (.iload_n 1, 1) := by decide +kernel
theorem dX11_toStop_1 : decode cX11_toStop 1 = .ok (.iconst 1, 1) := by decide +kernel
theorem dX11_toStop_2 : decode cX11_toStop 2 = .ok (.if_icmp .lt 9, 3) := by decide +kernel
theorem dX11_toStop_11 : decode cX11_toStop 11 = .ok (.iconst (-1), 1) := by decide +kernel
theorem dX11_toStop_12 : decode cX11_toStop 12 = .ok (.ireturn, 1) := by decide +kernel
theorem dX11_toStop_5 : decode cX11_toStop 5 = .ok (.iload_n 1, 1) := by decide +kernel
theorem dX11_toStop_6 : decode cX11_toStop 6 = .ok (.bipush 40, 2) := by decide +kernel
theorem dX11_toStop_8 : decode cX11_toStop 8 = .ok (.if_icmp .le 5, 3) := by decide +kernel
theorem dX11_toStop_13 : decode cX11_toStop 13 = .ok (.aload_n 0, 1) := by decide +kernel
theorem dX11_toStop_14 : decode cX11_toStop 14 = .ok (.getfield 44, 3) := by decide +kernel
theorem dX11_toStop_17 : decode cX11_toStop 17 = .ok (.iload_n 1, 1) := by decide +kernel
theorem q_922 : Cond.methodLink RX11 240 yX6_fewestStops ∈ lw_g := mem_q 922 (by decide +kernel) rfl
theorem q_923 : Cond.instanceMethod yX6_fewestStops ∈ lw_g := mem_q 923 (by decide +kernel) rfl
theorem q_924 : Cond.selects RX6 yX6_fewestStops yX6_fewestStops ∈ lw_g := mem_q 924 (by decide +kernel) rfl
theorem q_925 : Cond.code yX6_fewestStops cX6_fewestStops 7 (some .int) ∈ lw_g := mem_q 925 (by decide +kernel) rfl
theorem kV_RX11_240 : CV RX11 240 RX6 yX6_fewestStops cX6_fewestStops 7 (some .int) 1 := cv_of q_922 q_923 q_924 q_108 q_925 (by decide +kernel)
theorem dX11_toStop_18 : decode cX11_toStop 18 = .ok (.invokevirtual 240, 3) := by decide +kernel
theorem dX11_toStop_21 : decode cX11_toStop 21 = .ok (.ireturn, 1) := by decide +kernel
set_option maxHeartbeats 4000000 in
set_option maxRecDepth 100000 in
theorem c_toStop (l : Launch) (J : va_J9) (sz : Nat) (a : Nat → Nat) (n : Int32) : WC l J yX11_toStop cX11_toStop 2 (some .int) ({ frames := 3, cells := 0, slots := 0, locals := 70 }) [.ref (a 0), .int n] [((a 0), .inr (11, [.ref (a 1), .ref (a 6), .ref (a 10), .ref (a 15), .ref (a 17), .ref (a 22), .ref (a 23), .ref (a 30), .ref (a 31), .ref (a 34), .int 0, .ref (a 37), .ref (a 40)])), ((a 17), .inr (6, [.ref (a 6), .ref (a 18), .ref (a 19), .int 0, .ref (a 20), .ref (a 21), .int 0, .int 0, .int 0, .int 0, .int (-1)])), ((a 6), .inr (10, [.ref (a 1), .ref (a 7), .ref (a 8), .ref (a 9), .int 0, .int 0, .int 0, .int 0, .int 1, .int 0, .int 0]))] sz (Qi J (fun (r : Int32) (_ : Unit) => r = sp_toStop (n.toInt)) (fun (_ : Unit) => [])) 0 0 := by
  refine wc_of (by decide) (Nat.le_of_ble_eq_true rfl) ?_
  intro p e s m below meth c ls A hE hl hP hK hD hS hA
  obtain ⟨hx, hb, hr, hml, hown, hts, hlk, hin⟩ := hE
  have hown : s.vm.findClass RX11 = some m.cls := hown
  have hl : lv_has ls 2 [(0, .ref (a 0)), (1, .int n)] := hl
  have rg_n := i_rng n
  refine lv_iload_n hx hb dX11_toStop_0 rfl (lv_at hl 1 rfl) ?_
  refine lv_iconst (v := 1) hx hb dX11_toStop_1 (by decide) ?_
  refine lv_icmp_lt (tgt := 11) hx hb dX11_toStop_2 (by decide) (fun c1 => ?_) (fun c1 => ?_)
  · have j2 : n.toInt < 1 := (i_lt rfl (by decide)).mp c1
    refine lv_iconst (v := (-1)) hx hb dX11_toStop_11 (by decide) ?_
    exact wz_i () hx hb hr hlk (by unfold sp_toStop; (repeat' split) <;> first | rfl | (exfalso; omega)) (hP.sub (ws' := []) [] rfl) (hD.sub (ws' := []) [] (by decide) rfl) hS dX11_toStop_12
  · have j3 : ¬ (n.toInt < 1) := fun h => c1 ((i_lt rfl (by decide)).mpr h)
    refine lv_iload_n hx hb dX11_toStop_5 rfl (lv_at hl 1 rfl) ?_
    refine lv_bipush (v := 40) hx hb dX11_toStop_6 (by decide) ?_
    refine lv_icmp_le (tgt := 13) hx hb dX11_toStop_8 (by decide) (fun c4 => ?_) (fun c4 => ?_)
    · have j5 : n.toInt ≤ 40 := (i_le rfl (by decide)).mp c4
      refine lv_aload_n hx hb dX11_toStop_13 rfl (lv_at hl 0 rfl) ?_
      refine va_get (D := J.1) (ci := 11) (v := .ref (a 17)) (C := RX11) (T := TX11) (N := 13) hx hb hts inX11 hown hK.1 hP 0 rfl rfl 4 (by decide) (hts _ q_464) (fun _ h9 => h9) rfl dX11_toStop_14 ?_
      refine lv_iload_n hx hb dX11_toStop_17 rfl (lv_at hl 1 rfl) ?_
      refine gw_i (wc := [((a 17), .inr (6, [.ref (a 6), .ref (a 18), .ref (a 19), .int 0, .ref (a 20), .ref (a 21), .int 0, .int 0, .int 0, .int 0, .int (-1)])), ((a 6), .inr (10, [.ref (a 1), .ref (a 7), .ref (a 8), .ref (a 9), .int 0, .int 0, .int 0, .int 0, .int 1, .int 0, .int 0]))]) (wr := [((a 0), .inr (11, [.ref (a 1), .ref (a 6), .ref (a 10), .ref (a 15), .ref (a 17), .ref (a 22), .ref (a 23), .ref (a 30), .ref (a 31), .ref (a 34), .int 0, .ref (a 37), .ref (a 40)]))]) hP hD hS hA [1, 2] [0] rfl rfl (by decide) (by decide) (wn_V (As := [.int n]) (rest := []) hx hb hml hown hts hK (cH_stops l J _ (a 17) (a 6) (a 18) (a 19) (a 20) (a 21) (a 1) (a 7) (a 8) (a 9) n (by omega)) kV_RX11_240 (hP.sub (ws' := [((a 17), .inr (6, [.ref (a 6), .ref (a 18), .ref (a 19), .int 0, .ref (a 20), .ref (a 21), .int 0, .int 0, .int 0, .int 0, .int (-1)])), ((a 6), .inr (10, [.ref (a 1), .ref (a 7), .ref (a 8), .ref (a 9), .int 0, .int 0, .int 0, .int 0, .int 1, .int 0, .int 0]))]) [1, 2] rfl) ((hD.sub (ws' := [((a 17), .inr (6, [.ref (a 6), .ref (a 18), .ref (a 19), .int 0, .ref (a 20), .ref (a 21), .int 0, .int 0, .int 0, .int 0, .int (-1)])), ((a 6), .inr (10, [.ref (a 1), .ref (a 7), .ref (a 8), .ref (a 9), .int 0, .int 0, .int 0, .int 0, .int 1, .int 0, .int 0]))]) [1, 2] (by decide) rfl).weaken (fun _ _ _ _ => trivial)) rfl rfl rfl ⟨Nat.le_of_ble_eq_true rfl, Nat.le_of_ble_eq_true rfl⟩ rfl rfl rfl hl.1 rfl (Nat.le_of_ble_eq_true rfl) ⟨Nat.le_of_ble_eq_true rfl, Nat.le_of_ble_eq_true rfl⟩ dX11_toStop_18) (fun r7 u6 H locs hw hP hD hS => ?_)
      subst hw
      have hP : va_P J.1 cls [((a 0), .inr (11, [.ref (a 1), .ref (a 6), .ref (a 10), .ref (a 15), .ref (a 17), .ref (a 22), .ref (a 23), .ref (a 30), .ref (a 31), .ref (a 34), .int 0, .ref (a 37), .ref (a 40)]))] H := hP
      have hD : va_D A [((a 0), .inr (11, [.ref (a 1), .ref (a 6), .ref (a 10), .ref (a 15), .ref (a 17), .ref (a 22), .ref (a 23), .ref (a 30), .ref (a 31), .ref (a 34), .int 0, .ref (a 37), .ref (a 40)]))] := hD
      refine W.widen (k := 0) (n := 0) (Nat.le_of_ble_eq_true rfl) (Nat.le_of_ble_eq_true rfl) ?_
      exact wz_i () hx hb hr hlk (by unfold sp_toStop; (repeat' split) <;> first | rfl | (exfalso; omega)) (hP.sub (ws' := []) [] rfl) (hD.sub (ws' := []) [] (by decide) rfl) hS dX11_toStop_21
    · have j8 : ¬ (n.toInt ≤ 40) := fun h => c4 ((i_le rfl (by decide)).mpr h)
      refine lv_iconst (v := (-1)) hx hb dX11_toStop_11 (by decide) ?_
      exact wz_i () hx hb hr hlk (by unfold sp_toStop; (repeat' split) <;> first | rfl | (exfalso; omega)) (hP.sub (ws' := []) [] rfl) (hD.sub (ws' := []) [] (by decide) rfl) hS dX11_toStop_12
theorem dX11_dogs_0 : decode cX11_dogs 0 = .ok (.aload_n 0, 1) := by decide +kernel
theorem dX11_dogs_1 : decode cX11_dogs 1 = .ok (.getfield 21, 3) := by decide +kernel
theorem dX11_dogs_4 : decode cX11_dogs 4 = .ok (.iload_n 1, 1) := by decide +kernel
theorem q_938 : Cond.methodLink RX11 243 yX10_isOpen ∈ lw_g := mem_q 938 (by decide +kernel) rfl
theorem kV_RX11_243 : CV RX11 243 RX10 yX10_isOpen cX10_isOpen 2 (some .boolean) 1 := cv_of q_938 q_652 q_653 q_105 q_654 (by decide +kernel)
theorem dX11_dogs_5 : decode cX11_dogs 5 = .ok (.invokevirtual 243, 3) := by decide +kernel
theorem dX11_dogs_8 : decode cX11_dogs 8 = .ok (.ifCond .eq 14, 3) := by decide +kernel
theorem dX11_dogs_22 : decode cX11_dogs 22 = .ok (.iconst (-1), 1) := by decide +kernel
theorem dX11_dogs_23 : decode cX11_dogs 23 = .ok (.ireturn, 1) := by decide +kernel
set_option maxHeartbeats 4000000 in
set_option maxRecDepth 100000 in
theorem c_dogs (l : Launch) (J : va_J9) (a : Nat → Nat) (x : Int32) : RC l J yX11_dogs cX11_dogs 2 (some .int) ({ frames := 2, cells := 0, slots := 0, locals := 42 }) [.ref (a 0), .int x] [((a 0), .inr (11, [.ref (a 1), .ref (a 6), .ref (a 10), .ref (a 15), .ref (a 17), .ref (a 22), .ref (a 23), .ref (a 30), .ref (a 31), .ref (a 34), .int 0, .ref (a 37), .ref (a 40)])), ((a 6), .inr (10, [.ref (a 1), .ref (a 7), .ref (a 8), .ref (a 9), .int 0, .int 0, .int 0, .int 0, .int 1, .int 0, .int 0]))] (vp_Si (fun r => r = (-1))) := by
  refine rc_of (by decide) (Nat.le_of_ble_eq_true rfl) ?_
  intro p e s m below meth c ls hE hl hP hK
  obtain ⟨hx, hb, hr, hml, hown, hts, hlk, hin⟩ := hE
  have hown : s.vm.findClass RX11 = some m.cls := hown
  have hl : lv_has ls 2 [(0, .ref (a 0)), (1, .int x)] := hl
  have rg_x := i_rng x
  refine lv_aload_n hx hb dX11_dogs_0 rfl (lv_at hl 0 rfl) ?_
  refine va_get (D := J.1) (ci := 11) (v := .ref (a 6)) (C := RX11) (T := TX11) (N := 13) hx hb hts inX11 hown hK.1 hP 0 rfl rfl 1 (by decide) (hts _ q_461) (fun _ h9 => h9) rfl dX11_dogs_1 ?_
  refine lv_iload_n hx hb dX11_dogs_4 rfl (lv_at hl 1 rfl) ?_
  refine go_i (rn_V (As := [.int x]) (rest := []) hx hb hml hown hts hK (cW_isOpen l J (a 6) (a 1) (a 7) (a 8) (a 9) x) kV_RX11_243 (hP.sub (ws' := [((a 6), .inr (10, [.ref (a 1), .ref (a 7), .ref (a 8), .ref (a 9), .int 0, .int 0, .int 0, .int 0, .int 1, .int 0, .int 0]))]) [1] rfl) rfl rfl rfl ⟨Nat.le_of_ble_eq_true rfl, Nat.le_of_ble_eq_true rfl⟩ rfl rfl rfl hl.1 rfl (Nat.le_of_ble_eq_true rfl) ⟨Nat.le_of_ble_eq_true rfl, Nat.le_of_ble_eq_true rfl⟩ dX11_dogs_5) ?_
  refine lv_if_eq (tgt := 22) hx hb dX11_dogs_8 (by decide) (fun _ => ?_) (fun c => absurd c (by decide))
  refine lv_iconst (v := (-1)) hx hb dX11_dogs_22 (by decide) ?_
  exact rz_i hx hb hr hlk (by decide) dX11_dogs_23
theorem dX11_kept_0 : decode cX11_kept 0 = .ok (.aload_n 0, 1) := by decide +kernel
theorem dX11_kept_1 : decode cX11_kept 1 = .ok (.getfield 21, 3) := by decide +kernel
theorem dX11_kept_4 : decode cX11_kept 4 = .ok (.iload_n 1, 1) := by decide +kernel
theorem dX11_kept_5 : decode cX11_kept 5 = .ok (.invokevirtual 228, 3) := by decide +kernel
theorem dX11_kept_8 : decode cX11_kept 8 = .ok (.ifCond .eq 14, 3) := by decide +kernel
theorem dX11_kept_22 : decode cX11_kept 22 = .ok (.iconst (-1), 1) := by decide +kernel
theorem dX11_kept_23 : decode cX11_kept 23 = .ok (.ireturn, 1) := by decide +kernel
theorem dX11_kept_11 : decode cX11_kept 11 = .ok (.aload_n 0, 1) := by decide +kernel
theorem dX11_kept_12 : decode cX11_kept 12 = .ok (.getfield 51, 3) := by decide +kernel
theorem dX11_kept_15 : decode cX11_kept 15 = .ok (.iload_n 1, 1) := by decide +kernel
theorem q_948 : Cond.methodLink RX11 249 yX5_everWithout ∈ lw_g := mem_q 948 (by decide +kernel) rfl
theorem q_949 : Cond.instanceMethod yX5_everWithout ∈ lw_g := mem_q 949 (by decide +kernel) rfl
theorem q_950 : Cond.selects RX5 yX5_everWithout yX5_everWithout ∈ lw_g := mem_q 950 (by decide +kernel) rfl
theorem q_951 : Cond.code yX5_everWithout cX5_everWithout 4 (some .int) ∈ lw_g := mem_q 951 (by decide +kernel) rfl
theorem kV_RX11_249 : CV RX11 249 RX5 yX5_everWithout cX5_everWithout 4 (some .int) 1 := cv_of q_948 q_949 q_950 q_109 q_951 (by decide +kernel)
theorem dX11_kept_16 : decode cX11_kept 16 = .ok (.invokevirtual 249, 3) := by decide +kernel
theorem dX11_kept_19 : decode cX11_kept 19 = .ok (.goto 4, 3) := by decide +kernel
set_option maxHeartbeats 4000000 in
set_option maxRecDepth 100000 in
theorem c_kept (l : Launch) (J : va_J9) (a : Nat → Nat) (x : Int32) : RC l J yX11_kept cX11_kept 2 (some .int) ({ frames := 2, cells := 0, slots := 0, locals := 47 }) [.ref (a 0), .int x] [((a 0), .inr (11, [.ref (a 1), .ref (a 6), .ref (a 10), .ref (a 15), .ref (a 17), .ref (a 22), .ref (a 23), .ref (a 30), .ref (a 31), .ref (a 34), .int 0, .ref (a 37), .ref (a 40)])), ((a 22), .inr (5, [.ref (a 6)])), ((a 6), .inr (10, [.ref (a 1), .ref (a 7), .ref (a 8), .ref (a 9), .int 0, .int 0, .int 0, .int 0, .int 1, .int 0, .int 0]))] (vp_Si (fun r => r = sp_kept (x.toInt))) := by
  refine rc_of (by decide) (Nat.le_of_ble_eq_true rfl) ?_
  intro p e s m below meth c ls hE hl hP hK
  obtain ⟨hx, hb, hr, hml, hown, hts, hlk, hin⟩ := hE
  have hown : s.vm.findClass RX11 = some m.cls := hown
  have hl : lv_has ls 2 [(0, .ref (a 0)), (1, .int x)] := hl
  have rg_x := i_rng x
  refine lv_aload_n hx hb dX11_kept_0 rfl (lv_at hl 0 rfl) ?_
  refine va_get (D := J.1) (ci := 11) (v := .ref (a 6)) (C := RX11) (T := TX11) (N := 13) hx hb hts inX11 hown hK.1 hP 0 rfl rfl 1 (by decide) (hts _ q_461) (fun _ h9 => h9) rfl dX11_kept_1 ?_
  refine lv_iload_n hx hb dX11_kept_4 rfl (lv_at hl 1 rfl) ?_
  refine go_i (rn_V (As := [.int x]) (rest := []) hx hb hml hown hts hK (cW_areHoles l J (a 6) (a 1) (a 7) (a 8) (a 9) x) kV_RX11_228 (hP.sub (ws' := [((a 6), .inr (10, [.ref (a 1), .ref (a 7), .ref (a 8), .ref (a 9), .int 0, .int 0, .int 0, .int 0, .int 1, .int 0, .int 0]))]) [2] rfl) rfl rfl rfl ⟨Nat.le_of_ble_eq_true rfl, Nat.le_of_ble_eq_true rfl⟩ rfl rfl rfl hl.1 rfl (Nat.le_of_ble_eq_true rfl) ⟨Nat.le_of_ble_eq_true rfl, Nat.le_of_ble_eq_true rfl⟩ dX11_kept_5) ?_
  refine lv_if_eq (tgt := 22) hx hb dX11_kept_8 (by decide) (fun c1 => ?_) (fun c1 => ?_)
  · have j2 := b0 c1
    refine lv_iconst (v := (-1)) hx hb dX11_kept_22 (by decide) ?_
    exact rz_i hx hb hr hlk (by unfold sp_kept; (repeat' split) <;> first | rfl | (exfalso; omega)) dX11_kept_23
  · have j3 := b1 c1
    refine lv_aload_n hx hb dX11_kept_11 rfl (lv_at hl 0 rfl) ?_
    refine va_get (D := J.1) (ci := 11) (v := .ref (a 22)) (C := RX11) (T := TX11) (N := 13) hx hb hts inX11 hown hK.1 hP 0 rfl rfl 5 (by decide) (hts _ q_465) (fun _ h9 => h9) rfl dX11_kept_12 ?_
    refine lv_iload_n hx hb dX11_kept_15 rfl (lv_at hl 1 rfl) ?_
    refine go_i (rn_V (As := [.int x]) (rest := []) hx hb hml hown hts hK (cG_ever l J (a 22) (a 6) (a 1) (a 7) (a 8) (a 9) x) kV_RX11_249 (hP.sub (ws' := [((a 22), .inr (5, [.ref (a 6)])), ((a 6), .inr (10, [.ref (a 1), .ref (a 7), .ref (a 8), .ref (a 9), .int 0, .int 0, .int 0, .int 0, .int 1, .int 0, .int 0]))]) [1, 2] rfl) rfl rfl rfl ⟨Nat.le_of_ble_eq_true rfl, Nat.le_of_ble_eq_true rfl⟩ rfl rfl rfl hl.1 rfl (Nat.le_of_ble_eq_true rfl) ⟨Nat.le_of_ble_eq_true rfl, Nat.le_of_ble_eq_true rfl⟩ dX11_kept_16) ?_
    refine lv_goto (tgt := 23) hx hb dX11_kept_19 (by decide) ?_
    exact rz_i hx hb hr hlk (by unfold sp_kept; (repeat' split) <;> first | rfl | (exfalso; omega)) dX11_kept_23
end
section
theorem dX11_likely_0 : decode cX11_likely 0 = .ok (.iload_n 2, 1) := by decide +kernel
theorem dX11_likely_1 : decode cX11_likely 1 = .ok (.ifCond .lt 30, 3) := by decide +kernel
theorem q_960 : Cond.constantLong RX11 257 (-9223372036854775808) ∈ lw_g := mem_q 960 (by decide +kernel) rfl
theorem dX11_likely_31 : decode cX11_likely 31 = .ok (.ldc2_w 257, 3) := by decide +kernel
theorem dX11_likely_34 : decode cX11_likely 34 = .ok (.lreturn, 1) := by decide +kernel
theorem dX11_likely_4 : decode cX11_likely 4 = .ok (.aload_n 0, 1) := by decide +kernel
theorem dX11_likely_5 : decode cX11_likely 5 = .ok (.getfield 21, 3) := by decide +kernel
theorem dX11_likely_8 : decode cX11_likely 8 = .ok (.iload_n 2, 1) := by decide +kernel
theorem dX11_likely_9 : decode cX11_likely 9 = .ok (.bipush 100, 2) := by decide +kernel
theorem dX11_likely_11 : decode cX11_likely 11 = .ok (.idiv, 1) := by decide +kernel
theorem dX11_likely_12 : decode cX11_likely 12 = .ok (.invokevirtual 143, 3) := by decide +kernel
theorem dX11_likely_15 : decode cX11_likely 15 = .ok (.ifCond .eq 16, 3) := by decide +kernel
set_option maxHeartbeats 4000000 in
set_option maxRecDepth 100000 in
theorem c_likely (l : Launch) (J : va_J9) (a : Nat → Nat) (x : Int32) (y : Int32) (k : Int32) : RC l J yX11_likely cX11_likely 4 (some .long) ({ frames := 1, cells := 0, slots := 0, locals := 21 }) [.ref (a 0), .int x, .int y, .int k] [((a 0), .inr (11, [.ref (a 1), .ref (a 6), .ref (a 10), .ref (a 15), .ref (a 17), .ref (a 22), .ref (a 23), .ref (a 30), .ref (a 31), .ref (a 34), .int 0, .ref (a 37), .ref (a 40)])), ((a 6), .inr (10, [.ref (a 1), .ref (a 7), .ref (a 8), .ref (a 9), .int 0, .int 0, .int 0, .int 0, .int 1, .int 0, .int 0]))] (vp_Sl (fun r => r = (-9223372036854775808))) := by
  refine rc_of (by decide) (Nat.le_of_ble_eq_true rfl) ?_
  intro p e s m below meth c ls hE hl hP hK
  obtain ⟨hx, hb, hr, hml, hown, hts, hlk, hin⟩ := hE
  have hown : s.vm.findClass RX11 = some m.cls := hown
  have hl : lv_has ls 4 [(0, .ref (a 0)), (1, .int x), (2, .int y), (3, .int k)] := hl
  have rg_x := i_rng x
  have rg_y := i_rng y
  have rg_k := i_rng k
  refine lv_iload_n hx hb dX11_likely_0 rfl (lv_at hl 2 rfl) ?_
  refine lv_if_lt (tgt := 31) hx hb dX11_likely_1 (by decide) (fun c1 => ?_) (fun c1 => ?_)
  · have j2 : y.toInt < 0 := (i_lt rfl (by decide)).mp c1
    refine lv_ldc2 (v := (-9223372036854775808)) hx hb hown (hts _ q_960) dX11_likely_31 ?_
    exact rz_l hx hb hr hlk (by decide) dX11_likely_34
  · have j3 : ¬ (y.toInt < 0) := fun h => c1 ((i_lt rfl (by decide)).mpr h)
    refine lv_aload_n hx hb dX11_likely_4 rfl (lv_at hl 0 rfl) ?_
    refine va_get (D := J.1) (ci := 11) (v := .ref (a 6)) (C := RX11) (T := TX11) (N := 13) hx hb hts inX11 hown hK.1 hP 0 rfl rfl 1 (by decide) (hts _ q_461) (fun _ h9 => h9) rfl dX11_likely_5 ?_
    refine lv_iload_n hx hb dX11_likely_8 rfl (lv_at hl 2 rfl) ?_
    refine lv_bipush (v := 100) hx hb dX11_likely_9 (by decide) ?_
    refine lv_idiv hx hb dX11_likely_11 (by decide) ?_
    have p4 : (y / 100).toInt = y.toInt / 100 := i_div rfl (by decide) (by omega) (by omega)
    refine go_i (rn_V (As := [.int (y / 100)]) (rest := []) hx hb hml hown hts hK (cW_isHole l J (a 6) (a 1) (a 7) (a 8) (a 9) (y / 100)) kV_RX11_143 (hP.sub (ws' := [((a 6), .inr (10, [.ref (a 1), .ref (a 7), .ref (a 8), .ref (a 9), .int 0, .int 0, .int 0, .int 0, .int 1, .int 0, .int 0]))]) [1] rfl) rfl rfl rfl ⟨Nat.le_of_ble_eq_true rfl, Nat.le_of_ble_eq_true rfl⟩ rfl rfl rfl hl.1 rfl (Nat.le_of_ble_eq_true rfl) ⟨Nat.le_of_ble_eq_true rfl, Nat.le_of_ble_eq_true rfl⟩ dX11_likely_12) ?_
    refine lv_if_eq (tgt := 31) hx hb dX11_likely_15 (by decide) (fun _ => ?_) (fun c => absurd c (by decide))
    refine lv_ldc2 (v := (-9223372036854775808)) hx hb hown (hts _ q_960) dX11_likely_31 ?_
    exact rz_l hx hb hr hlk (by decide) dX11_likely_34
theorem dX11_mayFollow_0 : decode cX11_mayFollow 0 = .ok (.aload_n 0, 1) := by decide +kernel
theorem dX11_mayFollow_1 : decode cX11_mayFollow 1 = .ok (.iload_n 1, 1) := by decide +kernel
theorem dX11_mayFollow_2 : decode cX11_mayFollow 2 = .ok (.invokevirtual 106, 3) := by decide +kernel
theorem dX11_mayFollow_5 : decode cX11_mayFollow 5 = .ok (.astore 4, 2) := by decide +kernel
theorem dX11_mayFollow_7 : decode cX11_mayFollow 7 = .ok (.aload 4, 2) := by decide +kernel
theorem dX11_mayFollow_9 : decode cX11_mayFollow 9 = .ok (.ifnull 21, 3) := by decide +kernel
theorem dX11_mayFollow_12 : decode cX11_mayFollow 12 = .ok (.aload 4, 2) := by decide +kernel
theorem dX11_mayFollow_14 : decode cX11_mayFollow 14 = .ok (.iconst 0, 1) := by decide +kernel
theorem q_567 : Cond.methodLink RX11 114 yX9_isRowOf ∈ lw_g := mem_q 567 (by decide +kernel) rfl
theorem q_568 : Cond.instanceMethod yX9_isRowOf ∈ lw_g := mem_q 568 (by decide +kernel) rfl
theorem q_569 : Cond.selects RX9 yX9_isRowOf yX9_isRowOf ∈ lw_g := mem_q 569 (by decide +kernel) rfl
theorem q_570 : Cond.code yX9_isRowOf cX9_isRowOf 2 (some .boolean) ∈ lw_g := mem_q 570 (by decide +kernel) rfl
theorem kV_RX11_114 : CV RX11 114 RX9 yX9_isRowOf cX9_isRowOf 2 (some .boolean) 1 := cv_of q_567 q_568 q_569 q_114 q_570 (by decide +kernel)
theorem dX11_mayFollow_15 : decode cX11_mayFollow 15 = .ok (.invokevirtual 114, 3) := by decide +kernel
theorem dX11_mayFollow_18 : decode cX11_mayFollow 18 = .ok (.ifCond .eq 12, 3) := by decide +kernel
theorem dX11_mayFollow_30 : decode cX11_mayFollow 30 = .ok (.iconst 0, 1) := by decide +kernel
theorem dX11_mayFollow_31 : decode cX11_mayFollow 31 = .ok (.ireturn, 1) := by decide +kernel
set_option maxHeartbeats 4000000 in
set_option maxRecDepth 100000 in
theorem cF_followIn (l : Launch) (J : va_J9) (a : Nat → Nat) (f : Nat → Option Nat) (sh : Nat) (ce : Nat) (d : Int32) (x : Int32) (k : Int32) (hd : 0 ≤ d.toInt ∧ d.toInt ≤ 5) (hf : f d.toNatClampNeg = some sh) : RC l J yX11_mayFollow cX11_mayFollow 5 (some .boolean) ({ frames := 1, cells := 0, slots := 0, locals := 21 }) [.ref (a 0), .int d, .int x, .int k] [((a 0), .inr (11, [.ref (a 1), .ref (a 6), .ref (a 10), .ref (a 15), .ref (a 17), .ref (a 22), .ref (a 23), .ref (a 30), .ref (a 31), .ref (a 34), .int 0, .ref (a 37), .ref (a 40)])), ((a 40), .inl (J.2.2.2, 6, .inr (.inr (.inr (.inr f))))), (sh, .inr (9, [.ref ce, .int 0, .int 0, .int 0, .int 0]))] (vp_Si (fun r => r = 0)) := by
  refine rc_of (by decide) (Nat.le_of_ble_eq_true rfl) ?_
  intro p e s m below meth c ls hE hl hP hK
  obtain ⟨hx, hb, hr, hml, hown, hts, hlk, hin⟩ := hE
  have hown : s.vm.findClass RX11 = some m.cls := hown
  have hl : lv_has ls 5 [(0, .ref (a 0)), (1, .int d), (2, .int x), (3, .int k)] := hl
  have rg_d := i_rng d
  have rg_x := i_rng x
  have rg_k := i_rng k
  refine lv_aload_n hx hb dX11_mayFollow_0 rfl (lv_at hl 0 rfl) ?_
  refine lv_iload_n hx hb dX11_mayFollow_1 rfl (lv_at hl 1 rfl) ?_
  refine go_a (rn_V (As := [.int d]) (rest := []) hx hb hml hown hts hK (cF_shelfIn l J a f sh d ⟨by omega, by omega⟩ hf) kV_RX11_106 (hP.sub (ws' := [((a 0), .inr (11, [.ref (a 1), .ref (a 6), .ref (a 10), .ref (a 15), .ref (a 17), .ref (a 22), .ref (a 23), .ref (a 30), .ref (a 31), .ref (a 34), .int 0, .ref (a 37), .ref (a 40)])), ((a 40), .inl (J.2.2.2, 6, .inr (.inr (.inr (.inr f)))))]) [0, 1] rfl) rfl rfl rfl ⟨Nat.le_of_ble_eq_true rfl, Nat.le_of_ble_eq_true rfl⟩ rfl rfl rfl hl.1 rfl (Nat.le_of_ble_eq_true rfl) ⟨Nat.le_of_ble_eq_true rfl, Nat.le_of_ble_eq_true rfl⟩ dX11_mayFollow_2) ?_
  refine top_q (y := sh) rfl ?_
  refine lv_astore (lv' := [(4, .ref sh), (0, .ref (a 0)), (1, .int d), (2, .int x), (3, .int k)]) hx hb dX11_mayFollow_5 hl (by decide) rfl (fun ls hl => ?_)
  refine lv_aload hx hb dX11_mayFollow_7 (lv_at hl 0 rfl) ?_
  refine lv_ifnull hx hb dX11_mayFollow_9 ?_
  refine lv_aload hx hb dX11_mayFollow_12 (lv_at hl 0 rfl) ?_
  refine lv_iconst (v := 0) hx hb dX11_mayFollow_14 (by decide) ?_
  refine go_i (rn_V (As := [.int 0]) (rest := []) hx hb hml hown hts hK (cS_isRowOf l J sh ce 0) kV_RX11_114 (hP.sub (ws' := [(sh, .inr (9, [.ref ce, .int 0, .int 0, .int 0, .int 0]))]) [2] rfl) rfl rfl rfl ⟨Nat.le_of_ble_eq_true rfl, Nat.le_of_ble_eq_true rfl⟩ rfl rfl rfl hl.1 rfl (Nat.le_of_ble_eq_true rfl) ⟨Nat.le_of_ble_eq_true rfl, Nat.le_of_ble_eq_true rfl⟩ dX11_mayFollow_15) ?_
  refine lv_if_eq (tgt := 30) hx hb dX11_mayFollow_18 (by decide) (fun _ => ?_) (fun c => absurd c (by decide))
  refine lv_iconst (v := 0) hx hb dX11_mayFollow_30 (by decide) ?_
  exact rz_z hx hb hr hlk (by decide) (by decide) dX11_mayFollow_31
set_option maxHeartbeats 4000000 in
set_option maxRecDepth 100000 in
theorem cF_followOut (l : Launch) (J : va_J9) (a : Nat → Nat) (d : Int32) (x : Int32) (k : Int32) (hd : ¬ (0 ≤ d.toInt ∧ d.toInt ≤ 5)) : RC l J yX11_mayFollow cX11_mayFollow 5 (some .boolean) ({ frames := 1, cells := 0, slots := 0, locals := 21 }) [.ref (a 0), .int d, .int x, .int k] [((a 0), .inr (11, [.ref (a 1), .ref (a 6), .ref (a 10), .ref (a 15), .ref (a 17), .ref (a 22), .ref (a 23), .ref (a 30), .ref (a 31), .ref (a 34), .int 0, .ref (a 37), .ref (a 40)]))] (vp_Si (fun r => r = 0)) := by
  refine rc_of (by decide) (Nat.le_of_ble_eq_true rfl) ?_
  intro p e s m below meth c ls hE hl hP hK
  obtain ⟨hx, hb, hr, hml, hown, hts, hlk, hin⟩ := hE
  have hown : s.vm.findClass RX11 = some m.cls := hown
  have hl : lv_has ls 5 [(0, .ref (a 0)), (1, .int d), (2, .int x), (3, .int k)] := hl
  have rg_d := i_rng d
  have rg_x := i_rng x
  have rg_k := i_rng k
  refine lv_aload_n hx hb dX11_mayFollow_0 rfl (lv_at hl 0 rfl) ?_
  refine lv_iload_n hx hb dX11_mayFollow_1 rfl (lv_at hl 1 rfl) ?_
  refine go_a (rn_V (As := [.int d]) (rest := []) hx hb hml hown hts hK (cF_shelfOut l J a d (by omega)) kV_RX11_106 hP rfl rfl rfl ⟨Nat.le_of_ble_eq_true rfl, Nat.le_of_ble_eq_true rfl⟩ rfl rfl rfl hl.1 rfl (Nat.le_of_ble_eq_true rfl) ⟨Nat.le_of_ble_eq_true rfl, Nat.le_of_ble_eq_true rfl⟩ dX11_mayFollow_2) ?_
  refine top_n rfl ?_
  refine lv_astoreN (lv' := [(4, .null), (0, .ref (a 0)), (1, .int d), (2, .int x), (3, .int k)]) hx hb dX11_mayFollow_5 hl (by decide) rfl (fun ls hl => ?_)
  refine lv_aloadN hx hb dX11_mayFollow_7 (lv_at hl 0 rfl) ?_
  refine lv_ifnullN (tgt := 30) hx hb dX11_mayFollow_9 (by decide) ?_
  refine lv_iconst (v := 0) hx hb dX11_mayFollow_30 (by decide) ?_
  exact rz_z hx hb hr hlk (by decide) (by decide) dX11_mayFollow_31
theorem dX11_luck_0 : decode cX11_luck 0 = .ok (.aload_n 0, 1) := by decide +kernel
theorem dX11_luck_1 : decode cX11_luck 1 = .ok (.iload_n 1, 1) := by decide +kernel
theorem dX11_luck_2 : decode cX11_luck 2 = .ok (.iload_n 2, 1) := by decide +kernel
theorem dX11_luck_3 : decode cX11_luck 3 = .ok (.iload_n 3, 1) := by decide +kernel
theorem q_956 : Cond.methodLink RX11 252 yX11_mayFollow ∈ lw_g := mem_q 956 (by decide +kernel) rfl
theorem q_958 : Cond.instanceMethod yX11_mayFollow ∈ lw_g := mem_q 958 (by decide +kernel) rfl
theorem q_32 : Cond.selects RX11 yX11_mayFollow yX11_mayFollow ∈ lw_g := mem_q 32 (by decide +kernel) rfl
theorem q_959 : Cond.code yX11_mayFollow cX11_mayFollow 5 (some .boolean) ∈ lw_g := mem_q 959 (by decide +kernel) rfl
theorem kV_RX11_252 : CV RX11 252 RX11 yX11_mayFollow cX11_mayFollow 5 (some .boolean) 3 := cv_of q_956 q_958 q_32 q_103 q_959 (by decide +kernel)
theorem dX11_luck_4 : decode cX11_luck 4 = .ok (.invokevirtual 252, 3) := by decide +kernel
theorem dX11_luck_7 : decode cX11_luck 7 = .ok (.ifCond .ne 7, 3) := by decide +kernel
theorem dX11_luck_10 : decode cX11_luck 10 = .ok (.ldc2_w 257, 3) := by decide +kernel
theorem dX11_luck_13 : decode cX11_luck 13 = .ok (.lreturn, 1) := by decide +kernel
set_option maxHeartbeats 4000000 in
set_option maxRecDepth 100000 in
theorem c_luck_in (l : Launch) (J : va_J9) (a : Nat → Nat) (f : Nat → Option Nat) (sh : Nat) (ce : Nat) (d : Int32) (x : Int32) (k : Int32) (hd : 0 ≤ d.toInt ∧ d.toInt ≤ 5) (hf : f d.toNatClampNeg = some sh) : RC l J yX11_luck cX11_luck 4 (some .long) ({ frames := 2, cells := 0, slots := 0, locals := 45 }) [.ref (a 0), .int d, .int x, .int k] [((a 0), .inr (11, [.ref (a 1), .ref (a 6), .ref (a 10), .ref (a 15), .ref (a 17), .ref (a 22), .ref (a 23), .ref (a 30), .ref (a 31), .ref (a 34), .int 0, .ref (a 37), .ref (a 40)])), ((a 40), .inl (J.2.2.2, 6, .inr (.inr (.inr (.inr f))))), (sh, .inr (9, [.ref ce, .int 0, .int 0, .int 0, .int 0]))] (vp_Sl (fun r => r = (-9223372036854775808))) := by
  refine rc_of (by decide) (Nat.le_of_ble_eq_true rfl) ?_
  intro p e s m below meth c ls hE hl hP hK
  obtain ⟨hx, hb, hr, hml, hown, hts, hlk, hin⟩ := hE
  have hown : s.vm.findClass RX11 = some m.cls := hown
  have hl : lv_has ls 4 [(0, .ref (a 0)), (1, .int d), (2, .int x), (3, .int k)] := hl
  have rg_d := i_rng d
  have rg_x := i_rng x
  have rg_k := i_rng k
  refine lv_aload_n hx hb dX11_luck_0 rfl (lv_at hl 0 rfl) ?_
  refine lv_iload_n hx hb dX11_luck_1 rfl (lv_at hl 1 rfl) ?_
  refine lv_iload_n hx hb dX11_luck_2 rfl (lv_at hl 2 rfl) ?_
  refine lv_iload_n hx hb dX11_luck_3 rfl (lv_at hl 3 rfl) ?_
  refine go_i (rn_V (As := [.int d, .int x, .int k]) (rest := []) hx hb hml hown hts hK (cF_followIn l J a f sh ce d x k ⟨by omega, by omega⟩ hf) kV_RX11_252 hP rfl rfl rfl ⟨Nat.le_of_ble_eq_true rfl, Nat.le_of_ble_eq_true rfl⟩ rfl rfl rfl hl.1 rfl (Nat.le_of_ble_eq_true rfl) ⟨Nat.le_of_ble_eq_true rfl, Nat.le_of_ble_eq_true rfl⟩ dX11_luck_4) ?_
  refine lv_if_ne (tgt := 14) hx hb dX11_luck_7 (by decide) (fun c => absurd c (by decide)) (fun _ => ?_)
  refine lv_ldc2 (v := (-9223372036854775808)) hx hb hown (hts _ q_960) dX11_luck_10 ?_
  exact rz_l hx hb hr hlk (by decide) dX11_luck_13
set_option maxHeartbeats 4000000 in
set_option maxRecDepth 100000 in
theorem c_luck_out (l : Launch) (J : va_J9) (a : Nat → Nat) (d : Int32) (x : Int32) (k : Int32) (hd : ¬ (0 ≤ d.toInt ∧ d.toInt ≤ 5)) : RC l J yX11_luck cX11_luck 4 (some .long) ({ frames := 2, cells := 0, slots := 0, locals := 45 }) [.ref (a 0), .int d, .int x, .int k] [((a 0), .inr (11, [.ref (a 1), .ref (a 6), .ref (a 10), .ref (a 15), .ref (a 17), .ref (a 22), .ref (a 23), .ref (a 30), .ref (a 31), .ref (a 34), .int 0, .ref (a 37), .ref (a 40)]))] (vp_Sl (fun r => r = (-9223372036854775808))) := by
  refine rc_of (by decide) (Nat.le_of_ble_eq_true rfl) ?_
  intro p e s m below meth c ls hE hl hP hK
  obtain ⟨hx, hb, hr, hml, hown, hts, hlk, hin⟩ := hE
  have hown : s.vm.findClass RX11 = some m.cls := hown
  have hl : lv_has ls 4 [(0, .ref (a 0)), (1, .int d), (2, .int x), (3, .int k)] := hl
  have rg_d := i_rng d
  have rg_x := i_rng x
  have rg_k := i_rng k
  refine lv_aload_n hx hb dX11_luck_0 rfl (lv_at hl 0 rfl) ?_
  refine lv_iload_n hx hb dX11_luck_1 rfl (lv_at hl 1 rfl) ?_
  refine lv_iload_n hx hb dX11_luck_2 rfl (lv_at hl 2 rfl) ?_
  refine lv_iload_n hx hb dX11_luck_3 rfl (lv_at hl 3 rfl) ?_
  refine go_i (rn_V (As := [.int d, .int x, .int k]) (rest := []) hx hb hml hown hts hK (cF_followOut l J a d x k (by omega)) kV_RX11_252 hP rfl rfl rfl ⟨Nat.le_of_ble_eq_true rfl, Nat.le_of_ble_eq_true rfl⟩ rfl rfl rfl hl.1 rfl (Nat.le_of_ble_eq_true rfl) ⟨Nat.le_of_ble_eq_true rfl, Nat.le_of_ble_eq_true rfl⟩ dX11_luck_4) ?_
  refine lv_if_ne (tgt := 14) hx hb dX11_luck_7 (by decide) (fun c => absurd c (by decide)) (fun _ => ?_)
  refine lv_ldc2 (v := (-9223372036854775808)) hx hb hown (hts _ q_960) dX11_luck_10 ?_
  exact rz_l hx hb hr hlk (by decide) dX11_luck_13
theorem dX11_mean_0 : decode cX11_mean 0 = .ok (.aload_n 0, 1) := by decide +kernel
theorem dX11_mean_1 : decode cX11_mean 1 = .ok (.iload_n 1, 1) := by decide +kernel
theorem dX11_mean_2 : decode cX11_mean 2 = .ok (.iload_n 2, 1) := by decide +kernel
theorem dX11_mean_3 : decode cX11_mean 3 = .ok (.iload_n 3, 1) := by decide +kernel
theorem dX11_mean_4 : decode cX11_mean 4 = .ok (.invokevirtual 252, 3) := by decide +kernel
theorem dX11_mean_7 : decode cX11_mean 7 = .ok (.ifCond .ne 7, 3) := by decide +kernel
theorem dX11_mean_10 : decode cX11_mean 10 = .ok (.ldc2_w 257, 3) := by decide +kernel
theorem dX11_mean_13 : decode cX11_mean 13 = .ok (.lreturn, 1) := by decide +kernel
set_option maxHeartbeats 4000000 in
set_option maxRecDepth 100000 in
theorem c_mean_in (l : Launch) (J : va_J9) (a : Nat → Nat) (f : Nat → Option Nat) (sh : Nat) (ce : Nat) (d : Int32) (x : Int32) (k : Int32) (hd : 0 ≤ d.toInt ∧ d.toInt ≤ 5) (hf : f d.toNatClampNeg = some sh) : RC l J yX11_mean cX11_mean 4 (some .long) ({ frames := 2, cells := 0, slots := 0, locals := 45 }) [.ref (a 0), .int d, .int x, .int k] [((a 0), .inr (11, [.ref (a 1), .ref (a 6), .ref (a 10), .ref (a 15), .ref (a 17), .ref (a 22), .ref (a 23), .ref (a 30), .ref (a 31), .ref (a 34), .int 0, .ref (a 37), .ref (a 40)])), ((a 40), .inl (J.2.2.2, 6, .inr (.inr (.inr (.inr f))))), (sh, .inr (9, [.ref ce, .int 0, .int 0, .int 0, .int 0]))] (vp_Sl (fun r => r = (-9223372036854775808))) := by
  refine rc_of (by decide) (Nat.le_of_ble_eq_true rfl) ?_
  intro p e s m below meth c ls hE hl hP hK
  obtain ⟨hx, hb, hr, hml, hown, hts, hlk, hin⟩ := hE
  have hown : s.vm.findClass RX11 = some m.cls := hown
  have hl : lv_has ls 4 [(0, .ref (a 0)), (1, .int d), (2, .int x), (3, .int k)] := hl
  have rg_d := i_rng d
  have rg_x := i_rng x
  have rg_k := i_rng k
  refine lv_aload_n hx hb dX11_mean_0 rfl (lv_at hl 0 rfl) ?_
  refine lv_iload_n hx hb dX11_mean_1 rfl (lv_at hl 1 rfl) ?_
  refine lv_iload_n hx hb dX11_mean_2 rfl (lv_at hl 2 rfl) ?_
  refine lv_iload_n hx hb dX11_mean_3 rfl (lv_at hl 3 rfl) ?_
  refine go_i (rn_V (As := [.int d, .int x, .int k]) (rest := []) hx hb hml hown hts hK (cF_followIn l J a f sh ce d x k ⟨by omega, by omega⟩ hf) kV_RX11_252 hP rfl rfl rfl ⟨Nat.le_of_ble_eq_true rfl, Nat.le_of_ble_eq_true rfl⟩ rfl rfl rfl hl.1 rfl (Nat.le_of_ble_eq_true rfl) ⟨Nat.le_of_ble_eq_true rfl, Nat.le_of_ble_eq_true rfl⟩ dX11_mean_4) ?_
  refine lv_if_ne (tgt := 14) hx hb dX11_mean_7 (by decide) (fun c => absurd c (by decide)) (fun _ => ?_)
  refine lv_ldc2 (v := (-9223372036854775808)) hx hb hown (hts _ q_960) dX11_mean_10 ?_
  exact rz_l hx hb hr hlk (by decide) dX11_mean_13
set_option maxHeartbeats 4000000 in
set_option maxRecDepth 100000 in
theorem c_mean_out (l : Launch) (J : va_J9) (a : Nat → Nat) (d : Int32) (x : Int32) (k : Int32) (hd : ¬ (0 ≤ d.toInt ∧ d.toInt ≤ 5)) : RC l J yX11_mean cX11_mean 4 (some .long) ({ frames := 2, cells := 0, slots := 0, locals := 45 }) [.ref (a 0), .int d, .int x, .int k] [((a 0), .inr (11, [.ref (a 1), .ref (a 6), .ref (a 10), .ref (a 15), .ref (a 17), .ref (a 22), .ref (a 23), .ref (a 30), .ref (a 31), .ref (a 34), .int 0, .ref (a 37), .ref (a 40)]))] (vp_Sl (fun r => r = (-9223372036854775808))) := by
  refine rc_of (by decide) (Nat.le_of_ble_eq_true rfl) ?_
  intro p e s m below meth c ls hE hl hP hK
  obtain ⟨hx, hb, hr, hml, hown, hts, hlk, hin⟩ := hE
  have hown : s.vm.findClass RX11 = some m.cls := hown
  have hl : lv_has ls 4 [(0, .ref (a 0)), (1, .int d), (2, .int x), (3, .int k)] := hl
  have rg_d := i_rng d
  have rg_x := i_rng x
  have rg_k := i_rng k
  refine lv_aload_n hx hb dX11_mean_0 rfl (lv_at hl 0 rfl) ?_
  refine lv_iload_n hx hb dX11_mean_1 rfl (lv_at hl 1 rfl) ?_
  refine lv_iload_n hx hb dX11_mean_2 rfl (lv_at hl 2 rfl) ?_
  refine lv_iload_n hx hb dX11_mean_3 rfl (lv_at hl 3 rfl) ?_
  refine go_i (rn_V (As := [.int d, .int x, .int k]) (rest := []) hx hb hml hown hts hK (cF_followOut l J a d x k (by omega)) kV_RX11_252 hP rfl rfl rfl ⟨Nat.le_of_ble_eq_true rfl, Nat.le_of_ble_eq_true rfl⟩ rfl rfl rfl hl.1 rfl (Nat.le_of_ble_eq_true rfl) ⟨Nat.le_of_ble_eq_true rfl, Nat.le_of_ble_eq_true rfl⟩ dX11_mean_4) ?_
  refine lv_if_ne (tgt := 14) hx hb dX11_mean_7 (by decide) (fun c => absurd c (by decide)) (fun _ => ?_)
  refine lv_ldc2 (v := (-9223372036854775808)) hx hb hown (hts _ q_960) dX11_mean_10 ?_
  exact rz_l hx hb hr hlk (by decide) dX11_mean_13
theorem dX11_luckiest_0 : decode cX11_luckiest 0 = .ok (.iload_n 1, 1) := by decide +kernel
theorem dX11_luckiest_1 : decode cX11_luckiest 1 = .ok (.iconst 1, 1) := by decide +kernel
theorem dX11_luckiest_2 : decode cX11_luckiest 2 = .ok (.if_icmp .lt 19, 3) := by decide +kernel
theorem dX11_luckiest_21 : decode cX11_luckiest 21 = .ok (.ldc2_w 257, 3) := by decide +kernel
theorem dX11_luckiest_24 : decode cX11_luckiest 24 = .ok (.lreturn, 1) := by decide +kernel
theorem dX11_luckiest_5 : decode cX11_luckiest 5 = .ok (.iload_n 1, 1) := by decide +kernel
theorem dX11_luckiest_6 : decode cX11_luckiest 6 = .ok (.iconst 4, 1) := by decide +kernel
theorem dX11_luckiest_7 : decode cX11_luckiest 7 = .ok (.if_icmp .gt 14, 3) := by decide +kernel
theorem dX11_luckiest_10 : decode cX11_luckiest 10 = .ok (.iload_n 2, 1) := by decide +kernel
theorem dX11_luckiest_11 : decode cX11_luckiest 11 = .ok (.bipush (-2), 2) := by decide +kernel
theorem dX11_luckiest_13 : decode cX11_luckiest 13 = .ok (.if_icmp .lt 8, 3) := by decide +kernel
theorem dX11_luckiest_16 : decode cX11_luckiest 16 = .ok (.iload_n 2, 1) := by decide +kernel
theorem dX11_luckiest_17 : decode cX11_luckiest 17 = .ok (.iload_n 1, 1) := by decide +kernel
theorem dX11_luckiest_18 : decode cX11_luckiest 18 = .ok (.if_icmp .lt 7, 3) := by decide +kernel
theorem dX11_luckiest_25 : decode cX11_luckiest 25 = .ok (.aload_n 0, 1) := by decide +kernel
theorem q_466 : Cond.fieldLink RX11 60 RX11 "chance" "LFoxHoles$Chance;" ∈ lw_g := mem_q 466 (by decide +kernel) rfl
theorem dX11_luckiest_26 : decode cX11_luckiest 26 = .ok (.getfield 60, 3) := by decide +kernel
theorem dX11_luckiest_29 : decode cX11_luckiest 29 = .ok (.iload_n 1, 1) := by decide +kernel
theorem dX11_luckiest_30 : decode cX11_luckiest 30 = .ok (.iload_n 2, 1) := by decide +kernel
theorem q_1020 : Cond.methodLink RX11 274 yX1_ofBestRow ∈ lw_g := mem_q 1020 (by decide +kernel) rfl
theorem q_1021 : Cond.instanceMethod yX1_ofBestRow ∈ lw_g := mem_q 1021 (by decide +kernel) rfl
theorem q_1022 : Cond.selects RX1 yX1_ofBestRow yX1_ofBestRow ∈ lw_g := mem_q 1022 (by decide +kernel) rfl
theorem q_110 : Cond.initialized RX1 ∈ lw_g := mem_q 110 (by decide +kernel) rfl
theorem q_1023 : Cond.code yX1_ofBestRow cX1_ofBestRow 6 (some .long) ∈ lw_g := mem_q 1023 (by decide +kernel) rfl
theorem kV_RX11_274 : CV RX11 274 RX1 yX1_ofBestRow cX1_ofBestRow 6 (some .long) 2 := cv_of q_1020 q_1021 q_1022 q_110 q_1023 (by decide +kernel)
theorem dX11_luckiest_31 : decode cX11_luckiest 31 = .ok (.invokevirtual 274, 3) := by decide +kernel
theorem dX11_luckiest_34 : decode cX11_luckiest 34 = .ok (.lreturn, 1) := by decide +kernel
set_option maxHeartbeats 4000000 in
set_option maxRecDepth 100000 in
theorem c_luckiest (l : Launch) (J : va_J9) (a : Nat → Nat) (x : Int32) (k : Int32) : RC l J yX11_luckiest cX11_luckiest 3 (some .long) ({ frames := 3, cells := 0, slots := 0, locals := 68 }) [.ref (a 0), .int x, .int k] [((a 0), .inr (11, [.ref (a 1), .ref (a 6), .ref (a 10), .ref (a 15), .ref (a 17), .ref (a 22), .ref (a 23), .ref (a 30), .ref (a 31), .ref (a 34), .int 0, .ref (a 37), .ref (a 40)])), ((a 23), .inr (1, [.ref (a 6), .ref (a 15), .ref (a 24), .ref (a 25), .ref (a 26), .ref (a 27), .long 0, .long 0, .long 0, .ref (a 28), .ref (a 29), .long 0, .int 0, .int (-1)])), ((a 6), .inr (10, [.ref (a 1), .ref (a 7), .ref (a 8), .ref (a 9), .int 0, .int 0, .int 0, .int 0, .int 1, .int 0, .int 0]))] (vp_Sl (fun r => r = sp_luckiest (x.toInt) (k.toInt))) := by
  refine rc_of (by decide) (Nat.le_of_ble_eq_true rfl) ?_
  intro p e s m below meth c ls hE hl hP hK
  obtain ⟨hx, hb, hr, hml, hown, hts, hlk, hin⟩ := hE
  have hown : s.vm.findClass RX11 = some m.cls := hown
  have hl : lv_has ls 3 [(0, .ref (a 0)), (1, .int x), (2, .int k)] := hl
  have rg_x := i_rng x
  have rg_k := i_rng k
  refine lv_iload_n hx hb dX11_luckiest_0 rfl (lv_at hl 1 rfl) ?_
  refine lv_iconst (v := 1) hx hb dX11_luckiest_1 (by decide) ?_
  refine lv_icmp_lt (tgt := 21) hx hb dX11_luckiest_2 (by decide) (fun c1 => ?_) (fun c1 => ?_)
  · have j2 : x.toInt < 1 := (i_lt rfl (by decide)).mp c1
    refine lv_ldc2 (v := (-9223372036854775808)) hx hb hown (hts _ q_960) dX11_luckiest_21 ?_
    exact rz_l hx hb hr hlk (by unfold sp_luckiest; (repeat' split) <;> first | rfl | (exfalso; omega)) dX11_luckiest_24
  · have j3 : ¬ (x.toInt < 1) := fun h => c1 ((i_lt rfl (by decide)).mpr h)
    refine lv_iload_n hx hb dX11_luckiest_5 rfl (lv_at hl 1 rfl) ?_
    refine lv_iconst (v := 4) hx hb dX11_luckiest_6 (by decide) ?_
    refine lv_icmp_gt (tgt := 21) hx hb dX11_luckiest_7 (by decide) (fun c4 => ?_) (fun c4 => ?_)
    · have j5 : 4 < x.toInt := (i_lt (by decide) rfl).mp c4
      refine lv_ldc2 (v := (-9223372036854775808)) hx hb hown (hts _ q_960) dX11_luckiest_21 ?_
      exact rz_l hx hb hr hlk (by unfold sp_luckiest; (repeat' split) <;> first | rfl | (exfalso; omega)) dX11_luckiest_24
    · have j6 : ¬ (4 < x.toInt) := fun h => c4 ((i_lt (by decide) rfl).mpr h)
      refine lv_iload_n hx hb dX11_luckiest_10 rfl (lv_at hl 2 rfl) ?_
      refine lv_bipush (v := (-2)) hx hb dX11_luckiest_11 (by decide) ?_
      refine lv_icmp_lt (tgt := 21) hx hb dX11_luckiest_13 (by decide) (fun c7 => ?_) (fun c7 => ?_)
      · have j8 : k.toInt < (-2) := (i_lt rfl (by decide)).mp c7
        refine lv_ldc2 (v := (-9223372036854775808)) hx hb hown (hts _ q_960) dX11_luckiest_21 ?_
        exact rz_l hx hb hr hlk (by unfold sp_luckiest; (repeat' split) <;> first | rfl | (exfalso; omega)) dX11_luckiest_24
      · have j9 : ¬ (k.toInt < (-2)) := fun h => c7 ((i_lt rfl (by decide)).mpr h)
        refine lv_iload_n hx hb dX11_luckiest_16 rfl (lv_at hl 2 rfl) ?_
        refine lv_iload_n hx hb dX11_luckiest_17 rfl (lv_at hl 1 rfl) ?_
        refine lv_icmp_lt (tgt := 25) hx hb dX11_luckiest_18 (by decide) (fun c10 => ?_) (fun c10 => ?_)
        · have j11 : k.toInt < x.toInt := (i_lt rfl rfl).mp c10
          refine lv_aload_n hx hb dX11_luckiest_25 rfl (lv_at hl 0 rfl) ?_
          refine va_get (D := J.1) (ci := 11) (v := .ref (a 23)) (C := RX11) (T := TX11) (N := 13) hx hb hts inX11 hown hK.1 hP 0 rfl rfl 6 (by decide) (hts _ q_466) (fun _ h9 => h9) rfl dX11_luckiest_26 ?_
          refine lv_iload_n hx hb dX11_luckiest_29 rfl (lv_at hl 1 rfl) ?_
          refine lv_iload_n hx hb dX11_luckiest_30 rfl (lv_at hl 2 rfl) ?_
          refine go_l (rn_V (As := [.int x, .int k]) (rest := []) hx hb hml hown hts hK (cN_best l J (a 23) (a 15) (a 24) (a 25) (a 26) (a 27) (a 28) (a 29) (a 6) (a 1) (a 7) (a 8) (a 9) x k) kV_RX11_274 (hP.sub (ws' := [((a 23), .inr (1, [.ref (a 6), .ref (a 15), .ref (a 24), .ref (a 25), .ref (a 26), .ref (a 27), .long 0, .long 0, .long 0, .ref (a 28), .ref (a 29), .long 0, .int 0, .int (-1)])), ((a 6), .inr (10, [.ref (a 1), .ref (a 7), .ref (a 8), .ref (a 9), .int 0, .int 0, .int 0, .int 0, .int 1, .int 0, .int 0]))]) [1, 2] rfl) rfl rfl rfl ⟨Nat.le_of_ble_eq_true rfl, Nat.le_of_ble_eq_true rfl⟩ rfl rfl rfl hl.1 rfl (Nat.le_of_ble_eq_true rfl) ⟨Nat.le_of_ble_eq_true rfl, Nat.le_of_ble_eq_true rfl⟩ dX11_luckiest_31) ?_
          exact rz_l hx hb hr hlk (by unfold sp_luckiest; (repeat' split) <;> first | rfl | (exfalso; omega)) dX11_luckiest_34
        · have j12 : ¬ (k.toInt < x.toInt) := fun h => c10 ((i_lt rfl rfl).mpr h)
          refine lv_ldc2 (v := (-9223372036854775808)) hx hb hown (hts _ q_960) dX11_luckiest_21 ?_
          exact rz_l hx hb hr hlk (by unfold sp_luckiest; (repeat' split) <;> first | rfl | (exfalso; omega)) dX11_luckiest_24
theorem dX11_isDrawing_0 : decode cX11_isDrawing 0 = .ok (.iload_n 1, 1) := by decide +kernel
theorem dX11_isDrawing_1 : decode cX11_isDrawing 1 = .ok (.ifCond .ge 5, 3) := by decide +kernel
theorem dX11_isDrawing_6 : decode cX11_isDrawing 6 = .ok (.iload_n 1, 1) := by decide +kernel
theorem dX11_isDrawing_7 : decode cX11_isDrawing 7 = .ok (.bipush 100, 2) := by decide +kernel
theorem dX11_isDrawing_9 : decode cX11_isDrawing 9 = .ok (.idiv, 1) := by decide +kernel
theorem dX11_isDrawing_10 : decode cX11_isDrawing 10 = .ok (.istore_n 2, 1) := by decide +kernel
theorem dX11_isDrawing_11 : decode cX11_isDrawing 11 = .ok (.iload_n 1, 1) := by decide +kernel
theorem dX11_isDrawing_12 : decode cX11_isDrawing 12 = .ok (.bipush 100, 2) := by decide +kernel
theorem dX11_isDrawing_14 : decode cX11_isDrawing 14 = .ok (.irem, 1) := by decide +kernel
theorem dX11_isDrawing_15 : decode cX11_isDrawing 15 = .ok (.istore_n 3, 1) := by decide +kernel
theorem dX11_isDrawing_16 : decode cX11_isDrawing 16 = .ok (.iload_n 2, 1) := by decide +kernel
theorem dX11_isDrawing_17 : decode cX11_isDrawing 17 = .ok (.iconst 1, 1) := by decide +kernel
theorem dX11_isDrawing_18 : decode cX11_isDrawing 18 = .ok (.if_icmp .lt 24, 3) := by decide +kernel
theorem dX11_isDrawing_42 : decode cX11_isDrawing 42 = .ok (.iconst 0, 1) := by decide +kernel
theorem dX11_isDrawing_43 : decode cX11_isDrawing 43 = .ok (.ireturn, 1) := by decide +kernel
theorem dX11_isDrawing_21 : decode cX11_isDrawing 21 = .ok (.iload_n 2, 1) := by decide +kernel
theorem dX11_isDrawing_22 : decode cX11_isDrawing 22 = .ok (.bipush 60, 2) := by decide +kernel
theorem dX11_isDrawing_24 : decode cX11_isDrawing 24 = .ok (.if_icmp .gt 18, 3) := by decide +kernel
theorem dX11_isDrawing_27 : decode cX11_isDrawing 27 = .ok (.iload_n 3, 1) := by decide +kernel
theorem dX11_isDrawing_28 : decode cX11_isDrawing 28 = .ok (.iconst 1, 1) := by decide +kernel
theorem dX11_isDrawing_29 : decode cX11_isDrawing 29 = .ok (.if_icmp .lt 13, 3) := by decide +kernel
theorem dX11_isDrawing_32 : decode cX11_isDrawing 32 = .ok (.iload_n 3, 1) := by decide +kernel
theorem dX11_isDrawing_33 : decode cX11_isDrawing 33 = .ok (.bipush 30, 2) := by decide +kernel
theorem dX11_isDrawing_35 : decode cX11_isDrawing 35 = .ok (.if_icmp .gt 7, 3) := by decide +kernel
theorem dX11_isDrawing_38 : decode cX11_isDrawing 38 = .ok (.iconst 1, 1) := by decide +kernel
theorem dX11_isDrawing_39 : decode cX11_isDrawing 39 = .ok (.goto 4, 3) := by decide +kernel
theorem dX11_isDrawing_4 : decode cX11_isDrawing 4 = .ok (.iconst 0, 1) := by decide +kernel
theorem dX11_isDrawing_5 : decode cX11_isDrawing 5 = .ok (.ireturn, 1) := by decide +kernel
set_option maxHeartbeats 4000000 in
set_option maxRecDepth 100000 in
theorem cF_isDrawing (l : Launch) (J : va_J9) (a : Nat → Nat) (x : Int32) : RC l J yX11_isDrawing cX11_isDrawing 4 (some .boolean) ({ frames := 0, cells := 0, slots := 0, locals := 0 }) [.ref (a 0), .int x] [((a 0), .inr (11, [.ref (a 1), .ref (a 6), .ref (a 10), .ref (a 15), .ref (a 17), .ref (a 22), .ref (a 23), .ref (a 30), .ref (a 31), .ref (a 34), .int 0, .ref (a 37), .ref (a 40)]))] (vp_Si (fun r => r = B01 (0 ≤ x.toInt ∧ 1 ≤ x.toInt / 100 ∧ x.toInt / 100 ≤ 60 ∧ 1 ≤ x.toInt % 100 ∧ x.toInt % 100 ≤ 30))) := by
  refine rc_of (by decide) (Nat.le_of_ble_eq_true rfl) ?_
  intro p e s m below meth c ls hE hl hP hK
  obtain ⟨hx, hb, hr, hml, hown, hts, hlk, hin⟩ := hE
  have hown : s.vm.findClass RX11 = some m.cls := hown
  have hl : lv_has ls 4 [(0, .ref (a 0)), (1, .int x)] := hl
  have rg_x := i_rng x
  refine lv_iload_n hx hb dX11_isDrawing_0 rfl (lv_at hl 1 rfl) ?_
  refine lv_if_ge (tgt := 6) hx hb dX11_isDrawing_1 (by decide) (fun c1 => ?_) (fun c1 => ?_)
  · have j2 : 0 ≤ x.toInt := (i_le (by decide) rfl).mp c1
    refine lv_iload_n hx hb dX11_isDrawing_6 rfl (lv_at hl 1 rfl) ?_
    refine lv_bipush (v := 100) hx hb dX11_isDrawing_7 (by decide) ?_
    refine lv_idiv hx hb dX11_isDrawing_9 (by decide) ?_
    have p3 : (x / 100).toInt = x.toInt / 100 := i_div rfl (by decide) (by omega) (by omega)
    refine lv_istore_n (lv' := [(2, .int (x / 100)), (0, .ref (a 0)), (1, .int x)]) hx hb dX11_isDrawing_10 rfl hl (by decide) rfl (fun ls hl => ?_)
    refine lv_iload_n hx hb dX11_isDrawing_11 rfl (lv_at hl 2 rfl) ?_
    refine lv_bipush (v := 100) hx hb dX11_isDrawing_12 (by decide) ?_
    refine lv_irem hx hb dX11_isDrawing_14 (by decide) ?_
    have p4 : (x - x / 100 * 100).toInt = x.toInt % 100 := i_rem rfl (by decide) (by omega) (by omega)
    refine lv_istore_n (lv' := [(3, .int (x - x / 100 * 100)), (2, .int (x / 100)), (0, .ref (a 0)), (1, .int x)]) hx hb dX11_isDrawing_15 rfl hl (by decide) rfl (fun ls hl => ?_)
    refine lv_iload_n hx hb dX11_isDrawing_16 rfl (lv_at hl 1 rfl) ?_
    refine lv_iconst (v := 1) hx hb dX11_isDrawing_17 (by decide) ?_
    refine lv_icmp_lt (tgt := 42) hx hb dX11_isDrawing_18 (by decide) (fun c5 => ?_) (fun c5 => ?_)
    · have j6 : x.toInt / 100 < 1 := (i_lt p3 (by decide)).mp c5
      refine lv_iconst (v := 0) hx hb dX11_isDrawing_42 (by decide) ?_
      exact rz_z hx hb hr hlk (by decide) (b_f (by omega)) dX11_isDrawing_43
    · have j7 : ¬ (x.toInt / 100 < 1) := fun h => c5 ((i_lt p3 (by decide)).mpr h)
      refine lv_iload_n hx hb dX11_isDrawing_21 rfl (lv_at hl 1 rfl) ?_
      refine lv_bipush (v := 60) hx hb dX11_isDrawing_22 (by decide) ?_
      refine lv_icmp_gt (tgt := 42) hx hb dX11_isDrawing_24 (by decide) (fun c8 => ?_) (fun c8 => ?_)
      · have j9 : 60 < x.toInt / 100 := (i_lt (by decide) p3).mp c8
        refine lv_iconst (v := 0) hx hb dX11_isDrawing_42 (by decide) ?_
        exact rz_z hx hb hr hlk (by decide) (b_f (by omega)) dX11_isDrawing_43
      · have j10 : ¬ (60 < x.toInt / 100) := fun h => c8 ((i_lt (by decide) p3).mpr h)
        refine lv_iload_n hx hb dX11_isDrawing_27 rfl (lv_at hl 0 rfl) ?_
        refine lv_iconst (v := 1) hx hb dX11_isDrawing_28 (by decide) ?_
        refine lv_icmp_lt (tgt := 42) hx hb dX11_isDrawing_29 (by decide) (fun c11 => ?_) (fun c11 => ?_)
        · have j12 : x.toInt % 100 < 1 := (i_lt p4 (by decide)).mp c11
          refine lv_iconst (v := 0) hx hb dX11_isDrawing_42 (by decide) ?_
          exact rz_z hx hb hr hlk (by decide) (b_f (by omega)) dX11_isDrawing_43
        · have j13 : ¬ (x.toInt % 100 < 1) := fun h => c11 ((i_lt p4 (by decide)).mpr h)
          refine lv_iload_n hx hb dX11_isDrawing_32 rfl (lv_at hl 0 rfl) ?_
          refine lv_bipush (v := 30) hx hb dX11_isDrawing_33 (by decide) ?_
          refine lv_icmp_gt (tgt := 42) hx hb dX11_isDrawing_35 (by decide) (fun c14 => ?_) (fun c14 => ?_)
          · have j15 : 30 < x.toInt % 100 := (i_lt (by decide) p4).mp c14
            refine lv_iconst (v := 0) hx hb dX11_isDrawing_42 (by decide) ?_
            exact rz_z hx hb hr hlk (by decide) (b_f (by omega)) dX11_isDrawing_43
          · have j16 : ¬ (30 < x.toInt % 100) := fun h => c14 ((i_lt (by decide) p4).mpr h)
            refine lv_iconst (v := 1) hx hb dX11_isDrawing_38 (by decide) ?_
            refine lv_goto (tgt := 43) hx hb dX11_isDrawing_39 (by decide) ?_
            exact rz_z hx hb hr hlk (by decide) (b_t (by omega)) dX11_isDrawing_43
  · have j17 : ¬ (0 ≤ x.toInt) := fun h => c1 ((i_le (by decide) rfl).mpr h)
    refine lv_iconst (v := 0) hx hb dX11_isDrawing_4 (by decide) ?_
    exact rz_z hx hb hr hlk (by decide) (b_f (by omega)) dX11_isDrawing_5
theorem dX11_drawn_0 : decode cX11_drawn 0 = .ok (.aload_n 0, 1) := by decide +kernel
theorem dX11_drawn_1 : decode cX11_drawn 1 = .ok (.iload_n 1, 1) := by decide +kernel
theorem dX11_drawn_2 : decode cX11_drawn 2 = .ok (.invokevirtual 106, 3) := by decide +kernel
theorem dX11_drawn_5 : decode cX11_drawn 5 = .ok (.astore 5, 2) := by decide +kernel
theorem dX11_drawn_7 : decode cX11_drawn 7 = .ok (.aload 5, 2) := by decide +kernel
theorem dX11_drawn_9 : decode cX11_drawn 9 = .ok (.ifnull 22, 3) := by decide +kernel
theorem dX11_drawn_12 : decode cX11_drawn 12 = .ok (.aload_n 0, 1) := by decide +kernel
theorem dX11_drawn_13 : decode cX11_drawn 13 = .ok (.iload_n 3, 1) := by decide +kernel
theorem q_1045 : Cond.methodLink RX11 277 yX11_isDrawing ∈ lw_g := mem_q 1045 (by decide +kernel) rfl
theorem q_1047 : Cond.instanceMethod yX11_isDrawing ∈ lw_g := mem_q 1047 (by decide +kernel) rfl
theorem q_39 : Cond.selects RX11 yX11_isDrawing yX11_isDrawing ∈ lw_g := mem_q 39 (by decide +kernel) rfl
theorem q_1048 : Cond.code yX11_isDrawing cX11_isDrawing 4 (some .boolean) ∈ lw_g := mem_q 1048 (by decide +kernel) rfl
theorem kV_RX11_277 : CV RX11 277 RX11 yX11_isDrawing cX11_isDrawing 4 (some .boolean) 1 := cv_of q_1045 q_1047 q_39 q_103 q_1048 (by decide +kernel)
theorem dX11_drawn_14 : decode cX11_drawn 14 = .ok (.invokevirtual 277, 3) := by decide +kernel
theorem dX11_drawn_17 : decode cX11_drawn 17 = .ok (.ifCond .eq 14, 3) := by decide +kernel
theorem dX11_drawn_31 : decode cX11_drawn 31 = .ok (.iconst (-1), 1) := by decide +kernel
theorem dX11_drawn_32 : decode cX11_drawn 32 = .ok (.ireturn, 1) := by decide +kernel
theorem dX11_drawn_20 : decode cX11_drawn 20 = .ok (.iload 4, 2) := by decide +kernel
theorem dX11_drawn_22 : decode cX11_drawn 22 = .ok (.ifCond .lt 9, 3) := by decide +kernel
theorem dX11_drawn_25 : decode cX11_drawn 25 = .ok (.iload 4, 2) := by decide +kernel
theorem dX11_drawn_27 : decode cX11_drawn 27 = .ok (.iconst 1, 1) := by decide +kernel
theorem dX11_drawn_28 : decode cX11_drawn 28 = .ok (.if_icmp .le 5, 3) := by decide +kernel
theorem dX11_drawn_33 : decode cX11_drawn 33 = .ok (.aload 5, 2) := by decide +kernel
theorem dX11_drawn_35 : decode cX11_drawn 35 = .ok (.invokestatic 192, 3) := by decide +kernel
theorem dX11_drawn_38 : decode cX11_drawn 38 = .ok (.istore 6, 2) := by decide +kernel
theorem dX11_drawn_40 : decode cX11_drawn 40 = .ok (.iload 6, 2) := by decide +kernel
theorem dX11_drawn_42 : decode cX11_drawn 42 = .ok (.ifCond .eq 6, 3) := by decide +kernel
theorem dX11_drawn_45 : decode cX11_drawn 45 = .ok (.iload 6, 2) := by decide +kernel
theorem dX11_drawn_47 : decode cX11_drawn 47 = .ok (.ireturn, 1) := by decide +kernel
set_option maxHeartbeats 4000000 in
set_option maxRecDepth 100000 in
theorem c_drawn_in (l : Launch) (J : va_J9) (a : Nat → Nat) (f : Nat → Option Nat) (sh : Nat) (ce : Nat) (d : Int32) (y : Int32) (x : Int32) (k : Int32) (hd : 0 ≤ d.toInt ∧ d.toInt ≤ 5) (hf : f d.toNatClampNeg = some sh) : RC l J yX11_drawn cX11_drawn 7 (some .int) ({ frames := 2, cells := 0, slots := 0, locals := 40 }) [.ref (a 0), .int d, .int y, .int x, .int k] [((a 0), .inr (11, [.ref (a 1), .ref (a 6), .ref (a 10), .ref (a 15), .ref (a 17), .ref (a 22), .ref (a 23), .ref (a 30), .ref (a 31), .ref (a 34), .int 0, .ref (a 37), .ref (a 40)])), ((a 40), .inl (J.2.2.2, 6, .inr (.inr (.inr (.inr f))))), (sh, .inr (9, [.ref ce, .int 0, .int 0, .int 0, .int 0]))] (vp_Si (fun r => r = sp_drawn (d.toInt) (x.toInt) (k.toInt))) := by
  refine rc_of (by decide) (Nat.le_of_ble_eq_true rfl) ?_
  intro p e s m below meth c ls hE hl hP hK
  obtain ⟨hx, hb, hr, hml, hown, hts, hlk, hin⟩ := hE
  have hown : s.vm.findClass RX11 = some m.cls := hown
  have hl : lv_has ls 7 [(0, .ref (a 0)), (1, .int d), (2, .int y), (3, .int x), (4, .int k)] := hl
  have rg_d := i_rng d
  have rg_y := i_rng y
  have rg_x := i_rng x
  have rg_k := i_rng k
  refine lv_aload_n hx hb dX11_drawn_0 rfl (lv_at hl 0 rfl) ?_
  refine lv_iload_n hx hb dX11_drawn_1 rfl (lv_at hl 1 rfl) ?_
  refine go_a (rn_V (As := [.int d]) (rest := []) hx hb hml hown hts hK (cF_shelfIn l J a f sh d ⟨by omega, by omega⟩ hf) kV_RX11_106 (hP.sub (ws' := [((a 0), .inr (11, [.ref (a 1), .ref (a 6), .ref (a 10), .ref (a 15), .ref (a 17), .ref (a 22), .ref (a 23), .ref (a 30), .ref (a 31), .ref (a 34), .int 0, .ref (a 37), .ref (a 40)])), ((a 40), .inl (J.2.2.2, 6, .inr (.inr (.inr (.inr f)))))]) [0, 1] rfl) rfl rfl rfl ⟨Nat.le_of_ble_eq_true rfl, Nat.le_of_ble_eq_true rfl⟩ rfl rfl rfl hl.1 rfl (Nat.le_of_ble_eq_true rfl) ⟨Nat.le_of_ble_eq_true rfl, Nat.le_of_ble_eq_true rfl⟩ dX11_drawn_2) ?_
  refine top_q (y := sh) rfl ?_
  refine lv_astore (lv' := [(5, .ref sh), (0, .ref (a 0)), (1, .int d), (2, .int y), (3, .int x), (4, .int k)]) hx hb dX11_drawn_5 hl (by decide) rfl (fun ls hl => ?_)
  refine lv_aload hx hb dX11_drawn_7 (lv_at hl 0 rfl) ?_
  refine lv_ifnull hx hb dX11_drawn_9 ?_
  refine lv_aload_n hx hb dX11_drawn_12 rfl (lv_at hl 1 rfl) ?_
  refine lv_iload_n hx hb dX11_drawn_13 rfl (lv_at hl 4 rfl) ?_
  refine go_i (rn_V (As := [.int x]) (rest := []) hx hb hml hown hts hK (cF_isDrawing l J a x) kV_RX11_277 (hP.sub (ws' := [((a 0), .inr (11, [.ref (a 1), .ref (a 6), .ref (a 10), .ref (a 15), .ref (a 17), .ref (a 22), .ref (a 23), .ref (a 30), .ref (a 31), .ref (a 34), .int 0, .ref (a 37), .ref (a 40)]))]) [0] rfl) rfl rfl rfl ⟨Nat.le_of_ble_eq_true rfl, Nat.le_of_ble_eq_true rfl⟩ rfl rfl rfl hl.1 rfl (Nat.le_of_ble_eq_true rfl) ⟨Nat.le_of_ble_eq_true rfl, Nat.le_of_ble_eq_true rfl⟩ dX11_drawn_14) ?_
  refine lv_if_eq (tgt := 31) hx hb dX11_drawn_17 (by decide) (fun c1 => ?_) (fun c1 => ?_)
  · have j2 := b0 c1
    refine lv_iconst (v := (-1)) hx hb dX11_drawn_31 (by decide) ?_
    exact rz_i hx hb hr hlk (by unfold sp_drawn; (repeat' split) <;> first | rfl | (exfalso; omega)) dX11_drawn_32
  · have j3 := b1 c1
    refine lv_iload hx hb dX11_drawn_20 (lv_at hl 5 rfl) ?_
    refine lv_if_lt (tgt := 31) hx hb dX11_drawn_22 (by decide) (fun c4 => ?_) (fun c4 => ?_)
    · have j5 : k.toInt < 0 := (i_lt rfl (by decide)).mp c4
      refine lv_iconst (v := (-1)) hx hb dX11_drawn_31 (by decide) ?_
      exact rz_i hx hb hr hlk (by unfold sp_drawn; (repeat' split) <;> first | rfl | (exfalso; omega)) dX11_drawn_32
    · have j6 : ¬ (k.toInt < 0) := fun h => c4 ((i_lt rfl (by decide)).mpr h)
      refine lv_iload hx hb dX11_drawn_25 (lv_at hl 5 rfl) ?_
      refine lv_iconst (v := 1) hx hb dX11_drawn_27 (by decide) ?_
      refine lv_icmp_le (tgt := 33) hx hb dX11_drawn_28 (by decide) (fun c7 => ?_) (fun c7 => ?_)
      · have j8 : k.toInt ≤ 1 := (i_le rfl (by decide)).mp c7
        refine lv_aload hx hb dX11_drawn_33 (lv_at hl 0 rfl) ?_
        refine go_i (rn_S (As := [.ref sh]) (rest := []) hx hb hml hown hts hK (cF_refusal l J sh ce) kS_RX11_192 (hP.sub (ws' := [(sh, .inr (9, [.ref ce, .int 0, .int 0, .int 0, .int 0]))]) [2] rfl) ⟨Nat.le_of_ble_eq_true rfl, Nat.le_of_ble_eq_true rfl⟩ rfl rfl rfl hl.1 rfl (Nat.le_of_ble_eq_true rfl) ⟨Nat.le_of_ble_eq_true rfl, Nat.le_of_ble_eq_true rfl⟩ dX11_drawn_35) ?_
        refine lv_istore (lv' := [(6, .int (-11)), (5, .ref sh), (0, .ref (a 0)), (1, .int d), (2, .int y), (3, .int x), (4, .int k)]) hx hb dX11_drawn_38 hl (by decide) rfl (fun ls hl => ?_)
        refine lv_iload hx hb dX11_drawn_40 (lv_at hl 0 rfl) ?_
        refine lv_if_eq (tgt := 48) hx hb dX11_drawn_42 (by decide) (fun c => absurd c (by decide)) (fun _ => ?_)
        refine lv_iload hx hb dX11_drawn_45 (lv_at hl 0 rfl) ?_
        exact rz_i hx hb hr hlk (by unfold sp_drawn; (repeat' split) <;> first | rfl | (exfalso; omega)) dX11_drawn_47
      · have j9 : ¬ (k.toInt ≤ 1) := fun h => c7 ((i_le rfl (by decide)).mpr h)
        refine lv_iconst (v := (-1)) hx hb dX11_drawn_31 (by decide) ?_
        exact rz_i hx hb hr hlk (by unfold sp_drawn; (repeat' split) <;> first | rfl | (exfalso; omega)) dX11_drawn_32
set_option maxHeartbeats 4000000 in
set_option maxRecDepth 100000 in
theorem c_drawn_out (l : Launch) (J : va_J9) (a : Nat → Nat) (d : Int32) (y : Int32) (x : Int32) (k : Int32) (hd : ¬ (0 ≤ d.toInt ∧ d.toInt ≤ 5)) : RC l J yX11_drawn cX11_drawn 7 (some .int) ({ frames := 1, cells := 0, slots := 0, locals := 21 }) [.ref (a 0), .int d, .int y, .int x, .int k] [((a 0), .inr (11, [.ref (a 1), .ref (a 6), .ref (a 10), .ref (a 15), .ref (a 17), .ref (a 22), .ref (a 23), .ref (a 30), .ref (a 31), .ref (a 34), .int 0, .ref (a 37), .ref (a 40)]))] (vp_Si (fun r => r = sp_drawn (d.toInt) (x.toInt) (k.toInt))) := by
  refine rc_of (by decide) (Nat.le_of_ble_eq_true rfl) ?_
  intro p e s m below meth c ls hE hl hP hK
  obtain ⟨hx, hb, hr, hml, hown, hts, hlk, hin⟩ := hE
  have hown : s.vm.findClass RX11 = some m.cls := hown
  have hl : lv_has ls 7 [(0, .ref (a 0)), (1, .int d), (2, .int y), (3, .int x), (4, .int k)] := hl
  have rg_d := i_rng d
  have rg_y := i_rng y
  have rg_x := i_rng x
  have rg_k := i_rng k
  refine lv_aload_n hx hb dX11_drawn_0 rfl (lv_at hl 0 rfl) ?_
  refine lv_iload_n hx hb dX11_drawn_1 rfl (lv_at hl 1 rfl) ?_
  refine go_a (rn_V (As := [.int d]) (rest := []) hx hb hml hown hts hK (cF_shelfOut l J a d (by omega)) kV_RX11_106 hP rfl rfl rfl ⟨Nat.le_of_ble_eq_true rfl, Nat.le_of_ble_eq_true rfl⟩ rfl rfl rfl hl.1 rfl (Nat.le_of_ble_eq_true rfl) ⟨Nat.le_of_ble_eq_true rfl, Nat.le_of_ble_eq_true rfl⟩ dX11_drawn_2) ?_
  refine top_n rfl ?_
  refine lv_astoreN (lv' := [(5, .null), (0, .ref (a 0)), (1, .int d), (2, .int y), (3, .int x), (4, .int k)]) hx hb dX11_drawn_5 hl (by decide) rfl (fun ls hl => ?_)
  refine lv_aloadN hx hb dX11_drawn_7 (lv_at hl 0 rfl) ?_
  refine lv_ifnullN (tgt := 31) hx hb dX11_drawn_9 (by decide) ?_
  refine lv_iconst (v := (-1)) hx hb dX11_drawn_31 (by decide) ?_
  exact rz_i hx hb hr hlk (by unfold sp_drawn; (repeat' split) <;> first | rfl | (exfalso; omega)) dX11_drawn_32
theorem dX11_hide_0 : decode cX11_hide 0 = .ok (.aload_n 0, 1) := by decide +kernel
theorem dX11_hide_1 : decode cX11_hide 1 = .ok (.getfield 21, 3) := by decide +kernel
theorem q_1049 : Cond.methodLink RX11 280 yX10_openWeight ∈ lw_g := mem_q 1049 (by decide +kernel) rfl
theorem kV_RX11_280 : CV RX11 280 RX10 yX10_openWeight cX10_openWeight 4 (some .int) 0 := cv_of q_1049 q_1025 q_1026 q_105 q_1027 (by decide +kernel)
theorem dX11_hide_4 : decode cX11_hide 4 = .ok (.invokevirtual 280, 3) := by decide +kernel
theorem dX11_hide_7 : decode cX11_hide 7 = .ok (.ifCond .ne 6, 3) := by decide +kernel
theorem dX11_hide_10 : decode cX11_hide 10 = .ok (.bipush (-5), 2) := by decide +kernel
theorem dX11_hide_12 : decode cX11_hide 12 = .ok (.ireturn, 1) := by decide +kernel
set_option maxHeartbeats 4000000 in
set_option maxRecDepth 100000 in
theorem c_hide (l : Launch) (J : va_J9) (a : Nat → Nat) (x : Int32) : RC l J yX11_hide cX11_hide 2 (some .int) ({ frames := 2, cells := 0, slots := 0, locals := 43 }) [.ref (a 0), .int x] [((a 0), .inr (11, [.ref (a 1), .ref (a 6), .ref (a 10), .ref (a 15), .ref (a 17), .ref (a 22), .ref (a 23), .ref (a 30), .ref (a 31), .ref (a 34), .int 0, .ref (a 37), .ref (a 40)])), ((a 6), .inr (10, [.ref (a 1), .ref (a 7), .ref (a 8), .ref (a 9), .int 0, .int 0, .int 0, .int 0, .int 1, .int 0, .int 0]))] (vp_Si (fun r => r = (-5))) := by
  refine rc_of (by decide) (Nat.le_of_ble_eq_true rfl) ?_
  intro p e s m below meth c ls hE hl hP hK
  obtain ⟨hx, hb, hr, hml, hown, hts, hlk, hin⟩ := hE
  have hown : s.vm.findClass RX11 = some m.cls := hown
  have hl : lv_has ls 2 [(0, .ref (a 0)), (1, .int x)] := hl
  have rg_x := i_rng x
  refine lv_aload_n hx hb dX11_hide_0 rfl (lv_at hl 0 rfl) ?_
  refine va_get (D := J.1) (ci := 11) (v := .ref (a 6)) (C := RX11) (T := TX11) (N := 13) hx hb hts inX11 hown hK.1 hP 0 rfl rfl 1 (by decide) (hts _ q_461) (fun _ h9 => h9) rfl dX11_hide_1 ?_
  refine go_i (rn_V (As := []) (rest := []) hx hb hml hown hts hK (cW_openWeight l J (a 6) (a 1) (a 7) (a 8) (a 9)) kV_RX11_280 (hP.sub (ws' := [((a 6), .inr (10, [.ref (a 1), .ref (a 7), .ref (a 8), .ref (a 9), .int 0, .int 0, .int 0, .int 0, .int 1, .int 0, .int 0]))]) [1] rfl) rfl rfl rfl ⟨Nat.le_of_ble_eq_true rfl, Nat.le_of_ble_eq_true rfl⟩ rfl rfl rfl hl.1 rfl (Nat.le_of_ble_eq_true rfl) ⟨Nat.le_of_ble_eq_true rfl, Nat.le_of_ble_eq_true rfl⟩ dX11_hide_4) ?_
  refine lv_if_ne (tgt := 13) hx hb dX11_hide_7 (by decide) (fun c => absurd c (by decide)) (fun _ => ?_)
  refine lv_bipush (v := (-5)) hx hb dX11_hide_10 (by decide) ?_
  exact rz_i hx hb hr hlk (by decide) dX11_hide_12
theorem dX11_look_0 : decode cX11_look 0 = .ok (.aload_n 0, 1) := by decide +kernel
theorem dX11_look_1 : decode cX11_look 1 = .ok (.iload_n 1, 1) := by decide +kernel
theorem dX11_look_2 : decode cX11_look 2 = .ok (.invokevirtual 121, 3) := by decide +kernel
theorem dX11_look_5 : decode cX11_look 5 = .ok (.ifCond .ne 5, 3) := by decide +kernel
theorem dX11_look_8 : decode cX11_look 8 = .ok (.iconst (-1), 1) := by decide +kernel
theorem dX11_look_9 : decode cX11_look 9 = .ok (.ireturn, 1) := by decide +kernel
set_option maxHeartbeats 4000000 in
set_option maxRecDepth 100000 in
theorem c_look (l : Launch) (J : va_J9) (a : Nat → Nat) (x : Int32) : RC l J yX11_look cX11_look 3 (some .int) ({ frames := 2, cells := 0, slots := 0, locals := 42 }) [.ref (a 0), .int x] [((a 0), .inr (11, [.ref (a 1), .ref (a 6), .ref (a 10), .ref (a 15), .ref (a 17), .ref (a 22), .ref (a 23), .ref (a 30), .ref (a 31), .ref (a 34), .int 0, .ref (a 37), .ref (a 40)])), ((a 6), .inr (10, [.ref (a 1), .ref (a 7), .ref (a 8), .ref (a 9), .int 0, .int 0, .int 0, .int 0, .int 1, .int 0, .int 0]))] (vp_Si (fun r => r = (-1))) := by
  refine rc_of (by decide) (Nat.le_of_ble_eq_true rfl) ?_
  intro p e s m below meth c ls hE hl hP hK
  obtain ⟨hx, hb, hr, hml, hown, hts, hlk, hin⟩ := hE
  have hown : s.vm.findClass RX11 = some m.cls := hown
  have hl : lv_has ls 3 [(0, .ref (a 0)), (1, .int x)] := hl
  have rg_x := i_rng x
  refine lv_aload_n hx hb dX11_look_0 rfl (lv_at hl 0 rfl) ?_
  refine lv_iload_n hx hb dX11_look_1 rfl (lv_at hl 1 rfl) ?_
  refine go_i (rn_V (As := [.int x]) (rest := []) hx hb hml hown hts hK (cF_twoHoles l J a x) kV_RX11_121 hP rfl rfl rfl ⟨Nat.le_of_ble_eq_true rfl, Nat.le_of_ble_eq_true rfl⟩ rfl rfl rfl hl.1 rfl (Nat.le_of_ble_eq_true rfl) ⟨Nat.le_of_ble_eq_true rfl, Nat.le_of_ble_eq_true rfl⟩ dX11_look_2) ?_
  refine lv_if_ne (tgt := 10) hx hb dX11_look_5 (by decide) (fun c => absurd c (by decide)) (fun _ => ?_)
  refine lv_iconst (v := (-1)) hx hb dX11_look_8 (by decide) ?_
  exact rz_i hx hb hr hlk (by decide) dX11_look_9
theorem dX11_image_0 : decode cX11_image 0 = .ok (.aload_n 0, 1) := by decide +kernel
theorem q_469 : Cond.fieldLink RX11 78 RX11 "picture" "LFoxHoles$Deed;" ∈ lw_g := mem_q 469 (by decide +kernel) rfl
theorem dX11_image_1 : decode cX11_image 1 = .ok (.getfield 78, 3) := by decide +kernel
theorem dX11_image_4 : decode cX11_image 4 = .ok (.aload_n 0, 1) := by decide +kernel
theorem dX11_image_5 : decode cX11_image 5 = .ok (.getfield 74, 3) := by decide +kernel
theorem q_1110 : Cond.methodLink RX11 309 yX3_copy ∈ lw_g := mem_q 1110 (by decide +kernel) rfl
theorem q_1111 : Cond.instanceMethod yX3_copy ∈ lw_g := mem_q 1111 (by decide +kernel) rfl
theorem q_1112 : Cond.selects RX3 yX3_copy yX3_copy ∈ lw_g := mem_q 1112 (by decide +kernel) rfl
theorem q_112 : Cond.initialized RX3 ∈ lw_g := mem_q 112 (by decide +kernel) rfl
theorem q_1113 : Cond.code yX3_copy cX3_copy 2 none ∈ lw_g := mem_q 1113 (by decide +kernel) rfl
theorem kV_RX11_309 : CV RX11 309 RX3 yX3_copy cX3_copy 2 none 1 := cv_of q_1110 q_1111 q_1112 q_112 q_1113 (by decide +kernel)
theorem dX11_image_8 : decode cX11_image 8 = .ok (.invokevirtual 309, 3) := by decide +kernel
theorem dX11_image_11 : decode cX11_image 11 = .ok (.aload_n 0, 1) := by decide +kernel
theorem dX11_image_12 : decode cX11_image 12 = .ok (.iconst 1, 1) := by decide +kernel
theorem q_470 : Cond.fieldLink RX11 313 RX11 "pictured" "Z" ∈ lw_g := mem_q 470 (by decide +kernel) rfl
theorem dX11_image_13 : decode cX11_image 13 = .ok (.putfield 313, 3) := by decide +kernel
theorem dX11_image_16 : decode cX11_image 16 = .ok (.aload_n 0, 1) := by decide +kernel
theorem dX11_image_17 : decode cX11_image 17 = .ok (.getfield 74, 3) := by decide +kernel
theorem q_1115 : Cond.methodLink RX11 316 yX3_dayIfHidden ∈ lw_g := mem_q 1115 (by decide +kernel) rfl
theorem q_1116 : Cond.instanceMethod yX3_dayIfHidden ∈ lw_g := mem_q 1116 (by decide +kernel) rfl
theorem q_1117 : Cond.selects RX3 yX3_dayIfHidden yX3_dayIfHidden ∈ lw_g := mem_q 1117 (by decide +kernel) rfl
theorem q_1118 : Cond.code yX3_dayIfHidden cX3_dayIfHidden 1 (some .int) ∈ lw_g := mem_q 1118 (by decide +kernel) rfl
theorem kV_RX11_316 : CV RX11 316 RX3 yX3_dayIfHidden cX3_dayIfHidden 1 (some .int) 0 := cv_of q_1115 q_1116 q_1117 q_112 q_1118 (by decide +kernel)
theorem dX11_image_20 : decode cX11_image 20 = .ok (.invokevirtual 316, 3) := by decide +kernel
theorem dX11_image_23 : decode cX11_image 23 = .ok (.ireturn, 1) := by decide +kernel
set_option maxHeartbeats 4000000 in
set_option maxRecDepth 100000 in
theorem c_image (l : Launch) (J : va_J9) (sz : Nat) (a : Nat → Nat) : WC l J yX11_image cX11_image 1 (some .int) ({ frames := 2, cells := 0, slots := 0, locals := 101 }) [.ref (a 0)] [((a 0), .inr (11, [.ref (a 1), .ref (a 6), .ref (a 10), .ref (a 15), .ref (a 17), .ref (a 22), .ref (a 23), .ref (a 30), .ref (a 31), .ref (a 34), .int 0, .ref (a 37), .ref (a 40)])), ((a 34), .inr (3, [.ref (a 6), .ref (a 35), .ref (a 36), .int 0, .int 0, .int 0, .int 0, .int 0])), ((a 31), .inr (3, [.ref (a 6), .ref (a 32), .ref (a 33), .int 0, .int 0, .int 0, .int 0, .int 0])), ((a 35), .inr (4, [.ref (a 6), .int 0])), ((a 32), .inr (4, [.ref (a 6), .int 0])), ((a 36), .inl (J.2.1, 10, .inl (fun _ => 0))), ((a 33), .inl (J.2.1, 10, .inl (fun _ => 0)))] sz (Qi J (fun (r : Int32) (_ : Unit) => r = (-2)) (fun (_ : Unit) => [])) 0 0 := by
  refine wc_of (by decide) (Nat.le_of_ble_eq_true rfl) ?_
  intro p e s m below meth c ls A hE hl hP hK hD hS hA
  obtain ⟨hx, hb, hr, hml, hown, hts, hlk, hin⟩ := hE
  have hown : s.vm.findClass RX11 = some m.cls := hown
  have hl : lv_has ls 1 [(0, .ref (a 0))] := hl
  refine lv_aload_n hx hb dX11_image_0 rfl (lv_at hl 0 rfl) ?_
  refine va_get (D := J.1) (ci := 11) (v := .ref (a 34)) (C := RX11) (T := TX11) (N := 13) hx hb hts inX11 hown hK.1 hP 0 rfl rfl 9 (by decide) (hts _ q_469) (fun _ h9 => h9) rfl dX11_image_1 ?_
  refine lv_aload_n hx hb dX11_image_4 rfl (lv_at hl 0 rfl) ?_
  refine va_get (D := J.1) (ci := 11) (v := .ref (a 31)) (C := RX11) (T := TX11) (N := 13) hx hb hts inX11 hown hK.1 hP 0 rfl rfl 8 (by decide) (hts _ q_468) (fun _ h9 => h9) rfl dX11_image_5 ?_
  refine gw_v (wc := [((a 34), .inr (3, [.ref (a 6), .ref (a 35), .ref (a 36), .int 0, .int 0, .int 0, .int 0, .int 0])), ((a 31), .inr (3, [.ref (a 6), .ref (a 32), .ref (a 33), .int 0, .int 0, .int 0, .int 0, .int 0])), ((a 35), .inr (4, [.ref (a 6), .int 0])), ((a 32), .inr (4, [.ref (a 6), .int 0])), ((a 36), .inl (J.2.1, 10, .inl (fun _ => 0))), ((a 33), .inl (J.2.1, 10, .inl (fun _ => 0)))]) (wr := [((a 0), .inr (11, [.ref (a 1), .ref (a 6), .ref (a 10), .ref (a 15), .ref (a 17), .ref (a 22), .ref (a 23), .ref (a 30), .ref (a 31), .ref (a 34), .int 0, .ref (a 37), .ref (a 40)]))]) hP hD hS hA [1, 2, 3, 4, 5, 6] [0] rfl rfl (by decide) (by decide) (wn_V (As := [.ref (a 31)]) (rest := []) hx hb hml hown hts hK (cD_copy l J _ (a 34) (a 31) (a 6) (a 35) (a 36) (a 32) (a 33)) kV_RX11_309 (hP.sub (ws' := [((a 34), .inr (3, [.ref (a 6), .ref (a 35), .ref (a 36), .int 0, .int 0, .int 0, .int 0, .int 0])), ((a 31), .inr (3, [.ref (a 6), .ref (a 32), .ref (a 33), .int 0, .int 0, .int 0, .int 0, .int 0])), ((a 35), .inr (4, [.ref (a 6), .int 0])), ((a 32), .inr (4, [.ref (a 6), .int 0])), ((a 36), .inl (J.2.1, 10, .inl (fun _ => 0))), ((a 33), .inl (J.2.1, 10, .inl (fun _ => 0)))]) [1, 2, 3, 4, 5, 6] rfl) ((hD.sub (ws' := [((a 34), .inr (3, [.ref (a 6), .ref (a 35), .ref (a 36), .int 0, .int 0, .int 0, .int 0, .int 0])), ((a 31), .inr (3, [.ref (a 6), .ref (a 32), .ref (a 33), .int 0, .int 0, .int 0, .int 0, .int 0])), ((a 35), .inr (4, [.ref (a 6), .int 0])), ((a 32), .inr (4, [.ref (a 6), .int 0])), ((a 36), .inl (J.2.1, 10, .inl (fun _ => 0))), ((a 33), .inl (J.2.1, 10, .inl (fun _ => 0)))]) [1, 2, 3, 4, 5, 6] (by decide) rfl).weaken (fun _ _ _ _ => trivial)) rfl rfl rfl ⟨Nat.le_of_ble_eq_true rfl, Nat.le_of_ble_eq_true rfl⟩ rfl rfl rfl hl.1 rfl (Nat.le_of_ble_eq_true rfl) ⟨Nat.le_of_ble_eq_true rfl, Nat.le_of_ble_eq_true rfl⟩ dX11_image_8) (fun u1 H locs hw hP hD hS => ?_)
  have hP : va_P J.1 cls [((a 0), .inr (11, [.ref (a 1), .ref (a 6), .ref (a 10), .ref (a 15), .ref (a 17), .ref (a 22), .ref (a 23), .ref (a 30), .ref (a 31), .ref (a 34), .int 0, .ref (a 37), .ref (a 40)])), ((a 31), .inr (3, [.ref (a 6), .ref (a 32), .ref (a 33), .int 0, .int 0, .int 0, .int 0, .int 0]))] H := hP
  have hD : va_D A [((a 0), .inr (11, [.ref (a 1), .ref (a 6), .ref (a 10), .ref (a 15), .ref (a 17), .ref (a 22), .ref (a 23), .ref (a 30), .ref (a 31), .ref (a 34), .int 0, .ref (a 37), .ref (a 40)])), ((a 31), .inr (3, [.ref (a 6), .ref (a 32), .ref (a 33), .int 0, .int 0, .int 0, .int 0, .int 0]))] := hD
  refine W.widen (k := 0) (n := 0) (Nat.le_of_ble_eq_true rfl) (Nat.le_of_ble_eq_true rfl) ?_
  refine lv_aload_n hx hb dX11_image_11 rfl (lv_at hl 0 rfl) ?_
  refine lv_iconst (v := 1) hx hb dX11_image_12 (by decide) ?_
  refine va_put (D := J.1) (ci := 11) (v := .int 1) (ty := (.boolean)) (C := RX11) (T := TX11) (N := 13) hx hb hts inX11 tyX11 tyX11_ok nmX11 hown hK.1 hP hD hS 0 rfl rfl 10 (by decide) (hts _ q_470) (fun _ h9 => h9) rfl (by decide +kernel) rfl rfl (Nat.le_of_ble_eq_true rfl) dX11_image_13 (fun H locs hP hD hS => ?_)
  have hP : va_P J.1 cls [((a 0), .inr (11, [.ref (a 1), .ref (a 6), .ref (a 10), .ref (a 15), .ref (a 17), .ref (a 22), .ref (a 23), .ref (a 30), .ref (a 31), .ref (a 34), .int 1, .ref (a 37), .ref (a 40)])), ((a 31), .inr (3, [.ref (a 6), .ref (a 32), .ref (a 33), .int 0, .int 0, .int 0, .int 0, .int 0]))] H := hP
  have hD : va_D A [((a 0), .inr (11, [.ref (a 1), .ref (a 6), .ref (a 10), .ref (a 15), .ref (a 17), .ref (a 22), .ref (a 23), .ref (a 30), .ref (a 31), .ref (a 34), .int 1, .ref (a 37), .ref (a 40)])), ((a 31), .inr (3, [.ref (a 6), .ref (a 32), .ref (a 33), .int 0, .int 0, .int 0, .int 0, .int 0]))] := hD
  refine lv_aload_n hx hb dX11_image_16 rfl (lv_at hl 0 rfl) ?_
  refine va_get (D := J.1) (ci := 11) (v := .ref (a 31)) (C := RX11) (T := TX11) (N := 13) hx hb hts inX11 hown hK.1 hP 0 rfl rfl 8 (by decide) (hts _ q_468) (fun _ h9 => h9) rfl dX11_image_17 ?_
  refine go_i (rn_V (As := []) (rest := []) hx hb hml hown hts hK (cD_day l J (a 31) (a 6) (a 32) (a 33)) kV_RX11_316 (hP.sub (ws' := [((a 31), .inr (3, [.ref (a 6), .ref (a 32), .ref (a 33), .int 0, .int 0, .int 0, .int 0, .int 0]))]) [1] rfl) rfl rfl rfl ⟨Nat.le_of_ble_eq_true rfl, Nat.le_of_ble_eq_true rfl⟩ rfl rfl rfl hl.1 rfl (Nat.le_of_ble_eq_true rfl) ⟨Nat.le_of_ble_eq_true rfl, Nat.le_of_ble_eq_true rfl⟩ dX11_image_20) ?_
  exact wz_i () hx hb hr hlk (by decide) (hP.sub (ws' := []) [] rfl) (hD.sub (ws' := []) [] (by decide) rfl) hS dX11_image_23
theorem dX11_back_0 : decode cX11_back 0 = .ok (.aload_n 0, 1) := by decide +kernel
theorem dX11_back_1 : decode cX11_back 1 = .ok (.getfield 313, 3) := by decide +kernel
theorem dX11_back_4 : decode cX11_back 4 = .ok (.ifCond .ne 6, 3) := by decide +kernel
theorem dX11_back_7 : decode cX11_back 7 = .ok (.bipush (-5), 2) := by decide +kernel
theorem dX11_back_9 : decode cX11_back 9 = .ok (.ireturn, 1) := by decide +kernel
set_option maxHeartbeats 4000000 in
set_option maxRecDepth 100000 in
theorem c_back (l : Launch) (J : va_J9) (a : Nat → Nat) : RC l J yX11_back cX11_back 1 (some .int) ({ frames := 0, cells := 0, slots := 0, locals := 0 }) [.ref (a 0)] [((a 0), .inr (11, [.ref (a 1), .ref (a 6), .ref (a 10), .ref (a 15), .ref (a 17), .ref (a 22), .ref (a 23), .ref (a 30), .ref (a 31), .ref (a 34), .int 0, .ref (a 37), .ref (a 40)]))] (vp_Si (fun r => r = (-5))) := by
  refine rc_of (by decide) (Nat.le_of_ble_eq_true rfl) ?_
  intro p e s m below meth c ls hE hl hP hK
  obtain ⟨hx, hb, hr, hml, hown, hts, hlk, hin⟩ := hE
  have hown : s.vm.findClass RX11 = some m.cls := hown
  have hl : lv_has ls 1 [(0, .ref (a 0))] := hl
  refine lv_aload_n hx hb dX11_back_0 rfl (lv_at hl 0 rfl) ?_
  refine va_get (D := J.1) (ci := 11) (v := .int 0) (C := RX11) (T := TX11) (N := 13) hx hb hts inX11 hown hK.1 hP 0 rfl rfl 10 (by decide) (hts _ q_470) (fun _ h9 => h9) rfl dX11_back_1 ?_
  refine lv_if_ne (tgt := 10) hx hb dX11_back_4 (by decide) (fun c => absurd c (by decide)) (fun _ => ?_)
  refine lv_bipush (v := (-5)) hx hb dX11_back_7 (by decide) ?_
  exact rz_i hx hb hr hlk (by decide) dX11_back_9
theorem dX11_undo_0 : decode cX11_undo 0 = .ok (.aload_n 0, 1) := by decide +kernel
theorem dX11_undo_1 : decode cX11_undo 1 = .ok (.getfield 30, 3) := by decide +kernel
theorem q_1127 : Cond.methodLink RX11 319 yX2_takeBack ∈ lw_g := mem_q 1127 (by decide +kernel) rfl
theorem q_1128 : Cond.instanceMethod yX2_takeBack ∈ lw_g := mem_q 1128 (by decide +kernel) rfl
theorem q_1129 : Cond.selects RX2 yX2_takeBack yX2_takeBack ∈ lw_g := mem_q 1129 (by decide +kernel) rfl
theorem q_1130 : Cond.code yX2_takeBack cX2_takeBack 1 (some .int) ∈ lw_g := mem_q 1130 (by decide +kernel) rfl
theorem kV_RX11_319 : CV RX11 319 RX2 yX2_takeBack cX2_takeBack 1 (some .int) 0 := cv_of q_1127 q_1128 q_1129 q_106 q_1130 (by decide +kernel)
theorem dX11_undo_4 : decode cX11_undo 4 = .ok (.invokevirtual 319, 3) := by decide +kernel
theorem dX11_undo_7 : decode cX11_undo 7 = .ok (.istore_n 1, 1) := by decide +kernel
theorem dX11_undo_8 : decode cX11_undo 8 = .ok (.aload_n 0, 1) := by decide +kernel
theorem dX11_undo_9 : decode cX11_undo 9 = .ok (.getfield 21, 3) := by decide +kernel
theorem dX11_undo_12 : decode cX11_undo 12 = .ok (.invokevirtual 103, 3) := by decide +kernel
theorem dX11_undo_15 : decode cX11_undo 15 = .ok (.iload_n 1, 1) := by decide +kernel
theorem dX11_undo_16 : decode cX11_undo 16 = .ok (.ireturn, 1) := by decide +kernel
set_option maxHeartbeats 4000000 in
set_option maxRecDepth 100000 in
theorem c_undo (l : Launch) (J : va_J9) (a : Nat → Nat) : RC l J yX11_undo cX11_undo 2 (some .int) ({ frames := 1, cells := 0, slots := 0, locals := 23 }) [.ref (a 0)] [((a 0), .inr (11, [.ref (a 1), .ref (a 6), .ref (a 10), .ref (a 15), .ref (a 17), .ref (a 22), .ref (a 23), .ref (a 30), .ref (a 31), .ref (a 34), .int 0, .ref (a 37), .ref (a 40)])), ((a 10), .inr (2, [.ref (a 6), .ref (a 11), .ref (a 12), .ref (a 13), .ref (a 14), .int 0, .int 0])), ((a 6), .inr (10, [.ref (a 1), .ref (a 7), .ref (a 8), .ref (a 9), .int 0, .int 0, .int 0, .int 0, .int 1, .int 0, .int 0]))] (vp_Si (fun r => r = (-5))) := by
  refine rc_of (by decide) (Nat.le_of_ble_eq_true rfl) ?_
  intro p e s m below meth c ls hE hl hP hK
  obtain ⟨hx, hb, hr, hml, hown, hts, hlk, hin⟩ := hE
  have hown : s.vm.findClass RX11 = some m.cls := hown
  have hl : lv_has ls 2 [(0, .ref (a 0))] := hl
  refine lv_aload_n hx hb dX11_undo_0 rfl (lv_at hl 0 rfl) ?_
  refine va_get (D := J.1) (ci := 11) (v := .ref (a 10)) (C := RX11) (T := TX11) (N := 13) hx hb hts inX11 hown hK.1 hP 0 rfl rfl 2 (by decide) (hts _ q_462) (fun _ h9 => h9) rfl dX11_undo_1 ?_
  refine go_i (rn_V (As := []) (rest := []) hx hb hml hown hts hK (cC_takeBack l J (a 10) (a 6) (a 11) (a 12) (a 13) (a 14)) kV_RX11_319 (hP.sub (ws' := [((a 10), .inr (2, [.ref (a 6), .ref (a 11), .ref (a 12), .ref (a 13), .ref (a 14), .int 0, .int 0]))]) [1] rfl) rfl rfl rfl ⟨Nat.le_of_ble_eq_true rfl, Nat.le_of_ble_eq_true rfl⟩ rfl rfl rfl hl.1 rfl (Nat.le_of_ble_eq_true rfl) ⟨Nat.le_of_ble_eq_true rfl, Nat.le_of_ble_eq_true rfl⟩ dX11_undo_4) ?_
  refine lv_istore_n (lv' := [(1, .int (-5)), (0, .ref (a 0))]) hx hb dX11_undo_7 rfl hl (by decide) rfl (fun ls hl => ?_)
  refine lv_aload_n hx hb dX11_undo_8 rfl (lv_at hl 1 rfl) ?_
  refine va_get (D := J.1) (ci := 11) (v := .ref (a 6)) (C := RX11) (T := TX11) (N := 13) hx hb hts inX11 hown hK.1 hP 0 rfl rfl 1 (by decide) (hts _ q_461) (fun _ h9 => h9) rfl dX11_undo_9 ?_
  refine go_v (rn_V (As := []) (rest := []) hx hb hml hown hts hK (cW_settle0 l J (a 6) (a 1) (a 7) (a 8) (a 9) 0 0 0 1 0 0) kV_RX11_103 (hP.sub (ws' := [((a 6), .inr (10, [.ref (a 1), .ref (a 7), .ref (a 8), .ref (a 9), .int 0, .int 0, .int 0, .int 0, .int 1, .int 0, .int 0]))]) [2] rfl) rfl rfl rfl ⟨Nat.le_of_ble_eq_true rfl, Nat.le_of_ble_eq_true rfl⟩ rfl rfl rfl hl.1 rfl (Nat.le_of_ble_eq_true rfl) ⟨Nat.le_of_ble_eq_true rfl, Nat.le_of_ble_eq_true rfl⟩ dX11_undo_12) ?_
  refine lv_iload_n hx hb dX11_undo_15 rfl (lv_at hl 0 rfl) ?_
  exact rz_i hx hb hr hlk (by decide) dX11_undo_16
theorem dX11_redo_0 : decode cX11_redo 0 = .ok (.aload_n 0, 1) := by decide +kernel
theorem dX11_redo_1 : decode cX11_redo 1 = .ok (.getfield 30, 3) := by decide +kernel
theorem q_1136 : Cond.methodLink RX11 322 yX2_doAgain ∈ lw_g := mem_q 1136 (by decide +kernel) rfl
theorem q_1137 : Cond.instanceMethod yX2_doAgain ∈ lw_g := mem_q 1137 (by decide +kernel) rfl
theorem q_1138 : Cond.selects RX2 yX2_doAgain yX2_doAgain ∈ lw_g := mem_q 1138 (by decide +kernel) rfl
theorem q_1139 : Cond.code yX2_doAgain cX2_doAgain 1 (some .int) ∈ lw_g := mem_q 1139 (by decide +kernel) rfl
theorem kV_RX11_322 : CV RX11 322 RX2 yX2_doAgain cX2_doAgain 1 (some .int) 0 := cv_of q_1136 q_1137 q_1138 q_106 q_1139 (by decide +kernel)
theorem dX11_redo_4 : decode cX11_redo 4 = .ok (.invokevirtual 322, 3) := by decide +kernel
theorem dX11_redo_7 : decode cX11_redo 7 = .ok (.istore_n 1, 1) := by decide +kernel
theorem dX11_redo_8 : decode cX11_redo 8 = .ok (.aload_n 0, 1) := by decide +kernel
theorem dX11_redo_9 : decode cX11_redo 9 = .ok (.getfield 21, 3) := by decide +kernel
theorem dX11_redo_12 : decode cX11_redo 12 = .ok (.invokevirtual 103, 3) := by decide +kernel
theorem dX11_redo_15 : decode cX11_redo 15 = .ok (.iload_n 1, 1) := by decide +kernel
theorem dX11_redo_16 : decode cX11_redo 16 = .ok (.ireturn, 1) := by decide +kernel
set_option maxHeartbeats 4000000 in
set_option maxRecDepth 100000 in
theorem c_redo (l : Launch) (J : va_J9) (a : Nat → Nat) : RC l J yX11_redo cX11_redo 2 (some .int) ({ frames := 1, cells := 0, slots := 0, locals := 23 }) [.ref (a 0)] [((a 0), .inr (11, [.ref (a 1), .ref (a 6), .ref (a 10), .ref (a 15), .ref (a 17), .ref (a 22), .ref (a 23), .ref (a 30), .ref (a 31), .ref (a 34), .int 0, .ref (a 37), .ref (a 40)])), ((a 10), .inr (2, [.ref (a 6), .ref (a 11), .ref (a 12), .ref (a 13), .ref (a 14), .int 0, .int 0])), ((a 6), .inr (10, [.ref (a 1), .ref (a 7), .ref (a 8), .ref (a 9), .int 0, .int 0, .int 0, .int 0, .int 1, .int 0, .int 0]))] (vp_Si (fun r => r = (-5))) := by
  refine rc_of (by decide) (Nat.le_of_ble_eq_true rfl) ?_
  intro p e s m below meth c ls hE hl hP hK
  obtain ⟨hx, hb, hr, hml, hown, hts, hlk, hin⟩ := hE
  have hown : s.vm.findClass RX11 = some m.cls := hown
  have hl : lv_has ls 2 [(0, .ref (a 0))] := hl
  refine lv_aload_n hx hb dX11_redo_0 rfl (lv_at hl 0 rfl) ?_
  refine va_get (D := J.1) (ci := 11) (v := .ref (a 10)) (C := RX11) (T := TX11) (N := 13) hx hb hts inX11 hown hK.1 hP 0 rfl rfl 2 (by decide) (hts _ q_462) (fun _ h9 => h9) rfl dX11_redo_1 ?_
  refine go_i (rn_V (As := []) (rest := []) hx hb hml hown hts hK (cC_doAgain l J (a 10) (a 6) (a 11) (a 12) (a 13) (a 14)) kV_RX11_322 (hP.sub (ws' := [((a 10), .inr (2, [.ref (a 6), .ref (a 11), .ref (a 12), .ref (a 13), .ref (a 14), .int 0, .int 0]))]) [1] rfl) rfl rfl rfl ⟨Nat.le_of_ble_eq_true rfl, Nat.le_of_ble_eq_true rfl⟩ rfl rfl rfl hl.1 rfl (Nat.le_of_ble_eq_true rfl) ⟨Nat.le_of_ble_eq_true rfl, Nat.le_of_ble_eq_true rfl⟩ dX11_redo_4) ?_
  refine lv_istore_n (lv' := [(1, .int (-5)), (0, .ref (a 0))]) hx hb dX11_redo_7 rfl hl (by decide) rfl (fun ls hl => ?_)
  refine lv_aload_n hx hb dX11_redo_8 rfl (lv_at hl 1 rfl) ?_
  refine va_get (D := J.1) (ci := 11) (v := .ref (a 6)) (C := RX11) (T := TX11) (N := 13) hx hb hts inX11 hown hK.1 hP 0 rfl rfl 1 (by decide) (hts _ q_461) (fun _ h9 => h9) rfl dX11_redo_9 ?_
  refine go_v (rn_V (As := []) (rest := []) hx hb hml hown hts hK (cW_settle0 l J (a 6) (a 1) (a 7) (a 8) (a 9) 0 0 0 1 0 0) kV_RX11_103 (hP.sub (ws' := [((a 6), .inr (10, [.ref (a 1), .ref (a 7), .ref (a 8), .ref (a 9), .int 0, .int 0, .int 0, .int 0, .int 1, .int 0, .int 0]))]) [2] rfl) rfl rfl rfl ⟨Nat.le_of_ble_eq_true rfl, Nat.le_of_ble_eq_true rfl⟩ rfl rfl rfl hl.1 rfl (Nat.le_of_ble_eq_true rfl) ⟨Nat.le_of_ble_eq_true rfl, Nat.le_of_ble_eq_true rfl⟩ dX11_redo_12) ?_
  refine lv_iload_n hx hb dX11_redo_15 rfl (lv_at hl 0 rfl) ?_
  exact rz_i hx hb hr hlk (by decide) dX11_redo_16
theorem dX11_body_0 : decode cX11_body 0 = .ok (.aload_n 0, 1) := by decide +kernel
theorem q_471 : Cond.fieldLink RX11 84 RX11 "bodies" "LFoxHoles$Bodies;" ∈ lw_g := mem_q 471 (by decide +kernel) rfl
theorem dX11_body_1 : decode cX11_body 1 = .ok (.getfield 84, 3) := by decide +kernel
theorem dX11_body_4 : decode cX11_body 4 = .ok (.iload_n 1, 1) := by decide +kernel
theorem q_1144 : Cond.methodLink RX11 325 yX0_isKind ∈ lw_g := mem_q 1144 (by decide +kernel) rfl
theorem q_1145 : Cond.instanceMethod yX0_isKind ∈ lw_g := mem_q 1145 (by decide +kernel) rfl
theorem q_1146 : Cond.selects RX0 yX0_isKind yX0_isKind ∈ lw_g := mem_q 1146 (by decide +kernel) rfl
theorem q_1147 : Cond.code yX0_isKind cX0_isKind 2 (some .boolean) ∈ lw_g := mem_q 1147 (by decide +kernel) rfl
theorem kV_RX11_325 : CV RX11 325 RX0 yX0_isKind cX0_isKind 2 (some .boolean) 1 := cv_of q_1144 q_1145 q_1146 q_113 q_1147 (by decide +kernel)
theorem dX11_body_5 : decode cX11_body 5 = .ok (.invokevirtual 325, 3) := by decide +kernel
theorem dX11_body_8 : decode cX11_body 8 = .ok (.ifCond .eq 14, 3) := by decide +kernel
theorem dX11_body_22 : decode cX11_body 22 = .ok (.iconst (-1), 1) := by decide +kernel
theorem dX11_body_23 : decode cX11_body 23 = .ok (.ireturn, 1) := by decide +kernel
theorem dX11_body_11 : decode cX11_body 11 = .ok (.aload_n 0, 1) := by decide +kernel
theorem dX11_body_12 : decode cX11_body 12 = .ok (.getfield 84, 3) := by decide +kernel
theorem dX11_body_15 : decode cX11_body 15 = .ok (.iload_n 1, 1) := by decide +kernel
theorem q_1148 : Cond.methodLink RX11 328 yX0_add ∈ lw_g := mem_q 1148 (by decide +kernel) rfl
theorem q_1149 : Cond.instanceMethod yX0_add ∈ lw_g := mem_q 1149 (by decide +kernel) rfl
theorem q_1150 : Cond.selects RX0 yX0_add yX0_add ∈ lw_g := mem_q 1150 (by decide +kernel) rfl
theorem q_1151 : Cond.code yX0_add cX0_add 2 (some .int) ∈ lw_g := mem_q 1151 (by decide +kernel) rfl
theorem kV_RX11_328 : CV RX11 328 RX0 yX0_add cX0_add 2 (some .int) 1 := cv_of q_1148 q_1149 q_1150 q_113 q_1151 (by decide +kernel)
theorem dX11_body_16 : decode cX11_body 16 = .ok (.invokevirtual 328, 3) := by decide +kernel
theorem dX11_body_19 : decode cX11_body 19 = .ok (.goto 4, 3) := by decide +kernel
set_option maxHeartbeats 4000000 in
set_option maxRecDepth 100000 in
theorem c_body (l : Launch) (J : va_J9) (sz : Nat) (a : Nat → Nat) (x : Int32) : WC l J yX11_body cX11_body 2 (some .int) ({ frames := 1, cells := 0, slots := 0, locals := 21 }) [.ref (a 0), .int x] [((a 0), .inr (11, [.ref (a 1), .ref (a 6), .ref (a 10), .ref (a 15), .ref (a 17), .ref (a 22), .ref (a 23), .ref (a 30), .ref (a 31), .ref (a 34), .int 0, .ref (a 37), .ref (a 40)])), ((a 37), .inr (0, [.ref (a 38), .int 0, .ref (a 39), .int 0])), ((a 38), .inl (J.2.1, 50, .inl (fun _ => 0)))] sz (Qi J (fun (r : Int32) (_ : Unit) => r = sp_body (x.toInt)) (fun (_ : Unit) => [])) 0 0 := by
  refine wc_of (by decide) (Nat.le_of_ble_eq_true rfl) ?_
  intro p e s m below meth c ls A hE hl hP hK hD hS hA
  obtain ⟨hx, hb, hr, hml, hown, hts, hlk, hin⟩ := hE
  have hown : s.vm.findClass RX11 = some m.cls := hown
  have hl : lv_has ls 2 [(0, .ref (a 0)), (1, .int x)] := hl
  have rg_x := i_rng x
  refine lv_aload_n hx hb dX11_body_0 rfl (lv_at hl 0 rfl) ?_
  refine va_get (D := J.1) (ci := 11) (v := .ref (a 37)) (C := RX11) (T := TX11) (N := 13) hx hb hts inX11 hown hK.1 hP 0 rfl rfl 11 (by decide) (hts _ q_471) (fun _ h9 => h9) rfl dX11_body_1 ?_
  refine lv_iload_n hx hb dX11_body_4 rfl (lv_at hl 1 rfl) ?_
  refine go_i (rn_V (As := [.int x]) (rest := []) hx hb hml hown hts hK (cB_isKind l J (a 37) (a 38) (a 39) x) kV_RX11_325 (hP.sub (ws' := [((a 37), .inr (0, [.ref (a 38), .int 0, .ref (a 39), .int 0]))]) [1] rfl) rfl rfl rfl ⟨Nat.le_of_ble_eq_true rfl, Nat.le_of_ble_eq_true rfl⟩ rfl rfl rfl hl.1 rfl (Nat.le_of_ble_eq_true rfl) ⟨Nat.le_of_ble_eq_true rfl, Nat.le_of_ble_eq_true rfl⟩ dX11_body_5) ?_
  refine lv_if_eq (tgt := 22) hx hb dX11_body_8 (by decide) (fun c1 => ?_) (fun c1 => ?_)
  · have j2 := b0 c1
    refine lv_iconst (v := (-1)) hx hb dX11_body_22 (by decide) ?_
    exact wz_i () hx hb hr hlk (by unfold sp_body; (repeat' split) <;> first | rfl | (exfalso; omega)) (hP.sub (ws' := []) [] rfl) (hD.sub (ws' := []) [] (by decide) rfl) hS dX11_body_23
  · have j3 := b1 c1
    refine lv_aload_n hx hb dX11_body_11 rfl (lv_at hl 0 rfl) ?_
    refine va_get (D := J.1) (ci := 11) (v := .ref (a 37)) (C := RX11) (T := TX11) (N := 13) hx hb hts inX11 hown hK.1 hP 0 rfl rfl 11 (by decide) (hts _ q_471) (fun _ h9 => h9) rfl dX11_body_12 ?_
    refine lv_iload_n hx hb dX11_body_15 rfl (lv_at hl 1 rfl) ?_
    refine gw_i (wc := [((a 37), .inr (0, [.ref (a 38), .int 0, .ref (a 39), .int 0])), ((a 38), .inl (J.2.1, 50, .inl (fun _ => 0)))]) (wr := [((a 0), .inr (11, [.ref (a 1), .ref (a 6), .ref (a 10), .ref (a 15), .ref (a 17), .ref (a 22), .ref (a 23), .ref (a 30), .ref (a 31), .ref (a 34), .int 0, .ref (a 37), .ref (a 40)]))]) hP hD hS hA [1, 2] [0] rfl rfl (by decide) (by decide) (wn_V (As := [.int x]) (rest := []) hx hb hml hown hts hK (cB_add l J _ (a 37) (a 38) (a 39) x) kV_RX11_328 (hP.sub (ws' := [((a 37), .inr (0, [.ref (a 38), .int 0, .ref (a 39), .int 0])), ((a 38), .inl (J.2.1, 50, .inl (fun _ => 0)))]) [1, 2] rfl) ((hD.sub (ws' := [((a 37), .inr (0, [.ref (a 38), .int 0, .ref (a 39), .int 0])), ((a 38), .inl (J.2.1, 50, .inl (fun _ => 0)))]) [1, 2] (by decide) rfl).weaken (fun _ _ _ _ => trivial)) rfl rfl rfl ⟨Nat.le_of_ble_eq_true rfl, Nat.le_of_ble_eq_true rfl⟩ rfl rfl rfl hl.1 rfl (Nat.le_of_ble_eq_true rfl) ⟨Nat.le_of_ble_eq_true rfl, Nat.le_of_ble_eq_true rfl⟩ dX11_body_16) (fun r5 u4 H locs hw hP hD hS => ?_)
    subst hw
    have hP : va_P J.1 cls [((a 0), .inr (11, [.ref (a 1), .ref (a 6), .ref (a 10), .ref (a 15), .ref (a 17), .ref (a 22), .ref (a 23), .ref (a 30), .ref (a 31), .ref (a 34), .int 0, .ref (a 37), .ref (a 40)]))] H := hP
    have hD : va_D A [((a 0), .inr (11, [.ref (a 1), .ref (a 6), .ref (a 10), .ref (a 15), .ref (a 17), .ref (a 22), .ref (a 23), .ref (a 30), .ref (a 31), .ref (a 34), .int 0, .ref (a 37), .ref (a 40)]))] := hD
    refine W.widen (k := 0) (n := 0) (Nat.le_of_ble_eq_true rfl) (Nat.le_of_ble_eq_true rfl) ?_
    refine lv_goto (tgt := 23) hx hb dX11_body_19 (by decide) ?_
    exact wz_i () hx hb hr hlk (by unfold sp_body; (repeat' split) <;> first | rfl | (exfalso; omega)) (hP.sub (ws' := []) [] rfl) (hD.sub (ws' := []) [] (by decide) rfl) hS dX11_body_23
theorem dX11_act_0 : decode cX11_act 0 = .ok (.aload_n 0, 1) := by decide +kernel
theorem dX11_act_1 : decode cX11_act 1 = .ok (.getfield 84, 3) := by decide +kernel
theorem dX11_act_4 : decode cX11_act 4 = .ok (.iload_n 1, 1) := by decide +kernel
theorem dX11_act_5 : decode cX11_act 5 = .ok (.iload_n 2, 1) := by decide +kernel
theorem dX11_act_6 : decode cX11_act 6 = .ok (.iload_n 3, 1) := by decide +kernel
theorem q_1156 : Cond.methodLink RX11 331 yX0_perform ∈ lw_g := mem_q 1156 (by decide +kernel) rfl
theorem q_1157 : Cond.instanceMethod yX0_perform ∈ lw_g := mem_q 1157 (by decide +kernel) rfl
theorem q_1158 : Cond.selects RX0 yX0_perform yX0_perform ∈ lw_g := mem_q 1158 (by decide +kernel) rfl
theorem q_1159 : Cond.code yX0_perform cX0_perform 4 (some .int) ∈ lw_g := mem_q 1159 (by decide +kernel) rfl
theorem kV_RX11_331 : CV RX11 331 RX0 yX0_perform cX0_perform 4 (some .int) 3 := cv_of q_1156 q_1157 q_1158 q_113 q_1159 (by decide +kernel)
theorem dX11_act_7 : decode cX11_act 7 = .ok (.invokevirtual 331, 3) := by decide +kernel
theorem dX11_act_10 : decode cX11_act 10 = .ok (.ireturn, 1) := by decide +kernel
set_option maxHeartbeats 4000000 in
set_option maxRecDepth 100000 in
theorem c_act (l : Launch) (J : va_J9) (sz : Nat) (a : Nat → Nat) (x : Int32) (y : Int32) (k : Int32) : WC l J yX11_act cX11_act 4 (some .int) ({ frames := 2, cells := 0, slots := 0, locals := 44 }) [.ref (a 0), .int x, .int y, .int k] [((a 0), .inr (11, [.ref (a 1), .ref (a 6), .ref (a 10), .ref (a 15), .ref (a 17), .ref (a 22), .ref (a 23), .ref (a 30), .ref (a 31), .ref (a 34), .int 0, .ref (a 37), .ref (a 40)])), ((a 37), .inr (0, [.ref (a 38), .int 0, .ref (a 39), .int 0]))] sz (Qi J (fun (r : Int32) (_ : Unit) => r = 0) (fun (_ : Unit) => [])) 0 0 := by
  refine wc_of (by decide) (Nat.le_of_ble_eq_true rfl) ?_
  intro p e s m below meth c ls A hE hl hP hK hD hS hA
  obtain ⟨hx, hb, hr, hml, hown, hts, hlk, hin⟩ := hE
  have hown : s.vm.findClass RX11 = some m.cls := hown
  have hl : lv_has ls 4 [(0, .ref (a 0)), (1, .int x), (2, .int y), (3, .int k)] := hl
  have rg_x := i_rng x
  have rg_y := i_rng y
  have rg_k := i_rng k
  refine lv_aload_n hx hb dX11_act_0 rfl (lv_at hl 0 rfl) ?_
  refine va_get (D := J.1) (ci := 11) (v := .ref (a 37)) (C := RX11) (T := TX11) (N := 13) hx hb hts inX11 hown hK.1 hP 0 rfl rfl 11 (by decide) (hts _ q_471) (fun _ h9 => h9) rfl dX11_act_1 ?_
  refine lv_iload_n hx hb dX11_act_4 rfl (lv_at hl 1 rfl) ?_
  refine lv_iload_n hx hb dX11_act_5 rfl (lv_at hl 2 rfl) ?_
  refine lv_iload_n hx hb dX11_act_6 rfl (lv_at hl 3 rfl) ?_
  refine gw_i (wc := [((a 37), .inr (0, [.ref (a 38), .int 0, .ref (a 39), .int 0]))]) (wr := [((a 0), .inr (11, [.ref (a 1), .ref (a 6), .ref (a 10), .ref (a 15), .ref (a 17), .ref (a 22), .ref (a 23), .ref (a 30), .ref (a 31), .ref (a 34), .int 0, .ref (a 37), .ref (a 40)]))]) hP hD hS hA [1] [0] rfl rfl (by decide) (by decide) (wn_V (As := [.int x, .int y, .int k]) (rest := []) hx hb hml hown hts hK (cB_perform l J _ (a 37) (a 38) (a 39) x y k) kV_RX11_331 (hP.sub (ws' := [((a 37), .inr (0, [.ref (a 38), .int 0, .ref (a 39), .int 0]))]) [1] rfl) ((hD.sub (ws' := [((a 37), .inr (0, [.ref (a 38), .int 0, .ref (a 39), .int 0]))]) [1] (by decide) rfl).weaken (fun _ _ _ _ => trivial)) rfl rfl rfl ⟨Nat.le_of_ble_eq_true rfl, Nat.le_of_ble_eq_true rfl⟩ rfl rfl rfl hl.1 rfl (Nat.le_of_ble_eq_true rfl) ⟨Nat.le_of_ble_eq_true rfl, Nat.le_of_ble_eq_true rfl⟩ dX11_act_7) (fun r2 u1 H locs hw hP hD hS => ?_)
  subst hw
  have hP : va_P J.1 cls [((a 0), .inr (11, [.ref (a 1), .ref (a 6), .ref (a 10), .ref (a 15), .ref (a 17), .ref (a 22), .ref (a 23), .ref (a 30), .ref (a 31), .ref (a 34), .int 0, .ref (a 37), .ref (a 40)]))] H := hP
  have hD : va_D A [((a 0), .inr (11, [.ref (a 1), .ref (a 6), .ref (a 10), .ref (a 15), .ref (a 17), .ref (a 22), .ref (a 23), .ref (a 30), .ref (a 31), .ref (a 34), .int 0, .ref (a 37), .ref (a 40)]))] := hD
  refine W.widen (k := 0) (n := 0) (Nat.le_of_ble_eq_true rfl) (Nat.le_of_ble_eq_true rfl) ?_
  exact wz_i () hx hb hr hlk (by decide) (hP.sub (ws' := []) [] rfl) (hD.sub (ws' := []) [] (by decide) rfl) hS dX11_act_10
theorem dX11_trace_0 : decode cX11_trace 0 = .ok (.aload_n 0, 1) := by decide +kernel
theorem dX11_trace_1 : decode cX11_trace 1 = .ok (.getfield 84, 3) := by decide +kernel
theorem dX11_trace_4 : decode cX11_trace 4 = .ok (.iload_n 1, 1) := by decide +kernel
theorem q_1186 : Cond.methodLink RX11 334 yX0_ranAt ∈ lw_g := mem_q 1186 (by decide +kernel) rfl
theorem q_1187 : Cond.instanceMethod yX0_ranAt ∈ lw_g := mem_q 1187 (by decide +kernel) rfl
theorem q_1188 : Cond.selects RX0 yX0_ranAt yX0_ranAt ∈ lw_g := mem_q 1188 (by decide +kernel) rfl
theorem q_1189 : Cond.code yX0_ranAt cX0_ranAt 2 (some .int) ∈ lw_g := mem_q 1189 (by decide +kernel) rfl
theorem kV_RX11_334 : CV RX11 334 RX0 yX0_ranAt cX0_ranAt 2 (some .int) 1 := cv_of q_1186 q_1187 q_1188 q_113 q_1189 (by decide +kernel)
theorem dX11_trace_5 : decode cX11_trace 5 = .ok (.invokevirtual 334, 3) := by decide +kernel
theorem dX11_trace_8 : decode cX11_trace 8 = .ok (.ireturn, 1) := by decide +kernel
set_option maxHeartbeats 4000000 in
set_option maxRecDepth 100000 in
theorem c_trace (l : Launch) (J : va_J9) (a : Nat → Nat) (x : Int32) : RC l J yX11_trace cX11_trace 2 (some .int) ({ frames := 1, cells := 0, slots := 0, locals := 21 }) [.ref (a 0), .int x] [((a 0), .inr (11, [.ref (a 1), .ref (a 6), .ref (a 10), .ref (a 15), .ref (a 17), .ref (a 22), .ref (a 23), .ref (a 30), .ref (a 31), .ref (a 34), .int 0, .ref (a 37), .ref (a 40)])), ((a 37), .inr (0, [.ref (a 38), .int 0, .ref (a 39), .int 0]))] (vp_Si (fun r => r = (-1))) := by
  refine rc_of (by decide) (Nat.le_of_ble_eq_true rfl) ?_
  intro p e s m below meth c ls hE hl hP hK
  obtain ⟨hx, hb, hr, hml, hown, hts, hlk, hin⟩ := hE
  have hown : s.vm.findClass RX11 = some m.cls := hown
  have hl : lv_has ls 2 [(0, .ref (a 0)), (1, .int x)] := hl
  have rg_x := i_rng x
  refine lv_aload_n hx hb dX11_trace_0 rfl (lv_at hl 0 rfl) ?_
  refine va_get (D := J.1) (ci := 11) (v := .ref (a 37)) (C := RX11) (T := TX11) (N := 13) hx hb hts inX11 hown hK.1 hP 0 rfl rfl 11 (by decide) (hts _ q_471) (fun _ h9 => h9) rfl dX11_trace_1 ?_
  refine lv_iload_n hx hb dX11_trace_4 rfl (lv_at hl 1 rfl) ?_
  refine go_i (rn_V (As := [.int x]) (rest := []) hx hb hml hown hts hK (cB_ranAt l J (a 37) (a 38) (a 39) x) kV_RX11_334 (hP.sub (ws' := [((a 37), .inr (0, [.ref (a 38), .int 0, .ref (a 39), .int 0]))]) [1] rfl) rfl rfl rfl ⟨Nat.le_of_ble_eq_true rfl, Nat.le_of_ble_eq_true rfl⟩ rfl rfl rfl hl.1 rfl (Nat.le_of_ble_eq_true rfl) ⟨Nat.le_of_ble_eq_true rfl, Nat.le_of_ble_eq_true rfl⟩ dX11_trace_5) ?_
  exact rz_i hx hb hr hlk (by decide) dX11_trace_8
theorem dX11_keep_0 : decode cX11_keep 0 = .ok (.aload_n 0, 1) := by decide +kernel
theorem dX11_keep_1 : decode cX11_keep 1 = .ok (.iload_n 1, 1) := by decide +kernel
theorem dX11_keep_2 : decode cX11_keep 2 = .ok (.invokevirtual 106, 3) := by decide +kernel
theorem dX11_keep_5 : decode cX11_keep 5 = .ok (.astore_n 3, 1) := by decide +kernel
theorem dX11_keep_6 : decode cX11_keep 6 = .ok (.aload_n 3, 1) := by decide +kernel
theorem dX11_keep_7 : decode cX11_keep 7 = .ok (.ifnull 19, 3) := by decide +kernel
theorem dX11_keep_10 : decode cX11_keep 10 = .ok (.iload_n 2, 1) := by decide +kernel
theorem dX11_keep_11 : decode cX11_keep 11 = .ok (.iconst (-1), 1) := by decide +kernel
theorem dX11_keep_12 : decode cX11_keep 12 = .ok (.if_icmp .eq 16, 3) := by decide +kernel
theorem dX11_keep_28 : decode cX11_keep 28 = .ok (.iload_n 2, 1) := by decide +kernel
theorem dX11_keep_29 : decode cX11_keep 29 = .ok (.iconst (-1), 1) := by decide +kernel
theorem dX11_keep_30 : decode cX11_keep 30 = .ok (.if_icmp .ne 10, 3) := by decide +kernel
theorem dX11_keep_33 : decode cX11_keep 33 = .ok (.aload_n 3, 1) := by decide +kernel
theorem q_1195 : Cond.methodLink RX11 340 yX9_clear ∈ lw_g := mem_q 1195 (by decide +kernel) rfl
theorem q_1196 : Cond.instanceMethod yX9_clear ∈ lw_g := mem_q 1196 (by decide +kernel) rfl
theorem q_1197 : Cond.selects RX9 yX9_clear yX9_clear ∈ lw_g := mem_q 1197 (by decide +kernel) rfl
theorem q_1198 : Cond.code yX9_clear cX9_clear 1 none ∈ lw_g := mem_q 1198 (by decide +kernel) rfl
theorem kV_RX11_340 : CV RX11 340 RX9 yX9_clear cX9_clear 1 none 0 := cv_of q_1195 q_1196 q_1197 q_114 q_1198 (by decide +kernel)
theorem dX11_keep_34 : decode cX11_keep 34 = .ok (.invokevirtual 340, 3) := by decide +kernel
theorem dX11_keep_37 : decode cX11_keep 37 = .ok (.goto 8, 3) := by decide +kernel
theorem dX11_keep_45 : decode cX11_keep 45 = .ok (.iconst 1, 1) := by decide +kernel
theorem dX11_keep_46 : decode cX11_keep 46 = .ok (.ireturn, 1) := by decide +kernel
theorem dX11_keep_15 : decode cX11_keep 15 = .ok (.aload_n 0, 1) := by decide +kernel
theorem dX11_keep_16 : decode cX11_keep 16 = .ok (.getfield 84, 3) := by decide +kernel
theorem dX11_keep_19 : decode cX11_keep 19 = .ok (.iload_n 2, 1) := by decide +kernel
theorem q_1194 : Cond.methodLink RX11 337 yX0_isBody ∈ lw_g := mem_q 1194 (by decide +kernel) rfl
theorem kV_RX11_337 : CV RX11 337 RX0 yX0_isBody cX0_isBody 2 (some .boolean) 1 := cv_of q_1194 q_1161 q_1162 q_113 q_1163 (by decide +kernel)
theorem dX11_keep_20 : decode cX11_keep 20 = .ok (.invokevirtual 337, 3) := by decide +kernel
theorem dX11_keep_23 : decode cX11_keep 23 = .ok (.ifCond .ne 5, 3) := by decide +kernel
theorem dX11_keep_26 : decode cX11_keep 26 = .ok (.iconst (-1), 1) := by decide +kernel
theorem dX11_keep_27 : decode cX11_keep 27 = .ok (.ireturn, 1) := by decide +kernel
set_option maxHeartbeats 4000000 in
set_option maxRecDepth 100000 in
theorem c_keep_in (l : Launch) (J : va_J9) (sz : Nat) (a : Nat → Nat) (f : Nat → Option Nat) (sh : Nat) (ce : Nat) (d : Int32) (k : Int32) (hd : 0 ≤ d.toInt ∧ d.toInt ≤ 5) (hf : f d.toNatClampNeg = some sh) : WC l J yX11_keep cX11_keep 4 (some .int) ({ frames := 1, cells := 0, slots := 0, locals := 21 }) [.ref (a 0), .int d, .int k] [((a 0), .inr (11, [.ref (a 1), .ref (a 6), .ref (a 10), .ref (a 15), .ref (a 17), .ref (a 22), .ref (a 23), .ref (a 30), .ref (a 31), .ref (a 34), .int 0, .ref (a 37), .ref (a 40)])), ((a 40), .inl (J.2.2.2, 6, .inr (.inr (.inr (.inr f))))), (sh, .inr (9, [.ref ce, .int 0, .int 0, .int 0, .int 0])), ((a 37), .inr (0, [.ref (a 38), .int 0, .ref (a 39), .int 0]))] sz (Qi J (fun (r : Int32) (_ : Unit) => r = sp_keep (d.toInt) (k.toInt)) (fun (_ : Unit) => [])) 0 0 := by
  refine wc_of (by decide) (Nat.le_of_ble_eq_true rfl) ?_
  intro p e s m below meth c ls A hE hl hP hK hD hS hA
  obtain ⟨hx, hb, hr, hml, hown, hts, hlk, hin⟩ := hE
  have hown : s.vm.findClass RX11 = some m.cls := hown
  have hl : lv_has ls 4 [(0, .ref (a 0)), (1, .int d), (2, .int k)] := hl
  have rg_d := i_rng d
  have rg_k := i_rng k
  refine lv_aload_n hx hb dX11_keep_0 rfl (lv_at hl 0 rfl) ?_
  refine lv_iload_n hx hb dX11_keep_1 rfl (lv_at hl 1 rfl) ?_
  refine go_a (rn_V (As := [.int d]) (rest := []) hx hb hml hown hts hK (cF_shelfIn l J a f sh d ⟨by omega, by omega⟩ hf) kV_RX11_106 (hP.sub (ws' := [((a 0), .inr (11, [.ref (a 1), .ref (a 6), .ref (a 10), .ref (a 15), .ref (a 17), .ref (a 22), .ref (a 23), .ref (a 30), .ref (a 31), .ref (a 34), .int 0, .ref (a 37), .ref (a 40)])), ((a 40), .inl (J.2.2.2, 6, .inr (.inr (.inr (.inr f)))))]) [0, 1] rfl) rfl rfl rfl ⟨Nat.le_of_ble_eq_true rfl, Nat.le_of_ble_eq_true rfl⟩ rfl rfl rfl hl.1 rfl (Nat.le_of_ble_eq_true rfl) ⟨Nat.le_of_ble_eq_true rfl, Nat.le_of_ble_eq_true rfl⟩ dX11_keep_2) ?_
  refine top_q (y := sh) rfl ?_
  refine lv_astore_n (lv' := [(3, .ref sh), (0, .ref (a 0)), (1, .int d), (2, .int k)]) hx hb dX11_keep_5 rfl hl (by decide) rfl (fun ls hl => ?_)
  refine lv_aload_n hx hb dX11_keep_6 rfl (lv_at hl 0 rfl) ?_
  refine lv_ifnull hx hb dX11_keep_7 ?_
  refine lv_iload_n hx hb dX11_keep_10 rfl (lv_at hl 3 rfl) ?_
  refine lv_iconst (v := (-1)) hx hb dX11_keep_11 (by decide) ?_
  refine lv_icmp_eq (tgt := 28) hx hb dX11_keep_12 (by decide) (fun c1 => ?_) (fun c1 => ?_)
  · have j2 : k.toInt = (-1) := (i_eq rfl (by decide)).mp c1
    refine lv_iload_n hx hb dX11_keep_28 rfl (lv_at hl 3 rfl) ?_
    refine top_i (y := (-1)) c1 ?_
    refine lv_iconst (v := (-1)) hx hb dX11_keep_29 (by decide) ?_
    refine lv_icmp_ne (tgt := 40) hx hb dX11_keep_30 (by decide) (fun c => absurd c (by decide)) (fun _ => ?_)
    refine lv_aload_n hx hb dX11_keep_33 rfl (lv_at hl 0 rfl) ?_
    refine gw_v (wc := [(sh, .inr (9, [.ref ce, .int 0, .int 0, .int 0, .int 0]))]) (wr := [((a 0), .inr (11, [.ref (a 1), .ref (a 6), .ref (a 10), .ref (a 15), .ref (a 17), .ref (a 22), .ref (a 23), .ref (a 30), .ref (a 31), .ref (a 34), .int 0, .ref (a 37), .ref (a 40)])), ((a 40), .inl (J.2.2.2, 6, .inr (.inr (.inr (.inr f))))), ((a 37), .inr (0, [.ref (a 38), .int 0, .ref (a 39), .int 0]))]) hP hD hS hA [2] [0, 1, 3] rfl rfl (by decide) (by decide) (wn_V (As := []) (rest := []) hx hb hml hown hts hK (cS_clear l J _ sh ce) kV_RX11_340 (hP.sub (ws' := [(sh, .inr (9, [.ref ce, .int 0, .int 0, .int 0, .int 0]))]) [2] rfl) ((hD.sub (ws' := [(sh, .inr (9, [.ref ce, .int 0, .int 0, .int 0, .int 0]))]) [2] (by decide) rfl).weaken (fun _ _ _ _ => trivial)) rfl rfl rfl ⟨Nat.le_of_ble_eq_true rfl, Nat.le_of_ble_eq_true rfl⟩ rfl rfl rfl hl.1 rfl (Nat.le_of_ble_eq_true rfl) ⟨Nat.le_of_ble_eq_true rfl, Nat.le_of_ble_eq_true rfl⟩ dX11_keep_34) (fun u3 H locs hw hP hD hS => ?_)
    have hP : va_P J.1 cls [((a 0), .inr (11, [.ref (a 1), .ref (a 6), .ref (a 10), .ref (a 15), .ref (a 17), .ref (a 22), .ref (a 23), .ref (a 30), .ref (a 31), .ref (a 34), .int 0, .ref (a 37), .ref (a 40)])), ((a 40), .inl (J.2.2.2, 6, .inr (.inr (.inr (.inr f))))), ((a 37), .inr (0, [.ref (a 38), .int 0, .ref (a 39), .int 0]))] H := hP
    have hD : va_D A [((a 0), .inr (11, [.ref (a 1), .ref (a 6), .ref (a 10), .ref (a 15), .ref (a 17), .ref (a 22), .ref (a 23), .ref (a 30), .ref (a 31), .ref (a 34), .int 0, .ref (a 37), .ref (a 40)])), ((a 40), .inl (J.2.2.2, 6, .inr (.inr (.inr (.inr f))))), ((a 37), .inr (0, [.ref (a 38), .int 0, .ref (a 39), .int 0]))] := hD
    refine W.widen (k := 0) (n := 0) (Nat.le_of_ble_eq_true rfl) (Nat.le_of_ble_eq_true rfl) ?_
    refine lv_goto (tgt := 45) hx hb dX11_keep_37 (by decide) ?_
    refine lv_iconst (v := 1) hx hb dX11_keep_45 (by decide) ?_
    exact wz_i () hx hb hr hlk (by unfold sp_keep; (repeat' split) <;> first | rfl | (exfalso; omega)) (hP.sub (ws' := []) [] rfl) (hD.sub (ws' := []) [] (by decide) rfl) hS dX11_keep_46
  · have j4 : ¬ (k.toInt = (-1)) := fun h => c1 ((i_eq rfl (by decide)).mpr h)
    refine lv_aload_n hx hb dX11_keep_15 rfl (lv_at hl 1 rfl) ?_
    refine va_get (D := J.1) (ci := 11) (v := .ref (a 37)) (C := RX11) (T := TX11) (N := 13) hx hb hts inX11 hown hK.1 hP 0 rfl rfl 11 (by decide) (hts _ q_471) (fun _ h9 => h9) rfl dX11_keep_16 ?_
    refine lv_iload_n hx hb dX11_keep_19 rfl (lv_at hl 3 rfl) ?_
    refine go_i (rn_V (As := [.int k]) (rest := []) hx hb hml hown hts hK (cB_isBody l J (a 37) (a 38) (a 39) k) kV_RX11_337 (hP.sub (ws' := [((a 37), .inr (0, [.ref (a 38), .int 0, .ref (a 39), .int 0]))]) [3] rfl) rfl rfl rfl ⟨Nat.le_of_ble_eq_true rfl, Nat.le_of_ble_eq_true rfl⟩ rfl rfl rfl hl.1 rfl (Nat.le_of_ble_eq_true rfl) ⟨Nat.le_of_ble_eq_true rfl, Nat.le_of_ble_eq_true rfl⟩ dX11_keep_20) ?_
    refine lv_if_ne (tgt := 28) hx hb dX11_keep_23 (by decide) (fun c => absurd c (by decide)) (fun _ => ?_)
    refine lv_iconst (v := (-1)) hx hb dX11_keep_26 (by decide) ?_
    exact wz_i () hx hb hr hlk (by unfold sp_keep; (repeat' split) <;> first | rfl | (exfalso; omega)) (hP.sub (ws' := []) [] rfl) (hD.sub (ws' := []) [] (by decide) rfl) hS dX11_keep_27
set_option maxHeartbeats 4000000 in
set_option maxRecDepth 100000 in
theorem c_keep_out (l : Launch) (J : va_J9) (a : Nat → Nat) (d : Int32) (k : Int32) (hd : ¬ (0 ≤ d.toInt ∧ d.toInt ≤ 5)) : RC l J yX11_keep cX11_keep 4 (some .int) ({ frames := 1, cells := 0, slots := 0, locals := 21 }) [.ref (a 0), .int d, .int k] [((a 0), .inr (11, [.ref (a 1), .ref (a 6), .ref (a 10), .ref (a 15), .ref (a 17), .ref (a 22), .ref (a 23), .ref (a 30), .ref (a 31), .ref (a 34), .int 0, .ref (a 37), .ref (a 40)]))] (vp_Si (fun r => r = sp_keep (d.toInt) (k.toInt))) := by
  refine rc_of (by decide) (Nat.le_of_ble_eq_true rfl) ?_
  intro p e s m below meth c ls hE hl hP hK
  obtain ⟨hx, hb, hr, hml, hown, hts, hlk, hin⟩ := hE
  have hown : s.vm.findClass RX11 = some m.cls := hown
  have hl : lv_has ls 4 [(0, .ref (a 0)), (1, .int d), (2, .int k)] := hl
  have rg_d := i_rng d
  have rg_k := i_rng k
  refine lv_aload_n hx hb dX11_keep_0 rfl (lv_at hl 0 rfl) ?_
  refine lv_iload_n hx hb dX11_keep_1 rfl (lv_at hl 1 rfl) ?_
  refine go_a (rn_V (As := [.int d]) (rest := []) hx hb hml hown hts hK (cF_shelfOut l J a d (by omega)) kV_RX11_106 hP rfl rfl rfl ⟨Nat.le_of_ble_eq_true rfl, Nat.le_of_ble_eq_true rfl⟩ rfl rfl rfl hl.1 rfl (Nat.le_of_ble_eq_true rfl) ⟨Nat.le_of_ble_eq_true rfl, Nat.le_of_ble_eq_true rfl⟩ dX11_keep_2) ?_
  refine top_n rfl ?_
  refine lv_astore_nN (lv' := [(3, .null), (0, .ref (a 0)), (1, .int d), (2, .int k)]) hx hb dX11_keep_5 rfl hl (by decide) rfl (fun ls hl => ?_)
  refine lv_aload_nN hx hb dX11_keep_6 rfl (lv_at hl 0 rfl) ?_
  refine lv_ifnullN (tgt := 26) hx hb dX11_keep_7 (by decide) ?_
  refine lv_iconst (v := (-1)) hx hb dX11_keep_26 (by decide) ?_
  exact rz_i hx hb hr hlk (by unfold sp_keep; (repeat' split) <;> first | rfl | (exfalso; omega)) dX11_keep_27
theorem dX11_row_0 : decode cX11_row 0 = .ok (.aload_n 0, 1) := by decide +kernel
theorem dX11_row_1 : decode cX11_row 1 = .ok (.iload_n 1, 1) := by decide +kernel
theorem dX11_row_2 : decode cX11_row 2 = .ok (.invokevirtual 106, 3) := by decide +kernel
theorem dX11_row_5 : decode cX11_row 5 = .ok (.astore 4, 2) := by decide +kernel
theorem dX11_row_7 : decode cX11_row 7 = .ok (.aload 4, 2) := by decide +kernel
theorem dX11_row_9 : decode cX11_row 9 = .ok (.ifnull 18, 3) := by decide +kernel
theorem dX11_row_12 : decode cX11_row 12 = .ok (.iload_n 2, 1) := by decide +kernel
theorem dX11_row_13 : decode cX11_row 13 = .ok (.ifCond .lt 14, 3) := by decide +kernel
theorem dX11_row_27 : decode cX11_row 27 = .ok (.iconst (-1), 1) := by decide +kernel
theorem dX11_row_28 : decode cX11_row 28 = .ok (.ireturn, 1) := by decide +kernel
theorem dX11_row_16 : decode cX11_row 16 = .ok (.iload_n 2, 1) := by decide +kernel
theorem dX11_row_17 : decode cX11_row 17 = .ok (.iconst 5, 1) := by decide +kernel
theorem dX11_row_18 : decode cX11_row 18 = .ok (.if_icmp .ge 9, 3) := by decide +kernel
theorem dX11_row_21 : decode cX11_row 21 = .ok (.iload_n 3, 1) := by decide +kernel
theorem dX11_row_22 : decode cX11_row 22 = .ok (.bipush 60, 2) := by decide +kernel
theorem dX11_row_24 : decode cX11_row 24 = .ok (.if_icmp .le 5, 3) := by decide +kernel
theorem dX11_row_29 : decode cX11_row 29 = .ok (.iload_n 3, 1) := by decide +kernel
theorem dX11_row_30 : decode cX11_row 30 = .ok (.ifCond .ge 6, 3) := by decide +kernel
theorem dX11_row_36 : decode cX11_row 36 = .ok (.aload 4, 2) := by decide +kernel
theorem dX11_row_38 : decode cX11_row 38 = .ok (.iload_n 2, 1) := by decide +kernel
theorem dX11_row_39 : decode cX11_row 39 = .ok (.iload_n 3, 1) := by decide +kernel
theorem q_1207 : Cond.methodLink RX11 346 yX9_holdRow ∈ lw_g := mem_q 1207 (by decide +kernel) rfl
theorem q_1208 : Cond.instanceMethod yX9_holdRow ∈ lw_g := mem_q 1208 (by decide +kernel) rfl
theorem q_1209 : Cond.selects RX9 yX9_holdRow yX9_holdRow ∈ lw_g := mem_q 1209 (by decide +kernel) rfl
theorem q_1210 : Cond.code yX9_holdRow cX9_holdRow 4 none ∈ lw_g := mem_q 1210 (by decide +kernel) rfl
theorem kV_RX11_346 : CV RX11 346 RX9 yX9_holdRow cX9_holdRow 4 none 2 := cv_of q_1207 q_1208 q_1209 q_114 q_1210 (by decide +kernel)
theorem dX11_row_40 : decode cX11_row 40 = .ok (.invokevirtual 346, 3) := by decide +kernel
theorem dX11_row_43 : decode cX11_row 43 = .ok (.iconst 1, 1) := by decide +kernel
theorem dX11_row_44 : decode cX11_row 44 = .ok (.ireturn, 1) := by decide +kernel
theorem dX11_row_33 : decode cX11_row 33 = .ok (.bipush (-14), 2) := by decide +kernel
theorem dX11_row_35 : decode cX11_row 35 = .ok (.ireturn, 1) := by decide +kernel
set_option maxHeartbeats 4000000 in
set_option maxRecDepth 100000 in
theorem c_row_in (l : Launch) (J : va_J9) (sz : Nat) (a : Nat → Nat) (f : Nat → Option Nat) (sh : Nat) (ce : Nat) (d : Int32) (k : Int32) (n : Int32) (hd : 0 ≤ d.toInt ∧ d.toInt ≤ 5) (hf : f d.toNatClampNeg = some sh) : WC l J yX11_row cX11_row 5 (some .int) ({ frames := 1, cells := 0, slots := 0, locals := 23 }) [.ref (a 0), .int d, .int k, .int n] [((a 0), .inr (11, [.ref (a 1), .ref (a 6), .ref (a 10), .ref (a 15), .ref (a 17), .ref (a 22), .ref (a 23), .ref (a 30), .ref (a 31), .ref (a 34), .int 0, .ref (a 37), .ref (a 40)])), ((a 40), .inl (J.2.2.2, 6, .inr (.inr (.inr (.inr f))))), (sh, .inr (9, [.ref ce, .int 0, .int 0, .int 0, .int 0])), (ce, .inl (J.2.2.1, 60, .inr (.inl (fun _ => 0))))] sz (Qi J (fun (r : Int32) (_ : Unit) => r = sp_row (d.toInt) (k.toInt) (n.toInt)) (fun (_ : Unit) => [])) 0 0 := by
  refine wc_of (by decide) (Nat.le_of_ble_eq_true rfl) ?_
  intro p e s m below meth c ls A hE hl hP hK hD hS hA
  obtain ⟨hx, hb, hr, hml, hown, hts, hlk, hin⟩ := hE
  have hown : s.vm.findClass RX11 = some m.cls := hown
  have hl : lv_has ls 5 [(0, .ref (a 0)), (1, .int d), (2, .int k), (3, .int n)] := hl
  have rg_d := i_rng d
  have rg_k := i_rng k
  have rg_n := i_rng n
  refine lv_aload_n hx hb dX11_row_0 rfl (lv_at hl 0 rfl) ?_
  refine lv_iload_n hx hb dX11_row_1 rfl (lv_at hl 1 rfl) ?_
  refine go_a (rn_V (As := [.int d]) (rest := []) hx hb hml hown hts hK (cF_shelfIn l J a f sh d ⟨by omega, by omega⟩ hf) kV_RX11_106 (hP.sub (ws' := [((a 0), .inr (11, [.ref (a 1), .ref (a 6), .ref (a 10), .ref (a 15), .ref (a 17), .ref (a 22), .ref (a 23), .ref (a 30), .ref (a 31), .ref (a 34), .int 0, .ref (a 37), .ref (a 40)])), ((a 40), .inl (J.2.2.2, 6, .inr (.inr (.inr (.inr f)))))]) [0, 1] rfl) rfl rfl rfl ⟨Nat.le_of_ble_eq_true rfl, Nat.le_of_ble_eq_true rfl⟩ rfl rfl rfl hl.1 rfl (Nat.le_of_ble_eq_true rfl) ⟨Nat.le_of_ble_eq_true rfl, Nat.le_of_ble_eq_true rfl⟩ dX11_row_2) ?_
  refine top_q (y := sh) rfl ?_
  refine lv_astore (lv' := [(4, .ref sh), (0, .ref (a 0)), (1, .int d), (2, .int k), (3, .int n)]) hx hb dX11_row_5 hl (by decide) rfl (fun ls hl => ?_)
  refine lv_aload hx hb dX11_row_7 (lv_at hl 0 rfl) ?_
  refine lv_ifnull hx hb dX11_row_9 ?_
  refine lv_iload_n hx hb dX11_row_12 rfl (lv_at hl 3 rfl) ?_
  refine lv_if_lt (tgt := 27) hx hb dX11_row_13 (by decide) (fun c1 => ?_) (fun c1 => ?_)
  · have j2 : k.toInt < 0 := (i_lt rfl (by decide)).mp c1
    refine lv_iconst (v := (-1)) hx hb dX11_row_27 (by decide) ?_
    exact wz_i () hx hb hr hlk (by unfold sp_row; (repeat' split) <;> first | rfl | (exfalso; omega)) (hP.sub (ws' := []) [] rfl) (hD.sub (ws' := []) [] (by decide) rfl) hS dX11_row_28
  · have j3 : ¬ (k.toInt < 0) := fun h => c1 ((i_lt rfl (by decide)).mpr h)
    refine lv_iload_n hx hb dX11_row_16 rfl (lv_at hl 3 rfl) ?_
    refine lv_iconst (v := 5) hx hb dX11_row_17 (by decide) ?_
    refine lv_icmp_ge (tgt := 27) hx hb dX11_row_18 (by decide) (fun c4 => ?_) (fun c4 => ?_)
    · have j5 : 5 ≤ k.toInt := (i_le (by decide) rfl).mp c4
      refine lv_iconst (v := (-1)) hx hb dX11_row_27 (by decide) ?_
      exact wz_i () hx hb hr hlk (by unfold sp_row; (repeat' split) <;> first | rfl | (exfalso; omega)) (hP.sub (ws' := []) [] rfl) (hD.sub (ws' := []) [] (by decide) rfl) hS dX11_row_28
    · have j6 : ¬ (5 ≤ k.toInt) := fun h => c4 ((i_le (by decide) rfl).mpr h)
      refine lv_iload_n hx hb dX11_row_21 rfl (lv_at hl 4 rfl) ?_
      refine lv_bipush (v := 60) hx hb dX11_row_22 (by decide) ?_
      refine lv_icmp_le (tgt := 29) hx hb dX11_row_24 (by decide) (fun c7 => ?_) (fun c7 => ?_)
      · have j8 : n.toInt ≤ 60 := (i_le rfl (by decide)).mp c7
        refine lv_iload_n hx hb dX11_row_29 rfl (lv_at hl 4 rfl) ?_
        refine lv_if_ge (tgt := 36) hx hb dX11_row_30 (by decide) (fun c9 => ?_) (fun c9 => ?_)
        · have j10 : 0 ≤ n.toInt := (i_le (by decide) rfl).mp c9
          refine lv_aload hx hb dX11_row_36 (lv_at hl 0 rfl) ?_
          refine lv_iload_n hx hb dX11_row_38 rfl (lv_at hl 3 rfl) ?_
          refine lv_iload_n hx hb dX11_row_39 rfl (lv_at hl 4 rfl) ?_
          refine gw_v (wc := [(sh, .inr (9, [.ref ce, .int 0, .int 0, .int 0, .int 0])), (ce, .inl (J.2.2.1, 60, .inr (.inl (fun _ => 0))))]) (wr := [((a 0), .inr (11, [.ref (a 1), .ref (a 6), .ref (a 10), .ref (a 15), .ref (a 17), .ref (a 22), .ref (a 23), .ref (a 30), .ref (a 31), .ref (a 34), .int 0, .ref (a 37), .ref (a 40)])), ((a 40), .inl (J.2.2.2, 6, .inr (.inr (.inr (.inr f)))))]) hP hD hS hA [2, 3] [0, 1] rfl rfl (by decide) (by decide) (wn_V (As := [.int k, .int n]) (rest := []) hx hb hml hown hts hK (cS_holdRow l J _ sh ce k n) kV_RX11_346 (hP.sub (ws' := [(sh, .inr (9, [.ref ce, .int 0, .int 0, .int 0, .int 0])), (ce, .inl (J.2.2.1, 60, .inr (.inl (fun _ => 0))))]) [2, 3] rfl) ((hD.sub (ws' := [(sh, .inr (9, [.ref ce, .int 0, .int 0, .int 0, .int 0])), (ce, .inl (J.2.2.1, 60, .inr (.inl (fun _ => 0))))]) [2, 3] (by decide) rfl).weaken (fun _ _ _ _ => trivial)) rfl rfl rfl ⟨Nat.le_of_ble_eq_true rfl, Nat.le_of_ble_eq_true rfl⟩ rfl rfl rfl hl.1 rfl (Nat.le_of_ble_eq_true rfl) ⟨Nat.le_of_ble_eq_true rfl, Nat.le_of_ble_eq_true rfl⟩ dX11_row_40) (fun u11 H locs hw hP hD hS => ?_)
          have hP : va_P J.1 cls [((a 0), .inr (11, [.ref (a 1), .ref (a 6), .ref (a 10), .ref (a 15), .ref (a 17), .ref (a 22), .ref (a 23), .ref (a 30), .ref (a 31), .ref (a 34), .int 0, .ref (a 37), .ref (a 40)])), ((a 40), .inl (J.2.2.2, 6, .inr (.inr (.inr (.inr f)))))] H := hP
          have hD : va_D A [((a 0), .inr (11, [.ref (a 1), .ref (a 6), .ref (a 10), .ref (a 15), .ref (a 17), .ref (a 22), .ref (a 23), .ref (a 30), .ref (a 31), .ref (a 34), .int 0, .ref (a 37), .ref (a 40)])), ((a 40), .inl (J.2.2.2, 6, .inr (.inr (.inr (.inr f)))))] := hD
          refine W.widen (k := 0) (n := 0) (Nat.le_of_ble_eq_true rfl) (Nat.le_of_ble_eq_true rfl) ?_
          refine lv_iconst (v := 1) hx hb dX11_row_43 (by decide) ?_
          exact wz_i () hx hb hr hlk (by unfold sp_row; (repeat' split) <;> first | rfl | (exfalso; omega)) (hP.sub (ws' := []) [] rfl) (hD.sub (ws' := []) [] (by decide) rfl) hS dX11_row_44
        · have j12 : ¬ (0 ≤ n.toInt) := fun h => c9 ((i_le (by decide) rfl).mpr h)
          refine lv_bipush (v := (-14)) hx hb dX11_row_33 (by decide) ?_
          exact wz_i () hx hb hr hlk (by unfold sp_row; (repeat' split) <;> first | rfl | (exfalso; omega)) (hP.sub (ws' := []) [] rfl) (hD.sub (ws' := []) [] (by decide) rfl) hS dX11_row_35
      · have j13 : ¬ (n.toInt ≤ 60) := fun h => c7 ((i_le rfl (by decide)).mpr h)
        refine lv_iconst (v := (-1)) hx hb dX11_row_27 (by decide) ?_
        exact wz_i () hx hb hr hlk (by unfold sp_row; (repeat' split) <;> first | rfl | (exfalso; omega)) (hP.sub (ws' := []) [] rfl) (hD.sub (ws' := []) [] (by decide) rfl) hS dX11_row_28
set_option maxHeartbeats 4000000 in
set_option maxRecDepth 100000 in
theorem c_row_out (l : Launch) (J : va_J9) (a : Nat → Nat) (d : Int32) (k : Int32) (n : Int32) (hd : ¬ (0 ≤ d.toInt ∧ d.toInt ≤ 5)) : RC l J yX11_row cX11_row 5 (some .int) ({ frames := 1, cells := 0, slots := 0, locals := 21 }) [.ref (a 0), .int d, .int k, .int n] [((a 0), .inr (11, [.ref (a 1), .ref (a 6), .ref (a 10), .ref (a 15), .ref (a 17), .ref (a 22), .ref (a 23), .ref (a 30), .ref (a 31), .ref (a 34), .int 0, .ref (a 37), .ref (a 40)]))] (vp_Si (fun r => r = sp_row (d.toInt) (k.toInt) (n.toInt))) := by
  refine rc_of (by decide) (Nat.le_of_ble_eq_true rfl) ?_
  intro p e s m below meth c ls hE hl hP hK
  obtain ⟨hx, hb, hr, hml, hown, hts, hlk, hin⟩ := hE
  have hown : s.vm.findClass RX11 = some m.cls := hown
  have hl : lv_has ls 5 [(0, .ref (a 0)), (1, .int d), (2, .int k), (3, .int n)] := hl
  have rg_d := i_rng d
  have rg_k := i_rng k
  have rg_n := i_rng n
  refine lv_aload_n hx hb dX11_row_0 rfl (lv_at hl 0 rfl) ?_
  refine lv_iload_n hx hb dX11_row_1 rfl (lv_at hl 1 rfl) ?_
  refine go_a (rn_V (As := [.int d]) (rest := []) hx hb hml hown hts hK (cF_shelfOut l J a d (by omega)) kV_RX11_106 hP rfl rfl rfl ⟨Nat.le_of_ble_eq_true rfl, Nat.le_of_ble_eq_true rfl⟩ rfl rfl rfl hl.1 rfl (Nat.le_of_ble_eq_true rfl) ⟨Nat.le_of_ble_eq_true rfl, Nat.le_of_ble_eq_true rfl⟩ dX11_row_2) ?_
  refine top_n rfl ?_
  refine lv_astoreN (lv' := [(4, .null), (0, .ref (a 0)), (1, .int d), (2, .int k), (3, .int n)]) hx hb dX11_row_5 hl (by decide) rfl (fun ls hl => ?_)
  refine lv_aloadN hx hb dX11_row_7 (lv_at hl 0 rfl) ?_
  refine lv_ifnullN (tgt := 27) hx hb dX11_row_9 (by decide) ?_
  refine lv_iconst (v := (-1)) hx hb dX11_row_27 (by decide) ?_
  exact rz_i hx hb hr hlk (by unfold sp_row; (repeat' split) <;> first | rfl | (exfalso; omega)) dX11_row_28
theorem dX11_put_0 : decode cX11_put 0 = .ok (.aload_n 0, 1) := by decide +kernel
theorem dX11_put_1 : decode cX11_put 1 = .ok (.iload_n 1, 1) := by decide +kernel
theorem dX11_put_2 : decode cX11_put 2 = .ok (.invokevirtual 106, 3) := by decide +kernel
theorem dX11_put_5 : decode cX11_put 5 = .ok (.astore 5, 2) := by decide +kernel
theorem dX11_put_7 : decode cX11_put 7 = .ok (.aload 5, 2) := by decide +kernel
theorem dX11_put_9 : decode cX11_put 9 = .ok (.ifnonnull 5, 3) := by decide +kernel
theorem dX11_put_14 : decode cX11_put 14 = .ok (.aload 5, 2) := by decide +kernel
theorem dX11_put_16 : decode cX11_put 16 = .ok (.iload_n 2, 1) := by decide +kernel
theorem q_1215 : Cond.methodLink RX11 350 yX11_refusalOfPlace ∈ lw_g := mem_q 1215 (by decide +kernel) rfl
theorem q_1216 : Cond.static yX11_refusalOfPlace ∈ lw_g := mem_q 1216 (by decide +kernel) rfl
theorem q_1217 : Cond.code yX11_refusalOfPlace cX11_refusalOfPlace 2 (some .int) ∈ lw_g := mem_q 1217 (by decide +kernel) rfl
theorem kS_RX11_350 : CS RX11 350 yX11_refusalOfPlace cX11_refusalOfPlace 2 (some .int) 2 := cs_of q_1215 q_1216 q_103 q_1217 (by decide +kernel)
theorem dX11_put_17 : decode cX11_put 17 = .ok (.invokestatic 350, 3) := by decide +kernel
theorem dX11_put_20 : decode cX11_put 20 = .ok (.istore 6, 2) := by decide +kernel
theorem dX11_put_22 : decode cX11_put 22 = .ok (.iload 6, 2) := by decide +kernel
theorem dX11_put_24 : decode cX11_put 24 = .ok (.ifCond .eq 6, 3) := by decide +kernel
theorem dX11_put_27 : decode cX11_put 27 = .ok (.iload 6, 2) := by decide +kernel
theorem dX11_put_29 : decode cX11_put 29 = .ok (.ireturn, 1) := by decide +kernel
set_option maxHeartbeats 4000000 in
set_option maxRecDepth 100000 in
theorem c_put_in (l : Launch) (J : va_J9) (a : Nat → Nat) (f : Nat → Option Nat) (sh : Nat) (ce : Nat) (d : Int32) (x : Int32) (v : Int64) (hd : 0 ≤ d.toInt ∧ d.toInt ≤ 5) (hf : f d.toNatClampNeg = some sh) : RC l J yX11_put cX11_put 7 (some .int) ({ frames := 2, cells := 0, slots := 0, locals := 41 }) [.ref (a 0), .int d, .int x, .long v] [((a 0), .inr (11, [.ref (a 1), .ref (a 6), .ref (a 10), .ref (a 15), .ref (a 17), .ref (a 22), .ref (a 23), .ref (a 30), .ref (a 31), .ref (a 34), .int 0, .ref (a 37), .ref (a 40)])), ((a 40), .inl (J.2.2.2, 6, .inr (.inr (.inr (.inr f))))), (sh, .inr (9, [.ref ce, .int 0, .int 0, .int 0, .int 0]))] (vp_Si (fun r => r = sp_caught (d.toInt))) := by
  refine rc_of (by decide) (Nat.le_of_ble_eq_true rfl) ?_
  intro p e s m below meth c ls hE hl hP hK
  obtain ⟨hx, hb, hr, hml, hown, hts, hlk, hin⟩ := hE
  have hown : s.vm.findClass RX11 = some m.cls := hown
  have hl : lv_has ls 7 [(0, .ref (a 0)), (1, .int d), (2, .int x), (3, .long v)] := hl
  have rg_d := i_rng d
  have rg_x := i_rng x
  refine lv_aload_n hx hb dX11_put_0 rfl (lv_at hl 0 rfl) ?_
  refine lv_iload_n hx hb dX11_put_1 rfl (lv_at hl 1 rfl) ?_
  refine go_a (rn_V (As := [.int d]) (rest := []) hx hb hml hown hts hK (cF_shelfIn l J a f sh d ⟨by omega, by omega⟩ hf) kV_RX11_106 (hP.sub (ws' := [((a 0), .inr (11, [.ref (a 1), .ref (a 6), .ref (a 10), .ref (a 15), .ref (a 17), .ref (a 22), .ref (a 23), .ref (a 30), .ref (a 31), .ref (a 34), .int 0, .ref (a 37), .ref (a 40)])), ((a 40), .inl (J.2.2.2, 6, .inr (.inr (.inr (.inr f)))))]) [0, 1] rfl) rfl rfl rfl ⟨Nat.le_of_ble_eq_true rfl, Nat.le_of_ble_eq_true rfl⟩ rfl rfl rfl hl.1 rfl (Nat.le_of_ble_eq_true rfl) ⟨Nat.le_of_ble_eq_true rfl, Nat.le_of_ble_eq_true rfl⟩ dX11_put_2) ?_
  refine top_q (y := sh) rfl ?_
  refine lv_astore (lv' := [(5, .ref sh), (0, .ref (a 0)), (1, .int d), (2, .int x), (3, .long v)]) hx hb dX11_put_5 hl (by decide) rfl (fun ls hl => ?_)
  refine lv_aload hx hb dX11_put_7 (lv_at hl 0 rfl) ?_
  refine lv_ifnonnull (tgt := 14) hx hb dX11_put_9 (by decide) ?_
  refine lv_aload hx hb dX11_put_14 (lv_at hl 0 rfl) ?_
  refine lv_iload_n hx hb dX11_put_16 rfl (lv_at hl 3 rfl) ?_
  refine go_i (rn_S (As := [.ref sh, .int x]) (rest := []) hx hb hml hown hts hK (cF_place l J sh ce x) kS_RX11_350 (hP.sub (ws' := [(sh, .inr (9, [.ref ce, .int 0, .int 0, .int 0, .int 0]))]) [2] rfl) ⟨Nat.le_of_ble_eq_true rfl, Nat.le_of_ble_eq_true rfl⟩ rfl rfl rfl hl.1 rfl (Nat.le_of_ble_eq_true rfl) ⟨Nat.le_of_ble_eq_true rfl, Nat.le_of_ble_eq_true rfl⟩ dX11_put_17) ?_
  refine lv_istore (lv' := [(6, .int (-11)), (5, .ref sh), (0, .ref (a 0)), (1, .int d), (2, .int x), (3, .long v)]) hx hb dX11_put_20 hl (by decide) rfl (fun ls hl => ?_)
  refine lv_iload hx hb dX11_put_22 (lv_at hl 0 rfl) ?_
  refine lv_if_eq (tgt := 30) hx hb dX11_put_24 (by decide) (fun c => absurd c (by decide)) (fun _ => ?_)
  refine lv_iload hx hb dX11_put_27 (lv_at hl 0 rfl) ?_
  exact rz_i hx hb hr hlk (by unfold sp_caught; (repeat' split) <;> first | rfl | (exfalso; omega)) dX11_put_29
theorem dX11_put_12 : decode cX11_put 12 = .ok (.iconst (-1), 1) := by decide +kernel
theorem dX11_put_13 : decode cX11_put 13 = .ok (.ireturn, 1) := by decide +kernel
set_option maxHeartbeats 4000000 in
set_option maxRecDepth 100000 in
theorem c_put_out (l : Launch) (J : va_J9) (a : Nat → Nat) (d : Int32) (x : Int32) (v : Int64) (hd : ¬ (0 ≤ d.toInt ∧ d.toInt ≤ 5)) : RC l J yX11_put cX11_put 7 (some .int) ({ frames := 1, cells := 0, slots := 0, locals := 21 }) [.ref (a 0), .int d, .int x, .long v] [((a 0), .inr (11, [.ref (a 1), .ref (a 6), .ref (a 10), .ref (a 15), .ref (a 17), .ref (a 22), .ref (a 23), .ref (a 30), .ref (a 31), .ref (a 34), .int 0, .ref (a 37), .ref (a 40)]))] (vp_Si (fun r => r = sp_caught (d.toInt))) := by
  refine rc_of (by decide) (Nat.le_of_ble_eq_true rfl) ?_
  intro p e s m below meth c ls hE hl hP hK
  obtain ⟨hx, hb, hr, hml, hown, hts, hlk, hin⟩ := hE
  have hown : s.vm.findClass RX11 = some m.cls := hown
  have hl : lv_has ls 7 [(0, .ref (a 0)), (1, .int d), (2, .int x), (3, .long v)] := hl
  have rg_d := i_rng d
  have rg_x := i_rng x
  refine lv_aload_n hx hb dX11_put_0 rfl (lv_at hl 0 rfl) ?_
  refine lv_iload_n hx hb dX11_put_1 rfl (lv_at hl 1 rfl) ?_
  refine go_a (rn_V (As := [.int d]) (rest := []) hx hb hml hown hts hK (cF_shelfOut l J a d (by omega)) kV_RX11_106 hP rfl rfl rfl ⟨Nat.le_of_ble_eq_true rfl, Nat.le_of_ble_eq_true rfl⟩ rfl rfl rfl hl.1 rfl (Nat.le_of_ble_eq_true rfl) ⟨Nat.le_of_ble_eq_true rfl, Nat.le_of_ble_eq_true rfl⟩ dX11_put_2) ?_
  refine top_n rfl ?_
  refine lv_astoreN (lv' := [(5, .null), (0, .ref (a 0)), (1, .int d), (2, .int x), (3, .long v)]) hx hb dX11_put_5 hl (by decide) rfl (fun ls hl => ?_)
  refine lv_aloadN hx hb dX11_put_7 (lv_at hl 0 rfl) ?_
  refine lv_ifnonnullN hx hb dX11_put_9 ?_
  refine lv_iconst (v := (-1)) hx hb dX11_put_12 (by decide) ?_
  exact rz_i hx hb hr hlk (by unfold sp_caught; (repeat' split) <;> first | rfl | (exfalso; omega)) dX11_put_13
theorem dX11_element_0 : decode cX11_element 0 = .ok (.aload_n 0, 1) := by decide +kernel
theorem dX11_element_1 : decode cX11_element 1 = .ok (.iload_n 1, 1) := by decide +kernel
theorem dX11_element_2 : decode cX11_element 2 = .ok (.invokevirtual 106, 3) := by decide +kernel
theorem dX11_element_5 : decode cX11_element 5 = .ok (.astore_n 3, 1) := by decide +kernel
theorem dX11_element_6 : decode cX11_element 6 = .ok (.aload_n 3, 1) := by decide +kernel
theorem dX11_element_7 : decode cX11_element 7 = .ok (.ifnull 11, 3) := by decide +kernel
theorem dX11_element_10 : decode cX11_element 10 = .ok (.aload_n 3, 1) := by decide +kernel
theorem dX11_element_11 : decode cX11_element 11 = .ok (.iload_n 2, 1) := by decide +kernel
theorem dX11_element_12 : decode cX11_element 12 = .ok (.invokestatic 350, 3) := by decide +kernel
theorem dX11_element_15 : decode cX11_element 15 = .ok (.ifCond .eq 7, 3) := by decide +kernel
theorem dX11_element_18 : decode cX11_element 18 = .ok (.ldc2_w 257, 3) := by decide +kernel
theorem dX11_element_21 : decode cX11_element 21 = .ok (.lreturn, 1) := by decide +kernel
set_option maxHeartbeats 4000000 in
set_option maxRecDepth 100000 in
theorem c_element_in (l : Launch) (J : va_J9) (a : Nat → Nat) (f : Nat → Option Nat) (sh : Nat) (ce : Nat) (d : Int32) (x : Int32) (hd : 0 ≤ d.toInt ∧ d.toInt ≤ 5) (hf : f d.toNatClampNeg = some sh) : RC l J yX11_element cX11_element 4 (some .long) ({ frames := 2, cells := 0, slots := 0, locals := 41 }) [.ref (a 0), .int d, .int x] [((a 0), .inr (11, [.ref (a 1), .ref (a 6), .ref (a 10), .ref (a 15), .ref (a 17), .ref (a 22), .ref (a 23), .ref (a 30), .ref (a 31), .ref (a 34), .int 0, .ref (a 37), .ref (a 40)])), ((a 40), .inl (J.2.2.2, 6, .inr (.inr (.inr (.inr f))))), (sh, .inr (9, [.ref ce, .int 0, .int 0, .int 0, .int 0]))] (vp_Sl (fun r => r = (-9223372036854775808))) := by
  refine rc_of (by decide) (Nat.le_of_ble_eq_true rfl) ?_
  intro p e s m below meth c ls hE hl hP hK
  obtain ⟨hx, hb, hr, hml, hown, hts, hlk, hin⟩ := hE
  have hown : s.vm.findClass RX11 = some m.cls := hown
  have hl : lv_has ls 4 [(0, .ref (a 0)), (1, .int d), (2, .int x)] := hl
  have rg_d := i_rng d
  have rg_x := i_rng x
  refine lv_aload_n hx hb dX11_element_0 rfl (lv_at hl 0 rfl) ?_
  refine lv_iload_n hx hb dX11_element_1 rfl (lv_at hl 1 rfl) ?_
  refine go_a (rn_V (As := [.int d]) (rest := []) hx hb hml hown hts hK (cF_shelfIn l J a f sh d ⟨by omega, by omega⟩ hf) kV_RX11_106 (hP.sub (ws' := [((a 0), .inr (11, [.ref (a 1), .ref (a 6), .ref (a 10), .ref (a 15), .ref (a 17), .ref (a 22), .ref (a 23), .ref (a 30), .ref (a 31), .ref (a 34), .int 0, .ref (a 37), .ref (a 40)])), ((a 40), .inl (J.2.2.2, 6, .inr (.inr (.inr (.inr f)))))]) [0, 1] rfl) rfl rfl rfl ⟨Nat.le_of_ble_eq_true rfl, Nat.le_of_ble_eq_true rfl⟩ rfl rfl rfl hl.1 rfl (Nat.le_of_ble_eq_true rfl) ⟨Nat.le_of_ble_eq_true rfl, Nat.le_of_ble_eq_true rfl⟩ dX11_element_2) ?_
  refine top_q (y := sh) rfl ?_
  refine lv_astore_n (lv' := [(3, .ref sh), (0, .ref (a 0)), (1, .int d), (2, .int x)]) hx hb dX11_element_5 rfl hl (by decide) rfl (fun ls hl => ?_)
  refine lv_aload_n hx hb dX11_element_6 rfl (lv_at hl 0 rfl) ?_
  refine lv_ifnull hx hb dX11_element_7 ?_
  refine lv_aload_n hx hb dX11_element_10 rfl (lv_at hl 0 rfl) ?_
  refine lv_iload_n hx hb dX11_element_11 rfl (lv_at hl 3 rfl) ?_
  refine go_i (rn_S (As := [.ref sh, .int x]) (rest := []) hx hb hml hown hts hK (cF_place l J sh ce x) kS_RX11_350 (hP.sub (ws' := [(sh, .inr (9, [.ref ce, .int 0, .int 0, .int 0, .int 0]))]) [2] rfl) ⟨Nat.le_of_ble_eq_true rfl, Nat.le_of_ble_eq_true rfl⟩ rfl rfl rfl hl.1 rfl (Nat.le_of_ble_eq_true rfl) ⟨Nat.le_of_ble_eq_true rfl, Nat.le_of_ble_eq_true rfl⟩ dX11_element_12) ?_
  refine lv_if_eq (tgt := 22) hx hb dX11_element_15 (by decide) (fun c => absurd c (by decide)) (fun _ => ?_)
  refine lv_ldc2 (v := (-9223372036854775808)) hx hb hown (hts _ q_960) dX11_element_18 ?_
  exact rz_l hx hb hr hlk (by decide) dX11_element_21
set_option maxHeartbeats 4000000 in
set_option maxRecDepth 100000 in
theorem c_element_out (l : Launch) (J : va_J9) (a : Nat → Nat) (d : Int32) (x : Int32) (hd : ¬ (0 ≤ d.toInt ∧ d.toInt ≤ 5)) : RC l J yX11_element cX11_element 4 (some .long) ({ frames := 1, cells := 0, slots := 0, locals := 21 }) [.ref (a 0), .int d, .int x] [((a 0), .inr (11, [.ref (a 1), .ref (a 6), .ref (a 10), .ref (a 15), .ref (a 17), .ref (a 22), .ref (a 23), .ref (a 30), .ref (a 31), .ref (a 34), .int 0, .ref (a 37), .ref (a 40)]))] (vp_Sl (fun r => r = (-9223372036854775808))) := by
  refine rc_of (by decide) (Nat.le_of_ble_eq_true rfl) ?_
  intro p e s m below meth c ls hE hl hP hK
  obtain ⟨hx, hb, hr, hml, hown, hts, hlk, hin⟩ := hE
  have hown : s.vm.findClass RX11 = some m.cls := hown
  have hl : lv_has ls 4 [(0, .ref (a 0)), (1, .int d), (2, .int x)] := hl
  have rg_d := i_rng d
  have rg_x := i_rng x
  refine lv_aload_n hx hb dX11_element_0 rfl (lv_at hl 0 rfl) ?_
  refine lv_iload_n hx hb dX11_element_1 rfl (lv_at hl 1 rfl) ?_
  refine go_a (rn_V (As := [.int d]) (rest := []) hx hb hml hown hts hK (cF_shelfOut l J a d (by omega)) kV_RX11_106 hP rfl rfl rfl ⟨Nat.le_of_ble_eq_true rfl, Nat.le_of_ble_eq_true rfl⟩ rfl rfl rfl hl.1 rfl (Nat.le_of_ble_eq_true rfl) ⟨Nat.le_of_ble_eq_true rfl, Nat.le_of_ble_eq_true rfl⟩ dX11_element_2) ?_
  refine top_n rfl ?_
  refine lv_astore_nN (lv' := [(3, .null), (0, .ref (a 0)), (1, .int d), (2, .int x)]) hx hb dX11_element_5 rfl hl (by decide) rfl (fun ls hl => ?_)
  refine lv_aload_nN hx hb dX11_element_6 rfl (lv_at hl 0 rfl) ?_
  refine lv_ifnullN (tgt := 18) hx hb dX11_element_7 (by decide) ?_
  refine lv_ldc2 (v := (-9223372036854775808)) hx hb hown (hts _ q_960) dX11_element_18 ?_
  exact rz_l hx hb hr hlk (by decide) dX11_element_21
theorem dX11_taken_0 : decode cX11_taken 0 = .ok (.aload_n 0, 1) := by decide +kernel
theorem dX11_taken_1 : decode cX11_taken 1 = .ok (.iload_n 1, 1) := by decide +kernel
theorem dX11_taken_2 : decode cX11_taken 2 = .ok (.invokevirtual 106, 3) := by decide +kernel
theorem dX11_taken_5 : decode cX11_taken 5 = .ok (.astore_n 3, 1) := by decide +kernel
theorem dX11_taken_6 : decode cX11_taken 6 = .ok (.aload_n 3, 1) := by decide +kernel
theorem dX11_taken_7 : decode cX11_taken 7 = .ok (.ifnull 14, 3) := by decide +kernel
theorem dX11_taken_10 : decode cX11_taken 10 = .ok (.aload_n 0, 1) := by decide +kernel
theorem dX11_taken_11 : decode cX11_taken 11 = .ok (.getfield 84, 3) := by decide +kernel
theorem dX11_taken_14 : decode cX11_taken 14 = .ok (.iload_n 2, 1) := by decide +kernel
theorem dX11_taken_15 : decode cX11_taken 15 = .ok (.invokevirtual 325, 3) := by decide +kernel
theorem dX11_taken_18 : decode cX11_taken 18 = .ok (.ifCond .ne 5, 3) := by decide +kernel
theorem dX11_taken_23 : decode cX11_taken 23 = .ok (.aload_n 3, 1) := by decide +kernel
theorem dX11_taken_24 : decode cX11_taken 24 = .ok (.invokevirtual 110, 3) := by decide +kernel
theorem dX11_taken_27 : decode cX11_taken 27 = .ok (.ifCond .eq 6, 3) := by decide +kernel
theorem dX11_taken_30 : decode cX11_taken 30 = .ok (.bipush (-11), 2) := by decide +kernel
theorem dX11_taken_32 : decode cX11_taken 32 = .ok (.ireturn, 1) := by decide +kernel
theorem dX11_taken_21 : decode cX11_taken 21 = .ok (.iconst (-1), 1) := by decide +kernel
theorem dX11_taken_22 : decode cX11_taken 22 = .ok (.ireturn, 1) := by decide +kernel
set_option maxHeartbeats 4000000 in
set_option maxRecDepth 100000 in
theorem c_taken_in (l : Launch) (J : va_J9) (a : Nat → Nat) (f : Nat → Option Nat) (sh : Nat) (ce : Nat) (d : Int32) (k : Int32) (hd : 0 ≤ d.toInt ∧ d.toInt ≤ 5) (hf : f d.toNatClampNeg = some sh) : RC l J yX11_taken cX11_taken 4 (some .int) ({ frames := 1, cells := 0, slots := 0, locals := 21 }) [.ref (a 0), .int d, .int k] [((a 0), .inr (11, [.ref (a 1), .ref (a 6), .ref (a 10), .ref (a 15), .ref (a 17), .ref (a 22), .ref (a 23), .ref (a 30), .ref (a 31), .ref (a 34), .int 0, .ref (a 37), .ref (a 40)])), ((a 40), .inl (J.2.2.2, 6, .inr (.inr (.inr (.inr f))))), (sh, .inr (9, [.ref ce, .int 0, .int 0, .int 0, .int 0])), ((a 37), .inr (0, [.ref (a 38), .int 0, .ref (a 39), .int 0]))] (vp_Si (fun r => r = sp_taken (d.toInt) (k.toInt))) := by
  refine rc_of (by decide) (Nat.le_of_ble_eq_true rfl) ?_
  intro p e s m below meth c ls hE hl hP hK
  obtain ⟨hx, hb, hr, hml, hown, hts, hlk, hin⟩ := hE
  have hown : s.vm.findClass RX11 = some m.cls := hown
  have hl : lv_has ls 4 [(0, .ref (a 0)), (1, .int d), (2, .int k)] := hl
  have rg_d := i_rng d
  have rg_k := i_rng k
  refine lv_aload_n hx hb dX11_taken_0 rfl (lv_at hl 0 rfl) ?_
  refine lv_iload_n hx hb dX11_taken_1 rfl (lv_at hl 1 rfl) ?_
  refine go_a (rn_V (As := [.int d]) (rest := []) hx hb hml hown hts hK (cF_shelfIn l J a f sh d ⟨by omega, by omega⟩ hf) kV_RX11_106 (hP.sub (ws' := [((a 0), .inr (11, [.ref (a 1), .ref (a 6), .ref (a 10), .ref (a 15), .ref (a 17), .ref (a 22), .ref (a 23), .ref (a 30), .ref (a 31), .ref (a 34), .int 0, .ref (a 37), .ref (a 40)])), ((a 40), .inl (J.2.2.2, 6, .inr (.inr (.inr (.inr f)))))]) [0, 1] rfl) rfl rfl rfl ⟨Nat.le_of_ble_eq_true rfl, Nat.le_of_ble_eq_true rfl⟩ rfl rfl rfl hl.1 rfl (Nat.le_of_ble_eq_true rfl) ⟨Nat.le_of_ble_eq_true rfl, Nat.le_of_ble_eq_true rfl⟩ dX11_taken_2) ?_
  refine top_q (y := sh) rfl ?_
  refine lv_astore_n (lv' := [(3, .ref sh), (0, .ref (a 0)), (1, .int d), (2, .int k)]) hx hb dX11_taken_5 rfl hl (by decide) rfl (fun ls hl => ?_)
  refine lv_aload_n hx hb dX11_taken_6 rfl (lv_at hl 0 rfl) ?_
  refine lv_ifnull hx hb dX11_taken_7 ?_
  refine lv_aload_n hx hb dX11_taken_10 rfl (lv_at hl 1 rfl) ?_
  refine va_get (D := J.1) (ci := 11) (v := .ref (a 37)) (C := RX11) (T := TX11) (N := 13) hx hb hts inX11 hown hK.1 hP 0 rfl rfl 11 (by decide) (hts _ q_471) (fun _ h9 => h9) rfl dX11_taken_11 ?_
  refine lv_iload_n hx hb dX11_taken_14 rfl (lv_at hl 3 rfl) ?_
  refine go_i (rn_V (As := [.int k]) (rest := []) hx hb hml hown hts hK (cB_isKind l J (a 37) (a 38) (a 39) k) kV_RX11_325 (hP.sub (ws' := [((a 37), .inr (0, [.ref (a 38), .int 0, .ref (a 39), .int 0]))]) [3] rfl) rfl rfl rfl ⟨Nat.le_of_ble_eq_true rfl, Nat.le_of_ble_eq_true rfl⟩ rfl rfl rfl hl.1 rfl (Nat.le_of_ble_eq_true rfl) ⟨Nat.le_of_ble_eq_true rfl, Nat.le_of_ble_eq_true rfl⟩ dX11_taken_15) ?_
  refine lv_if_ne (tgt := 23) hx hb dX11_taken_18 (by decide) (fun c1 => ?_) (fun c1 => ?_)
  · have j2 := b1 c1
    refine lv_aload_n hx hb dX11_taken_23 rfl (lv_at hl 0 rfl) ?_
    refine go_i (rn_V (As := []) (rest := []) hx hb hml hown hts hK (cS_isEmpty l J sh ce) kV_RX11_110 (hP.sub (ws' := [(sh, .inr (9, [.ref ce, .int 0, .int 0, .int 0, .int 0]))]) [2] rfl) rfl rfl rfl ⟨Nat.le_of_ble_eq_true rfl, Nat.le_of_ble_eq_true rfl⟩ rfl rfl rfl hl.1 rfl (Nat.le_of_ble_eq_true rfl) ⟨Nat.le_of_ble_eq_true rfl, Nat.le_of_ble_eq_true rfl⟩ dX11_taken_24) ?_
    refine lv_if_eq (tgt := 33) hx hb dX11_taken_27 (by decide) (fun c => absurd c (by decide)) (fun _ => ?_)
    refine lv_bipush (v := (-11)) hx hb dX11_taken_30 (by decide) ?_
    exact rz_i hx hb hr hlk (by unfold sp_taken; (repeat' split) <;> first | rfl | (exfalso; omega)) dX11_taken_32
  · have j3 := b0 c1
    refine lv_iconst (v := (-1)) hx hb dX11_taken_21 (by decide) ?_
    exact rz_i hx hb hr hlk (by unfold sp_taken; (repeat' split) <;> first | rfl | (exfalso; omega)) dX11_taken_22
set_option maxHeartbeats 4000000 in
set_option maxRecDepth 100000 in
theorem c_taken_out (l : Launch) (J : va_J9) (a : Nat → Nat) (d : Int32) (k : Int32) (hd : ¬ (0 ≤ d.toInt ∧ d.toInt ≤ 5)) : RC l J yX11_taken cX11_taken 4 (some .int) ({ frames := 1, cells := 0, slots := 0, locals := 21 }) [.ref (a 0), .int d, .int k] [((a 0), .inr (11, [.ref (a 1), .ref (a 6), .ref (a 10), .ref (a 15), .ref (a 17), .ref (a 22), .ref (a 23), .ref (a 30), .ref (a 31), .ref (a 34), .int 0, .ref (a 37), .ref (a 40)]))] (vp_Si (fun r => r = sp_taken (d.toInt) (k.toInt))) := by
  refine rc_of (by decide) (Nat.le_of_ble_eq_true rfl) ?_
  intro p e s m below meth c ls hE hl hP hK
  obtain ⟨hx, hb, hr, hml, hown, hts, hlk, hin⟩ := hE
  have hown : s.vm.findClass RX11 = some m.cls := hown
  have hl : lv_has ls 4 [(0, .ref (a 0)), (1, .int d), (2, .int k)] := hl
  have rg_d := i_rng d
  have rg_k := i_rng k
  refine lv_aload_n hx hb dX11_taken_0 rfl (lv_at hl 0 rfl) ?_
  refine lv_iload_n hx hb dX11_taken_1 rfl (lv_at hl 1 rfl) ?_
  refine go_a (rn_V (As := [.int d]) (rest := []) hx hb hml hown hts hK (cF_shelfOut l J a d (by omega)) kV_RX11_106 hP rfl rfl rfl ⟨Nat.le_of_ble_eq_true rfl, Nat.le_of_ble_eq_true rfl⟩ rfl rfl rfl hl.1 rfl (Nat.le_of_ble_eq_true rfl) ⟨Nat.le_of_ble_eq_true rfl, Nat.le_of_ble_eq_true rfl⟩ dX11_taken_2) ?_
  refine top_n rfl ?_
  refine lv_astore_nN (lv' := [(3, .null), (0, .ref (a 0)), (1, .int d), (2, .int k)]) hx hb dX11_taken_5 rfl hl (by decide) rfl (fun ls hl => ?_)
  refine lv_aload_nN hx hb dX11_taken_6 rfl (lv_at hl 0 rfl) ?_
  refine lv_ifnullN (tgt := 21) hx hb dX11_taken_7 (by decide) ?_
  refine lv_iconst (v := (-1)) hx hb dX11_taken_21 (by decide) ?_
  exact rz_i hx hb hr hlk (by unfold sp_taken; (repeat' split) <;> first | rfl | (exfalso; omega)) dX11_taken_22
theorem dX11_count_0 : decode cX11_count 0 = .ok (.iload_n 1, 1) := by decide +kernel
theorem dX11_count_1 : decode cX11_count 1 = .ok (.tableswitch 102 0 6 #[43, 51, 59, 70, 78, 86, 94], 43) := by decide +kernel
theorem dX11_count_44 : decode cX11_count 44 = .ok (.aload_n 0, 1) := by decide +kernel
theorem dX11_count_45 : decode cX11_count 45 = .ok (.getfield 21, 3) := by decide +kernel
theorem q_181 : Cond.fieldLink RX11 388 RX10 "size" "I" ∈ lw_g := mem_q 181 (by decide +kernel) rfl
theorem dX11_count_48 : decode cX11_count 48 = .ok (.getfield 388, 3) := by decide +kernel
theorem dX11_count_51 : decode cX11_count 51 = .ok (.ireturn, 1) := by decide +kernel
theorem dX11_count_52 : decode cX11_count 52 = .ok (.aload_n 0, 1) := by decide +kernel
theorem dX11_count_53 : decode cX11_count 53 = .ok (.getfield 21, 3) := by decide +kernel
theorem q_183 : Cond.fieldLink RX11 391 RX10 "paths" "I" ∈ lw_g := mem_q 183 (by decide +kernel) rfl
theorem dX11_count_56 : decode cX11_count 56 = .ok (.getfield 391, 3) := by decide +kernel
theorem dX11_count_59 : decode cX11_count 59 = .ok (.ireturn, 1) := by decide +kernel
theorem dX11_count_60 : decode cX11_count 60 = .ok (.aload_n 0, 1) := by decide +kernel
theorem dX11_count_61 : decode cX11_count 61 = .ok (.getfield 21, 3) := by decide +kernel
theorem q_1258 : Cond.methodLink RX11 394 yX10_openOnes ∈ lw_g := mem_q 1258 (by decide +kernel) rfl
theorem kV_RX11_394 : CV RX11 394 RX10 yX10_openOnes cX10_openOnes 1 (some .int) 0 := cv_of q_1258 q_660 q_661 q_105 q_662 (by decide +kernel)
theorem dX11_count_64 : decode cX11_count 64 = .ok (.invokevirtual 394, 3) := by decide +kernel
theorem q_1259 : Cond.methodLink RX11 397 yJ6_bitCount_0f7a4 ∈ lw_g := mem_q 1259 (by decide +kernel) rfl
theorem kS_RX11_397 : CS RX11 397 yJ6_bitCount_0f7a4 cJ6_bitCount_0f7a4 1 (some .int) 1 := cs_of q_1259 q_608 q_117 q_609 (by decide +kernel)
theorem dX11_count_67 : decode cX11_count 67 = .ok (.invokestatic 397, 3) := by decide +kernel
theorem dX11_count_70 : decode cX11_count 70 = .ok (.ireturn, 1) := by decide +kernel
theorem dX11_count_71 : decode cX11_count 71 = .ok (.aload_n 0, 1) := by decide +kernel
theorem dX11_count_72 : decode cX11_count 72 = .ok (.getfield 10, 3) := by decide +kernel
theorem q_135 : Cond.fieldLink RX11 402 RX7 "tapeSize" "I" ∈ lw_g := mem_q 135 (by decide +kernel) rfl
theorem dX11_count_75 : decode cX11_count 75 = .ok (.getfield 402, 3) := by decide +kernel
theorem dX11_count_78 : decode cX11_count 78 = .ok (.ireturn, 1) := by decide +kernel
theorem dX11_count_79 : decode cX11_count 79 = .ok (.aload_n 0, 1) := by decide +kernel
theorem dX11_count_80 : decode cX11_count 80 = .ok (.getfield 30, 3) := by decide +kernel
theorem q_230 : Cond.fieldLink RX11 405 RX2 "done" "I" ∈ lw_g := mem_q 230 (by decide +kernel) rfl
theorem dX11_count_83 : decode cX11_count 83 = .ok (.getfield 405, 3) := by decide +kernel
theorem dX11_count_86 : decode cX11_count 86 = .ok (.ireturn, 1) := by decide +kernel
theorem dX11_count_87 : decode cX11_count 87 = .ok (.aload_n 0, 1) := by decide +kernel
theorem dX11_count_88 : decode cX11_count 88 = .ok (.getfield 84, 3) := by decide +kernel
theorem q_420 : Cond.fieldLink RX11 408 RX0 "size" "I" ∈ lw_g := mem_q 420 (by decide +kernel) rfl
theorem dX11_count_91 : decode cX11_count 91 = .ok (.getfield 408, 3) := by decide +kernel
theorem dX11_count_94 : decode cX11_count 94 = .ok (.ireturn, 1) := by decide +kernel
theorem dX11_count_95 : decode cX11_count 95 = .ok (.aload_n 0, 1) := by decide +kernel
theorem dX11_count_96 : decode cX11_count 96 = .ok (.getfield 84, 3) := by decide +kernel
theorem q_423 : Cond.fieldLink RX11 409 RX0 "ranSize" "I" ∈ lw_g := mem_q 423 (by decide +kernel) rfl
theorem dX11_count_99 : decode cX11_count 99 = .ok (.getfield 409, 3) := by decide +kernel
theorem dX11_count_102 : decode cX11_count 102 = .ok (.ireturn, 1) := by decide +kernel
theorem dX11_count_103 : decode cX11_count 103 = .ok (.iconst (-1), 1) := by decide +kernel
theorem dX11_count_104 : decode cX11_count 104 = .ok (.ireturn, 1) := by decide +kernel
set_option maxHeartbeats 4000000 in
set_option maxRecDepth 100000 in
theorem c_count (l : Launch) (J : va_J9) (a : Nat → Nat) (k : Int32) : RC l J yX11_count cX11_count 2 (some .int) ({ frames := 1, cells := 0, slots := 0, locals := 20 }) [.ref (a 0), .int k] [((a 0), .inr (11, [.ref (a 1), .ref (a 6), .ref (a 10), .ref (a 15), .ref (a 17), .ref (a 22), .ref (a 23), .ref (a 30), .ref (a 31), .ref (a 34), .int 0, .ref (a 37), .ref (a 40)])), ((a 6), .inr (10, [.ref (a 1), .ref (a 7), .ref (a 8), .ref (a 9), .int 0, .int 0, .int 0, .int 0, .int 1, .int 0, .int 0])), ((a 1), .inr (7, [.ref (a 2), .int 0, .ref (a 3), .int 0, .int 0, .int 0, .ref (a 4), .int 0, .ref (a 5), .int 0])), ((a 10), .inr (2, [.ref (a 6), .ref (a 11), .ref (a 12), .ref (a 13), .ref (a 14), .int 0, .int 0])), ((a 37), .inr (0, [.ref (a 38), .int 0, .ref (a 39), .int 0]))] (vp_Si (fun r => r = sp_count (k.toInt))) := by
  refine rc_of (by decide) (Nat.le_of_ble_eq_true rfl) ?_
  intro p e s m below meth c ls hE hl hP hK
  obtain ⟨hx, hb, hr, hml, hown, hts, hlk, hin⟩ := hE
  have hown : s.vm.findClass RX11 = some m.cls := hown
  have hl : lv_has ls 2 [(0, .ref (a 0)), (1, .int k)] := hl
  have rg_k := i_rng k
  refine lv_iload_n hx hb dX11_count_0 rfl (lv_at hl 1 rfl) ?_
  rcases Decidable.em (k = 0) with c1 | c1
  · have j2 : k.toInt = 0 := (i_eq rfl (by decide)).mp c1
    refine top_i (y := 0) c1 ?_
    refine lv_tableIn (tgt := 44) (off := 43) hx hb dX11_count_1 (by decide) (by decide) (by decide) (by decide) ?_
    refine lv_aload_n hx hb dX11_count_44 rfl (lv_at hl 0 rfl) ?_
    refine va_get (D := J.1) (ci := 11) (v := .ref (a 6)) (C := RX11) (T := TX11) (N := 13) hx hb hts inX11 hown hK.1 hP 0 rfl rfl 1 (by decide) (hts _ q_461) (fun _ h9 => h9) rfl dX11_count_45 ?_
    refine va_get (D := J.1) (ci := 10) (v := .int 0) (C := RX10) (T := TX10) (N := 11) hx hb hts inX10 hown hK.1 hP 1 rfl rfl 6 (by decide) (hts _ q_181) (fun _ h9 => h9) rfl dX11_count_48 ?_
    exact rz_i hx hb hr hlk (by unfold sp_count; (repeat' split) <;> first | rfl | (exfalso; omega)) dX11_count_51
  have j3 : ¬ (k.toInt = 0) := fun h => c1 ((i_eq rfl (by decide)).mpr h)
  rcases Decidable.em (k = 1) with c4 | c4
  · have j5 : k.toInt = 1 := (i_eq rfl (by decide)).mp c4
    refine top_i (y := 1) c4 ?_
    refine lv_tableIn (tgt := 52) (off := 51) hx hb dX11_count_1 (by decide) (by decide) (by decide) (by decide) ?_
    refine lv_aload_n hx hb dX11_count_52 rfl (lv_at hl 0 rfl) ?_
    refine va_get (D := J.1) (ci := 11) (v := .ref (a 6)) (C := RX11) (T := TX11) (N := 13) hx hb hts inX11 hown hK.1 hP 0 rfl rfl 1 (by decide) (hts _ q_461) (fun _ h9 => h9) rfl dX11_count_53 ?_
    refine va_get (D := J.1) (ci := 10) (v := .int 0) (C := RX10) (T := TX10) (N := 11) hx hb hts inX10 hown hK.1 hP 1 rfl rfl 7 (by decide) (hts _ q_183) (fun _ h9 => h9) rfl dX11_count_56 ?_
    exact rz_i hx hb hr hlk (by unfold sp_count; (repeat' split) <;> first | rfl | (exfalso; omega)) dX11_count_59
  have j6 : ¬ (k.toInt = 1) := fun h => c4 ((i_eq rfl (by decide)).mpr h)
  rcases Decidable.em (k = 2) with c7 | c7
  · have j8 : k.toInt = 2 := (i_eq rfl (by decide)).mp c7
    refine top_i (y := 2) c7 ?_
    refine lv_tableIn (tgt := 60) (off := 59) hx hb dX11_count_1 (by decide) (by decide) (by decide) (by decide) ?_
    refine lv_aload_n hx hb dX11_count_60 rfl (lv_at hl 0 rfl) ?_
    refine va_get (D := J.1) (ci := 11) (v := .ref (a 6)) (C := RX11) (T := TX11) (N := 13) hx hb hts inX11 hown hK.1 hP 0 rfl rfl 1 (by decide) (hts _ q_461) (fun _ h9 => h9) rfl dX11_count_61 ?_
    refine go_i (rn_V (As := []) (rest := []) hx hb hml hown hts hK (cW_openOnes l J (a 6) (a 1) (a 7) (a 8) (a 9)) kV_RX11_394 (hP.sub (ws' := [((a 6), .inr (10, [.ref (a 1), .ref (a 7), .ref (a 8), .ref (a 9), .int 0, .int 0, .int 0, .int 0, .int 1, .int 0, .int 0]))]) [1] rfl) rfl rfl rfl ⟨Nat.le_of_ble_eq_true rfl, Nat.le_of_ble_eq_true rfl⟩ rfl rfl rfl hl.1 rfl (Nat.le_of_ble_eq_true rfl) ⟨Nat.le_of_ble_eq_true rfl, Nat.le_of_ble_eq_true rfl⟩ dX11_count_64) ?_
    refine go_i (rn_S (As := [.int 0]) (rest := []) hx hb hml hown hts hK (cJ_bit0 l J ) kS_RX11_397 (hP.sub (ws' := []) [] rfl) ⟨Nat.le_of_ble_eq_true rfl, Nat.le_of_ble_eq_true rfl⟩ rfl rfl rfl hl.1 rfl (Nat.le_of_ble_eq_true rfl) ⟨Nat.le_of_ble_eq_true rfl, Nat.le_of_ble_eq_true rfl⟩ dX11_count_67) ?_
    exact rz_i hx hb hr hlk (by unfold sp_count; (repeat' split) <;> first | rfl | (exfalso; omega)) dX11_count_70
  have j9 : ¬ (k.toInt = 2) := fun h => c7 ((i_eq rfl (by decide)).mpr h)
  rcases Decidable.em (k = 3) with c10 | c10
  · have j11 : k.toInt = 3 := (i_eq rfl (by decide)).mp c10
    refine top_i (y := 3) c10 ?_
    refine lv_tableIn (tgt := 71) (off := 70) hx hb dX11_count_1 (by decide) (by decide) (by decide) (by decide) ?_
    refine lv_aload_n hx hb dX11_count_71 rfl (lv_at hl 0 rfl) ?_
    refine va_get (D := J.1) (ci := 11) (v := .ref (a 1)) (C := RX11) (T := TX11) (N := 13) hx hb hts inX11 hown hK.1 hP 0 rfl rfl 0 (by decide) (hts _ q_460) (fun _ h9 => h9) rfl dX11_count_72 ?_
    refine va_get (D := J.1) (ci := 7) (v := .int 0) (C := RX7) (T := TX7) (N := 10) hx hb hts inX7 hown hK.1 hP 2 rfl rfl 1 (by decide) (hts _ q_135) (fun _ h9 => h9) rfl dX11_count_75 ?_
    exact rz_i hx hb hr hlk (by unfold sp_count; (repeat' split) <;> first | rfl | (exfalso; omega)) dX11_count_78
  have j12 : ¬ (k.toInt = 3) := fun h => c10 ((i_eq rfl (by decide)).mpr h)
  rcases Decidable.em (k = 4) with c13 | c13
  · have j14 : k.toInt = 4 := (i_eq rfl (by decide)).mp c13
    refine top_i (y := 4) c13 ?_
    refine lv_tableIn (tgt := 79) (off := 78) hx hb dX11_count_1 (by decide) (by decide) (by decide) (by decide) ?_
    refine lv_aload_n hx hb dX11_count_79 rfl (lv_at hl 0 rfl) ?_
    refine va_get (D := J.1) (ci := 11) (v := .ref (a 10)) (C := RX11) (T := TX11) (N := 13) hx hb hts inX11 hown hK.1 hP 0 rfl rfl 2 (by decide) (hts _ q_462) (fun _ h9 => h9) rfl dX11_count_80 ?_
    refine va_get (D := J.1) (ci := 2) (v := .int 0) (C := RX2) (T := TX2) (N := 7) hx hb hts inX2 hown hK.1 hP 3 rfl rfl 6 (by decide) (hts _ q_230) (fun _ h9 => h9) rfl dX11_count_83 ?_
    exact rz_i hx hb hr hlk (by unfold sp_count; (repeat' split) <;> first | rfl | (exfalso; omega)) dX11_count_86
  have j15 : ¬ (k.toInt = 4) := fun h => c13 ((i_eq rfl (by decide)).mpr h)
  rcases Decidable.em (k = 5) with c16 | c16
  · have j17 : k.toInt = 5 := (i_eq rfl (by decide)).mp c16
    refine top_i (y := 5) c16 ?_
    refine lv_tableIn (tgt := 87) (off := 86) hx hb dX11_count_1 (by decide) (by decide) (by decide) (by decide) ?_
    refine lv_aload_n hx hb dX11_count_87 rfl (lv_at hl 0 rfl) ?_
    refine va_get (D := J.1) (ci := 11) (v := .ref (a 37)) (C := RX11) (T := TX11) (N := 13) hx hb hts inX11 hown hK.1 hP 0 rfl rfl 11 (by decide) (hts _ q_471) (fun _ h9 => h9) rfl dX11_count_88 ?_
    refine va_get (D := J.1) (ci := 0) (v := .int 0) (C := RX0) (T := TX0) (N := 4) hx hb hts inX0 hown hK.1 hP 4 rfl rfl 1 (by decide) (hts _ q_420) (fun _ h9 => h9) rfl dX11_count_91 ?_
    exact rz_i hx hb hr hlk (by unfold sp_count; (repeat' split) <;> first | rfl | (exfalso; omega)) dX11_count_94
  have j18 : ¬ (k.toInt = 5) := fun h => c16 ((i_eq rfl (by decide)).mpr h)
  rcases Decidable.em (k = 6) with c19 | c19
  · have j20 : k.toInt = 6 := (i_eq rfl (by decide)).mp c19
    refine top_i (y := 6) c19 ?_
    refine lv_tableIn (tgt := 95) (off := 94) hx hb dX11_count_1 (by decide) (by decide) (by decide) (by decide) ?_
    refine lv_aload_n hx hb dX11_count_95 rfl (lv_at hl 0 rfl) ?_
    refine va_get (D := J.1) (ci := 11) (v := .ref (a 37)) (C := RX11) (T := TX11) (N := 13) hx hb hts inX11 hown hK.1 hP 0 rfl rfl 11 (by decide) (hts _ q_471) (fun _ h9 => h9) rfl dX11_count_96 ?_
    refine va_get (D := J.1) (ci := 0) (v := .int 0) (C := RX0) (T := TX0) (N := 4) hx hb hts inX0 hown hK.1 hP 4 rfl rfl 3 (by decide) (hts _ q_423) (fun _ h9 => h9) rfl dX11_count_99 ?_
    exact rz_i hx hb hr hlk (by unfold sp_count; (repeat' split) <;> first | rfl | (exfalso; omega)) dX11_count_102
  have j21 : ¬ (k.toInt = 6) := fun h => c19 ((i_eq rfl (by decide)).mpr h)
  refine lv_tableOut (tgt := 103) hx hb dX11_count_1 (by omega) (by decide) ?_
  refine lv_iconst (v := (-1)) hx hb dX11_count_103 (by decide) ?_
  exact rz_i hx hb hr hlk (by unfold sp_count; (repeat' split) <;> first | rfl | (exfalso; omega)) dX11_count_104
theorem dX11_shift_0 : decode cX11_shift 0 = .ok (.aload_n 0, 1) := by decide +kernel
theorem dX11_shift_1 : decode cX11_shift 1 = .ok (.iload_n 1, 1) := by decide +kernel
theorem dX11_shift_2 : decode cX11_shift 2 = .ok (.invokevirtual 106, 3) := by decide +kernel
theorem dX11_shift_5 : decode cX11_shift 5 = .ok (.astore 6, 2) := by decide +kernel
theorem dX11_shift_7 : decode cX11_shift 7 = .ok (.aload_n 0, 1) := by decide +kernel
theorem dX11_shift_8 : decode cX11_shift 8 = .ok (.iload_n 3, 1) := by decide +kernel
theorem dX11_shift_9 : decode cX11_shift 9 = .ok (.invokevirtual 106, 3) := by decide +kernel
theorem dX11_shift_12 : decode cX11_shift 12 = .ok (.astore 7, 2) := by decide +kernel
theorem dX11_shift_14 : decode cX11_shift 14 = .ok (.aload 6, 2) := by decide +kernel
theorem dX11_shift_16 : decode cX11_shift 16 = .ok (.ifnull 8, 3) := by decide +kernel
theorem dX11_shift_19 : decode cX11_shift 19 = .ok (.aload 7, 2) := by decide +kernel
theorem dX11_shift_21 : decode cX11_shift 21 = .ok (.ifnonnull 5, 3) := by decide +kernel
theorem dX11_shift_26 : decode cX11_shift 26 = .ok (.aload 6, 2) := by decide +kernel
theorem dX11_shift_28 : decode cX11_shift 28 = .ok (.invokevirtual 110, 3) := by decide +kernel
theorem dX11_shift_31 : decode cX11_shift 31 = .ok (.ifCond .ne 11, 3) := by decide +kernel
theorem dX11_shift_42 : decode cX11_shift 42 = .ok (.bipush (-11), 2) := by decide +kernel
theorem dX11_shift_44 : decode cX11_shift 44 = .ok (.ireturn, 1) := by decide +kernel
set_option maxHeartbeats 4000000 in
set_option maxRecDepth 100000 in
theorem c_shift_11 (l : Launch) (J : va_J9) (a : Nat → Nat) (f : Nat → Option Nat) (sh : Nat) (ce : Nat) (s2 : Nat) (d : Int32) (x : Int32) (o : Int32) (y : Int32) (n : Int32) (hd : 0 ≤ d.toInt ∧ d.toInt ≤ 5) (ho : 0 ≤ o.toInt ∧ o.toInt ≤ 5) (hf : f d.toNatClampNeg = some sh) (hg : f o.toNatClampNeg = some s2) : RC l J yX11_shift cX11_shift 8 (some .int) ({ frames := 1, cells := 0, slots := 0, locals := 21 }) [.ref (a 0), .int d, .int x, .int o, .int y, .int n] [((a 0), .inr (11, [.ref (a 1), .ref (a 6), .ref (a 10), .ref (a 15), .ref (a 17), .ref (a 22), .ref (a 23), .ref (a 30), .ref (a 31), .ref (a 34), .int 0, .ref (a 37), .ref (a 40)])), ((a 40), .inl (J.2.2.2, 6, .inr (.inr (.inr (.inr f))))), (sh, .inr (9, [.ref ce, .int 0, .int 0, .int 0, .int 0]))] (vp_Si (fun r => r = sp_shift (d.toInt) (o.toInt))) := by
  refine rc_of (by decide) (Nat.le_of_ble_eq_true rfl) ?_
  intro p e s m below meth c ls hE hl hP hK
  obtain ⟨hx, hb, hr, hml, hown, hts, hlk, hin⟩ := hE
  have hown : s.vm.findClass RX11 = some m.cls := hown
  have hl : lv_has ls 8 [(0, .ref (a 0)), (1, .int d), (2, .int x), (3, .int o), (4, .int y), (5, .int n)] := hl
  have rg_d := i_rng d
  have rg_x := i_rng x
  have rg_o := i_rng o
  have rg_y := i_rng y
  have rg_n := i_rng n
  refine lv_aload_n hx hb dX11_shift_0 rfl (lv_at hl 0 rfl) ?_
  refine lv_iload_n hx hb dX11_shift_1 rfl (lv_at hl 1 rfl) ?_
  refine go_a (rn_V (As := [.int d]) (rest := []) hx hb hml hown hts hK (cF_shelfIn l J a f sh d ⟨by omega, by omega⟩ hf) kV_RX11_106 (hP.sub (ws' := [((a 0), .inr (11, [.ref (a 1), .ref (a 6), .ref (a 10), .ref (a 15), .ref (a 17), .ref (a 22), .ref (a 23), .ref (a 30), .ref (a 31), .ref (a 34), .int 0, .ref (a 37), .ref (a 40)])), ((a 40), .inl (J.2.2.2, 6, .inr (.inr (.inr (.inr f)))))]) [0, 1] rfl) rfl rfl rfl ⟨Nat.le_of_ble_eq_true rfl, Nat.le_of_ble_eq_true rfl⟩ rfl rfl rfl hl.1 rfl (Nat.le_of_ble_eq_true rfl) ⟨Nat.le_of_ble_eq_true rfl, Nat.le_of_ble_eq_true rfl⟩ dX11_shift_2) ?_
  refine top_q (y := sh) rfl ?_
  refine lv_astore (lv' := [(6, .ref sh), (0, .ref (a 0)), (1, .int d), (2, .int x), (3, .int o), (4, .int y), (5, .int n)]) hx hb dX11_shift_5 hl (by decide) rfl (fun ls hl => ?_)
  refine lv_aload_n hx hb dX11_shift_7 rfl (lv_at hl 1 rfl) ?_
  refine lv_iload_n hx hb dX11_shift_8 rfl (lv_at hl 4 rfl) ?_
  refine go_a (rn_V (As := [.int o]) (rest := []) hx hb hml hown hts hK (cF_shelfIn l J a f s2 o ⟨by omega, by omega⟩ hg) kV_RX11_106 (hP.sub (ws' := [((a 0), .inr (11, [.ref (a 1), .ref (a 6), .ref (a 10), .ref (a 15), .ref (a 17), .ref (a 22), .ref (a 23), .ref (a 30), .ref (a 31), .ref (a 34), .int 0, .ref (a 37), .ref (a 40)])), ((a 40), .inl (J.2.2.2, 6, .inr (.inr (.inr (.inr f)))))]) [0, 1] rfl) rfl rfl rfl ⟨Nat.le_of_ble_eq_true rfl, Nat.le_of_ble_eq_true rfl⟩ rfl rfl rfl hl.1 rfl (Nat.le_of_ble_eq_true rfl) ⟨Nat.le_of_ble_eq_true rfl, Nat.le_of_ble_eq_true rfl⟩ dX11_shift_9) ?_
  refine top_q (y := s2) rfl ?_
  refine lv_astore (lv' := [(7, .ref s2), (6, .ref sh), (0, .ref (a 0)), (1, .int d), (2, .int x), (3, .int o), (4, .int y), (5, .int n)]) hx hb dX11_shift_12 hl (by decide) rfl (fun ls hl => ?_)
  refine lv_aload hx hb dX11_shift_14 (lv_at hl 1 rfl) ?_
  refine lv_ifnull hx hb dX11_shift_16 ?_
  refine lv_aload hx hb dX11_shift_19 (lv_at hl 0 rfl) ?_
  refine lv_ifnonnull (tgt := 26) hx hb dX11_shift_21 (by decide) ?_
  refine lv_aload hx hb dX11_shift_26 (lv_at hl 1 rfl) ?_
  refine go_i (rn_V (As := []) (rest := []) hx hb hml hown hts hK (cS_isEmpty l J sh ce) kV_RX11_110 (hP.sub (ws' := [(sh, .inr (9, [.ref ce, .int 0, .int 0, .int 0, .int 0]))]) [2] rfl) rfl rfl rfl ⟨Nat.le_of_ble_eq_true rfl, Nat.le_of_ble_eq_true rfl⟩ rfl rfl rfl hl.1 rfl (Nat.le_of_ble_eq_true rfl) ⟨Nat.le_of_ble_eq_true rfl, Nat.le_of_ble_eq_true rfl⟩ dX11_shift_28) ?_
  refine lv_if_ne (tgt := 42) hx hb dX11_shift_31 (by decide) (fun _ => ?_) (fun c => absurd c (by decide))
  refine lv_bipush (v := (-11)) hx hb dX11_shift_42 (by decide) ?_
  exact rz_i hx hb hr hlk (by unfold sp_shift; (repeat' split) <;> first | rfl | (exfalso; omega)) dX11_shift_44
theorem dX11_shift_24 : decode cX11_shift 24 = .ok (.iconst (-1), 1) := by decide +kernel
theorem dX11_shift_25 : decode cX11_shift 25 = .ok (.ireturn, 1) := by decide +kernel
set_option maxHeartbeats 4000000 in
set_option maxRecDepth 100000 in
theorem c_shift_10 (l : Launch) (J : va_J9) (a : Nat → Nat) (f : Nat → Option Nat) (sh : Nat) (ce : Nat) (d : Int32) (x : Int32) (o : Int32) (y : Int32) (n : Int32) (hd : 0 ≤ d.toInt ∧ d.toInt ≤ 5) (ho : ¬ (0 ≤ o.toInt ∧ o.toInt ≤ 5)) (hf : f d.toNatClampNeg = some sh) : RC l J yX11_shift cX11_shift 8 (some .int) ({ frames := 1, cells := 0, slots := 0, locals := 21 }) [.ref (a 0), .int d, .int x, .int o, .int y, .int n] [((a 0), .inr (11, [.ref (a 1), .ref (a 6), .ref (a 10), .ref (a 15), .ref (a 17), .ref (a 22), .ref (a 23), .ref (a 30), .ref (a 31), .ref (a 34), .int 0, .ref (a 37), .ref (a 40)])), ((a 40), .inl (J.2.2.2, 6, .inr (.inr (.inr (.inr f))))), (sh, .inr (9, [.ref ce, .int 0, .int 0, .int 0, .int 0]))] (vp_Si (fun r => r = sp_shift (d.toInt) (o.toInt))) := by
  refine rc_of (by decide) (Nat.le_of_ble_eq_true rfl) ?_
  intro p e s m below meth c ls hE hl hP hK
  obtain ⟨hx, hb, hr, hml, hown, hts, hlk, hin⟩ := hE
  have hown : s.vm.findClass RX11 = some m.cls := hown
  have hl : lv_has ls 8 [(0, .ref (a 0)), (1, .int d), (2, .int x), (3, .int o), (4, .int y), (5, .int n)] := hl
  have rg_d := i_rng d
  have rg_x := i_rng x
  have rg_o := i_rng o
  have rg_y := i_rng y
  have rg_n := i_rng n
  refine lv_aload_n hx hb dX11_shift_0 rfl (lv_at hl 0 rfl) ?_
  refine lv_iload_n hx hb dX11_shift_1 rfl (lv_at hl 1 rfl) ?_
  refine go_a (rn_V (As := [.int d]) (rest := []) hx hb hml hown hts hK (cF_shelfIn l J a f sh d ⟨by omega, by omega⟩ hf) kV_RX11_106 (hP.sub (ws' := [((a 0), .inr (11, [.ref (a 1), .ref (a 6), .ref (a 10), .ref (a 15), .ref (a 17), .ref (a 22), .ref (a 23), .ref (a 30), .ref (a 31), .ref (a 34), .int 0, .ref (a 37), .ref (a 40)])), ((a 40), .inl (J.2.2.2, 6, .inr (.inr (.inr (.inr f)))))]) [0, 1] rfl) rfl rfl rfl ⟨Nat.le_of_ble_eq_true rfl, Nat.le_of_ble_eq_true rfl⟩ rfl rfl rfl hl.1 rfl (Nat.le_of_ble_eq_true rfl) ⟨Nat.le_of_ble_eq_true rfl, Nat.le_of_ble_eq_true rfl⟩ dX11_shift_2) ?_
  refine top_q (y := sh) rfl ?_
  refine lv_astore (lv' := [(6, .ref sh), (0, .ref (a 0)), (1, .int d), (2, .int x), (3, .int o), (4, .int y), (5, .int n)]) hx hb dX11_shift_5 hl (by decide) rfl (fun ls hl => ?_)
  refine lv_aload_n hx hb dX11_shift_7 rfl (lv_at hl 1 rfl) ?_
  refine lv_iload_n hx hb dX11_shift_8 rfl (lv_at hl 4 rfl) ?_
  refine go_a (rn_V (As := [.int o]) (rest := []) hx hb hml hown hts hK (cF_shelfOut l J a o (by omega)) kV_RX11_106 (hP.sub (ws' := [((a 0), .inr (11, [.ref (a 1), .ref (a 6), .ref (a 10), .ref (a 15), .ref (a 17), .ref (a 22), .ref (a 23), .ref (a 30), .ref (a 31), .ref (a 34), .int 0, .ref (a 37), .ref (a 40)]))]) [0] rfl) rfl rfl rfl ⟨Nat.le_of_ble_eq_true rfl, Nat.le_of_ble_eq_true rfl⟩ rfl rfl rfl hl.1 rfl (Nat.le_of_ble_eq_true rfl) ⟨Nat.le_of_ble_eq_true rfl, Nat.le_of_ble_eq_true rfl⟩ dX11_shift_9) ?_
  refine top_n rfl ?_
  refine lv_astoreN (lv' := [(7, .null), (6, .ref sh), (0, .ref (a 0)), (1, .int d), (2, .int x), (3, .int o), (4, .int y), (5, .int n)]) hx hb dX11_shift_12 hl (by decide) rfl (fun ls hl => ?_)
  refine lv_aload hx hb dX11_shift_14 (lv_at hl 1 rfl) ?_
  refine lv_ifnull hx hb dX11_shift_16 ?_
  refine lv_aloadN hx hb dX11_shift_19 (lv_at hl 0 rfl) ?_
  refine lv_ifnonnullN hx hb dX11_shift_21 ?_
  refine lv_iconst (v := (-1)) hx hb dX11_shift_24 (by decide) ?_
  exact rz_i hx hb hr hlk (by unfold sp_shift; (repeat' split) <;> first | rfl | (exfalso; omega)) dX11_shift_25
set_option maxHeartbeats 4000000 in
set_option maxRecDepth 100000 in
theorem c_shift_01 (l : Launch) (J : va_J9) (a : Nat → Nat) (f : Nat → Option Nat) (s2 : Nat) (d : Int32) (x : Int32) (o : Int32) (y : Int32) (n : Int32) (hd : ¬ (0 ≤ d.toInt ∧ d.toInt ≤ 5)) (ho : 0 ≤ o.toInt ∧ o.toInt ≤ 5) (hg : f o.toNatClampNeg = some s2) : RC l J yX11_shift cX11_shift 8 (some .int) ({ frames := 1, cells := 0, slots := 0, locals := 21 }) [.ref (a 0), .int d, .int x, .int o, .int y, .int n] [((a 0), .inr (11, [.ref (a 1), .ref (a 6), .ref (a 10), .ref (a 15), .ref (a 17), .ref (a 22), .ref (a 23), .ref (a 30), .ref (a 31), .ref (a 34), .int 0, .ref (a 37), .ref (a 40)])), ((a 40), .inl (J.2.2.2, 6, .inr (.inr (.inr (.inr f)))))] (vp_Si (fun r => r = sp_shift (d.toInt) (o.toInt))) := by
  refine rc_of (by decide) (Nat.le_of_ble_eq_true rfl) ?_
  intro p e s m below meth c ls hE hl hP hK
  obtain ⟨hx, hb, hr, hml, hown, hts, hlk, hin⟩ := hE
  have hown : s.vm.findClass RX11 = some m.cls := hown
  have hl : lv_has ls 8 [(0, .ref (a 0)), (1, .int d), (2, .int x), (3, .int o), (4, .int y), (5, .int n)] := hl
  have rg_d := i_rng d
  have rg_x := i_rng x
  have rg_o := i_rng o
  have rg_y := i_rng y
  have rg_n := i_rng n
  refine lv_aload_n hx hb dX11_shift_0 rfl (lv_at hl 0 rfl) ?_
  refine lv_iload_n hx hb dX11_shift_1 rfl (lv_at hl 1 rfl) ?_
  refine go_a (rn_V (As := [.int d]) (rest := []) hx hb hml hown hts hK (cF_shelfOut l J a d (by omega)) kV_RX11_106 (hP.sub (ws' := [((a 0), .inr (11, [.ref (a 1), .ref (a 6), .ref (a 10), .ref (a 15), .ref (a 17), .ref (a 22), .ref (a 23), .ref (a 30), .ref (a 31), .ref (a 34), .int 0, .ref (a 37), .ref (a 40)]))]) [0] rfl) rfl rfl rfl ⟨Nat.le_of_ble_eq_true rfl, Nat.le_of_ble_eq_true rfl⟩ rfl rfl rfl hl.1 rfl (Nat.le_of_ble_eq_true rfl) ⟨Nat.le_of_ble_eq_true rfl, Nat.le_of_ble_eq_true rfl⟩ dX11_shift_2) ?_
  refine top_n rfl ?_
  refine lv_astoreN (lv' := [(6, .null), (0, .ref (a 0)), (1, .int d), (2, .int x), (3, .int o), (4, .int y), (5, .int n)]) hx hb dX11_shift_5 hl (by decide) rfl (fun ls hl => ?_)
  refine lv_aload_n hx hb dX11_shift_7 rfl (lv_at hl 1 rfl) ?_
  refine lv_iload_n hx hb dX11_shift_8 rfl (lv_at hl 4 rfl) ?_
  refine go_a (rn_V (As := [.int o]) (rest := []) hx hb hml hown hts hK (cF_shelfIn l J a f s2 o ⟨by omega, by omega⟩ hg) kV_RX11_106 hP rfl rfl rfl ⟨Nat.le_of_ble_eq_true rfl, Nat.le_of_ble_eq_true rfl⟩ rfl rfl rfl hl.1 rfl (Nat.le_of_ble_eq_true rfl) ⟨Nat.le_of_ble_eq_true rfl, Nat.le_of_ble_eq_true rfl⟩ dX11_shift_9) ?_
  refine top_q (y := s2) rfl ?_
  refine lv_astore (lv' := [(7, .ref s2), (6, .null), (0, .ref (a 0)), (1, .int d), (2, .int x), (3, .int o), (4, .int y), (5, .int n)]) hx hb dX11_shift_12 hl (by decide) rfl (fun ls hl => ?_)
  refine lv_aloadN hx hb dX11_shift_14 (lv_at hl 1 rfl) ?_
  refine lv_ifnullN (tgt := 24) hx hb dX11_shift_16 (by decide) ?_
  refine lv_iconst (v := (-1)) hx hb dX11_shift_24 (by decide) ?_
  exact rz_i hx hb hr hlk (by unfold sp_shift; (repeat' split) <;> first | rfl | (exfalso; omega)) dX11_shift_25
set_option maxHeartbeats 4000000 in
set_option maxRecDepth 100000 in
theorem c_shift_00 (l : Launch) (J : va_J9) (a : Nat → Nat) (d : Int32) (x : Int32) (o : Int32) (y : Int32) (n : Int32) (hd : ¬ (0 ≤ d.toInt ∧ d.toInt ≤ 5)) (ho : ¬ (0 ≤ o.toInt ∧ o.toInt ≤ 5)) : RC l J yX11_shift cX11_shift 8 (some .int) ({ frames := 1, cells := 0, slots := 0, locals := 21 }) [.ref (a 0), .int d, .int x, .int o, .int y, .int n] [((a 0), .inr (11, [.ref (a 1), .ref (a 6), .ref (a 10), .ref (a 15), .ref (a 17), .ref (a 22), .ref (a 23), .ref (a 30), .ref (a 31), .ref (a 34), .int 0, .ref (a 37), .ref (a 40)]))] (vp_Si (fun r => r = sp_shift (d.toInt) (o.toInt))) := by
  refine rc_of (by decide) (Nat.le_of_ble_eq_true rfl) ?_
  intro p e s m below meth c ls hE hl hP hK
  obtain ⟨hx, hb, hr, hml, hown, hts, hlk, hin⟩ := hE
  have hown : s.vm.findClass RX11 = some m.cls := hown
  have hl : lv_has ls 8 [(0, .ref (a 0)), (1, .int d), (2, .int x), (3, .int o), (4, .int y), (5, .int n)] := hl
  have rg_d := i_rng d
  have rg_x := i_rng x
  have rg_o := i_rng o
  have rg_y := i_rng y
  have rg_n := i_rng n
  refine lv_aload_n hx hb dX11_shift_0 rfl (lv_at hl 0 rfl) ?_
  refine lv_iload_n hx hb dX11_shift_1 rfl (lv_at hl 1 rfl) ?_
  refine go_a (rn_V (As := [.int d]) (rest := []) hx hb hml hown hts hK (cF_shelfOut l J a d (by omega)) kV_RX11_106 hP rfl rfl rfl ⟨Nat.le_of_ble_eq_true rfl, Nat.le_of_ble_eq_true rfl⟩ rfl rfl rfl hl.1 rfl (Nat.le_of_ble_eq_true rfl) ⟨Nat.le_of_ble_eq_true rfl, Nat.le_of_ble_eq_true rfl⟩ dX11_shift_2) ?_
  refine top_n rfl ?_
  refine lv_astoreN (lv' := [(6, .null), (0, .ref (a 0)), (1, .int d), (2, .int x), (3, .int o), (4, .int y), (5, .int n)]) hx hb dX11_shift_5 hl (by decide) rfl (fun ls hl => ?_)
  refine lv_aload_n hx hb dX11_shift_7 rfl (lv_at hl 1 rfl) ?_
  refine lv_iload_n hx hb dX11_shift_8 rfl (lv_at hl 4 rfl) ?_
  refine go_a (rn_V (As := [.int o]) (rest := []) hx hb hml hown hts hK (cF_shelfOut l J a o (by omega)) kV_RX11_106 hP rfl rfl rfl ⟨Nat.le_of_ble_eq_true rfl, Nat.le_of_ble_eq_true rfl⟩ rfl rfl rfl hl.1 rfl (Nat.le_of_ble_eq_true rfl) ⟨Nat.le_of_ble_eq_true rfl, Nat.le_of_ble_eq_true rfl⟩ dX11_shift_9) ?_
  refine top_n rfl ?_
  refine lv_astoreN (lv' := [(7, .null), (6, .null), (0, .ref (a 0)), (1, .int d), (2, .int x), (3, .int o), (4, .int y), (5, .int n)]) hx hb dX11_shift_12 hl (by decide) rfl (fun ls hl => ?_)
  refine lv_aloadN hx hb dX11_shift_14 (lv_at hl 1 rfl) ?_
  refine lv_ifnullN (tgt := 24) hx hb dX11_shift_16 (by decide) ?_
  refine lv_iconst (v := (-1)) hx hb dX11_shift_24 (by decide) ?_
  exact rz_i hx hb hr hlk (by unfold sp_shift; (repeat' split) <;> first | rfl | (exfalso; omega)) dX11_shift_25
end
section
theorem dX7_init_0 : decode cX7_init 0 = .ok (.aload_n 0, 1) := by decide +kernel
theorem q_132 : Cond.methodLink RX7 3 ⟨"java/lang/Object", "<init>", "()V"⟩ ∈ lw_g := mem_q 132 (by decide +kernel) rfl
theorem q_125 : Cond.instanceMethod ⟨"java/lang/Object", "<init>", "()V"⟩ ∈ lw_g := mem_q 125 (by decide +kernel) rfl
theorem q_126 : Cond.code ⟨"java/lang/Object", "<init>", "()V"⟩ object_method_1_code 1 none ∈ lw_g := mem_q 126 (by decide +kernel) rfl
theorem dX7_init_1 : decode cX7_init 1 = .ok (.invokespecial 3, 3) := by decide +kernel
theorem dX7_init_4 : decode cX7_init 4 = .ok (.aload_n 0, 1) := by decide +kernel
theorem dX7_init_5 : decode cX7_init 5 = .ok (.bipush 120, 2) := by decide +kernel
theorem q_165 : Cond.arrayClass .int ∈ lw_g := mem_q 165 (by decide +kernel) rfl
theorem dX7_init_7 : decode cX7_init 7 = .ok (.newarray .int, 2) := by decide +kernel
theorem dX7_init_9 : decode cX7_init 9 = .ok (.putfield 11, 3) := by decide +kernel
theorem dX7_init_12 : decode cX7_init 12 = .ok (.aload_n 0, 1) := by decide +kernel
theorem dX7_init_13 : decode cX7_init 13 = .ok (.sipush 256, 3) := by decide +kernel
theorem dX7_init_16 : decode cX7_init 16 = .ok (.newarray .int, 2) := by decide +kernel
theorem dX7_init_18 : decode cX7_init 18 = .ok (.putfield 15, 3) := by decide +kernel
theorem dX7_init_21 : decode cX7_init 21 = .ok (.aload_n 0, 1) := by decide +kernel
theorem dX7_init_22 : decode cX7_init 22 = .ok (.sipush 256, 3) := by decide +kernel
theorem dX7_init_25 : decode cX7_init 25 = .ok (.newarray .int, 2) := by decide +kernel
theorem q_140 : Cond.fieldLink RX7 18 RX7 "code" "[I" ∈ lw_g := mem_q 140 (by decide +kernel) rfl
theorem dX7_init_27 : decode cX7_init 27 = .ok (.putfield 18, 3) := by decide +kernel
theorem dX7_init_30 : decode cX7_init 30 = .ok (.aload_n 0, 1) := by decide +kernel
theorem dX7_init_31 : decode cX7_init 31 = .ok (.sipush 128, 3) := by decide +kernel
theorem dX7_init_34 : decode cX7_init 34 = .ok (.newarray .int, 2) := by decide +kernel
theorem q_142 : Cond.fieldLink RX7 21 RX7 "stack" "[I" ∈ lw_g := mem_q 142 (by decide +kernel) rfl
theorem dX7_init_36 : decode cX7_init 36 = .ok (.putfield 21, 3) := by decide +kernel
theorem dX7_init_39 : decode cX7_init 39 = .ok (.return_, 1) := by decide +kernel
set_option maxHeartbeats 4000000 in
set_option maxRecDepth 100000 in
theorem n_Law (l : Launch) (J : va_J9) (sz : Nat) (t : Nat) : WC l J yX7_init cX7_init 1 none ({ frames := 1, cells := 4, slots := 760, locals := 24 }) [.ref t] [(t, .inr (7, [.null, .int 0, .null, .int 0, .int 0, .int 0, .null, .int 0, .null, .int 0]))] sz (Qv J (fun (u : Nat → Nat) => True) (fun (u : Nat → Nat) => [(t, .inr (7, [.ref (u 0), .int 0, .ref (u 1), .int 0, .int 0, .int 0, .ref (u 2), .int 0, .ref (u 3), .int 0])), ((u 0), .inl (J.2.1, 120, .inl (fun _ => 0))), ((u 1), .inl (J.2.1, 256, .inl (fun _ => 0)))])) 4 760 := by
  refine wc_of (by decide) (Nat.le_of_ble_eq_true rfl) ?_
  intro p e s m below meth c ls A hE hl hP hK hD hS hA
  obtain ⟨hx, hb, hr, hml, hown, hts, hlk, hin⟩ := hE
  have hown : s.vm.findClass RX7 = some m.cls := hown
  have hl : lv_has ls 1 [(0, .ref t)] := hl
  have hin : meth.name = "<init>" := hin
  refine lv_aload_n hx hb dX7_init_0 rfl (lv_at hl 0 rfl) ?_
  refine W.objInit hx hb hown (hts _ q_132) (hts _ q_125) (hts _ q_126) rfl (by rw [hml]; exact hl.1) rfl dX7_init_1 (Nat.le_of_ble_eq_true rfl) (Nat.le_of_ble_eq_true rfl) ?_
  refine W.eq (g2 := F0 m 4 ls []) rfl ?_
  refine lv_aload_n hx hb dX7_init_4 rfl (lv_at hl 0 rfl) ?_
  refine lv_bipush (v := 120) hx hb dX7_init_5 (by decide) ?_
  refine na_i (a0 := (0, .inl (fun _ => 0))) (N' := 120) hx hb hts q_165 hK hP hD hS hA (by decide) (by decide) (by decide) (Nat.le_of_ble_eq_true rfl) (Nat.le_of_ble_eq_true rfl) dX7_init_7 (fun n1 H hP hD hS => ?_)
  have hP : va_P J.1 cls [(t, .inr (7, [.null, .int 0, .null, .int 0, .int 0, .int 0, .null, .int 0, .null, .int 0])), (n1, .inl (J.2.1, 120, .inl (fun _ => 0)))] H := hP
  have hD : va_D A [(t, .inr (7, [.null, .int 0, .null, .int 0, .int 0, .int 0, .null, .int 0, .null, .int 0])), (n1, .inl (J.2.1, 120, .inl (fun _ => 0)))] := hD
  refine W.widen (k := 1) (n := 120) (Nat.le_of_ble_eq_true rfl) (Nat.le_of_ble_eq_true rfl) ?_
  refine va_putF (D := J.1) (ci := 7) (v := .ref n1) (ty := (.array .int)) (C := RX7) (T := TX7) (N := 10) hx hb hts inX7 tyX7 tyX7_ok nmX7 hown hK.1 hP hD hS 0 rfl rfl 0 (by decide) (hts _ q_133) (fun _ h9 => h9) rfl hin rfl (by decide +kernel) rfl rfl (Nat.le_of_ble_eq_true rfl) dX7_init_9 (fun H locs hP hD hS => ?_)
  have hP : va_P J.1 cls [(t, .inr (7, [.ref n1, .int 0, .null, .int 0, .int 0, .int 0, .null, .int 0, .null, .int 0])), (n1, .inl (J.2.1, 120, .inl (fun _ => 0)))] H := hP
  have hD : va_D A [(t, .inr (7, [.ref n1, .int 0, .null, .int 0, .int 0, .int 0, .null, .int 0, .null, .int 0])), (n1, .inl (J.2.1, 120, .inl (fun _ => 0)))] := hD
  refine lv_aload_n hx hb dX7_init_12 rfl (lv_at hl 0 rfl) ?_
  refine lv_sipush (v := 256) hx hb dX7_init_13 (by decide) ?_
  refine na_i (a0 := (0, .inl (fun _ => 0))) (N' := 256) hx hb hts q_165 hK hP hD hS hA (by decide) (by decide) (by decide) (Nat.le_of_ble_eq_true rfl) (Nat.le_of_ble_eq_true rfl) dX7_init_16 (fun n2 H hP hD hS => ?_)
  have hP : va_P J.1 cls [(t, .inr (7, [.ref n1, .int 0, .null, .int 0, .int 0, .int 0, .null, .int 0, .null, .int 0])), (n1, .inl (J.2.1, 120, .inl (fun _ => 0))), (n2, .inl (J.2.1, 256, .inl (fun _ => 0)))] H := hP
  have hD : va_D A [(t, .inr (7, [.ref n1, .int 0, .null, .int 0, .int 0, .int 0, .null, .int 0, .null, .int 0])), (n1, .inl (J.2.1, 120, .inl (fun _ => 0))), (n2, .inl (J.2.1, 256, .inl (fun _ => 0)))] := hD
  refine W.widen (k := 2) (n := 376) (Nat.le_of_ble_eq_true rfl) (Nat.le_of_ble_eq_true rfl) ?_
  refine va_putF (D := J.1) (ci := 7) (v := .ref n2) (ty := (.array .int)) (C := RX7) (T := TX7) (N := 10) hx hb hts inX7 tyX7 tyX7_ok nmX7 hown hK.1 hP hD hS 0 rfl rfl 2 (by decide) (hts _ q_136) (fun _ h9 => h9) rfl hin rfl (by decide +kernel) rfl rfl (Nat.le_of_ble_eq_true rfl) dX7_init_18 (fun H locs hP hD hS => ?_)
  have hP : va_P J.1 cls [(t, .inr (7, [.ref n1, .int 0, .ref n2, .int 0, .int 0, .int 0, .null, .int 0, .null, .int 0])), (n1, .inl (J.2.1, 120, .inl (fun _ => 0))), (n2, .inl (J.2.1, 256, .inl (fun _ => 0)))] H := hP
  have hD : va_D A [(t, .inr (7, [.ref n1, .int 0, .ref n2, .int 0, .int 0, .int 0, .null, .int 0, .null, .int 0])), (n1, .inl (J.2.1, 120, .inl (fun _ => 0))), (n2, .inl (J.2.1, 256, .inl (fun _ => 0)))] := hD
  refine lv_aload_n hx hb dX7_init_21 rfl (lv_at hl 0 rfl) ?_
  refine lv_sipush (v := 256) hx hb dX7_init_22 (by decide) ?_
  refine na_i (a0 := (0, .inl (fun _ => 0))) (N' := 256) hx hb hts q_165 hK hP hD hS hA (by decide) (by decide) (by decide) (Nat.le_of_ble_eq_true rfl) (Nat.le_of_ble_eq_true rfl) dX7_init_25 (fun n3 H hP hD hS => ?_)
  have hP : va_P J.1 cls [(t, .inr (7, [.ref n1, .int 0, .ref n2, .int 0, .int 0, .int 0, .null, .int 0, .null, .int 0])), (n1, .inl (J.2.1, 120, .inl (fun _ => 0))), (n2, .inl (J.2.1, 256, .inl (fun _ => 0))), (n3, .inl (J.2.1, 256, .inl (fun _ => 0)))] H := hP
  have hD : va_D A [(t, .inr (7, [.ref n1, .int 0, .ref n2, .int 0, .int 0, .int 0, .null, .int 0, .null, .int 0])), (n1, .inl (J.2.1, 120, .inl (fun _ => 0))), (n2, .inl (J.2.1, 256, .inl (fun _ => 0))), (n3, .inl (J.2.1, 256, .inl (fun _ => 0)))] := hD
  refine W.widen (k := 3) (n := 632) (Nat.le_of_ble_eq_true rfl) (Nat.le_of_ble_eq_true rfl) ?_
  refine va_putF (D := J.1) (ci := 7) (v := .ref n3) (ty := (.array .int)) (C := RX7) (T := TX7) (N := 10) hx hb hts inX7 tyX7 tyX7_ok nmX7 hown hK.1 hP hD hS 0 rfl rfl 6 (by decide) (hts _ q_140) (fun _ h9 => h9) rfl hin rfl (by decide +kernel) rfl rfl (Nat.le_of_ble_eq_true rfl) dX7_init_27 (fun H locs hP hD hS => ?_)
  have hP : va_P J.1 cls [(t, .inr (7, [.ref n1, .int 0, .ref n2, .int 0, .int 0, .int 0, .ref n3, .int 0, .null, .int 0])), (n1, .inl (J.2.1, 120, .inl (fun _ => 0))), (n2, .inl (J.2.1, 256, .inl (fun _ => 0))), (n3, .inl (J.2.1, 256, .inl (fun _ => 0)))] H := hP
  have hD : va_D A [(t, .inr (7, [.ref n1, .int 0, .ref n2, .int 0, .int 0, .int 0, .ref n3, .int 0, .null, .int 0])), (n1, .inl (J.2.1, 120, .inl (fun _ => 0))), (n2, .inl (J.2.1, 256, .inl (fun _ => 0))), (n3, .inl (J.2.1, 256, .inl (fun _ => 0)))] := hD
  refine lv_aload_n hx hb dX7_init_30 rfl (lv_at hl 0 rfl) ?_
  refine lv_sipush (v := 128) hx hb dX7_init_31 (by decide) ?_
  refine na_i (a0 := (0, .inl (fun _ => 0))) (N' := 128) hx hb hts q_165 hK hP hD hS hA (by decide) (by decide) (by decide) (Nat.le_of_ble_eq_true rfl) (Nat.le_of_ble_eq_true rfl) dX7_init_34 (fun n4 H hP hD hS => ?_)
  have hP : va_P J.1 cls [(t, .inr (7, [.ref n1, .int 0, .ref n2, .int 0, .int 0, .int 0, .ref n3, .int 0, .null, .int 0])), (n1, .inl (J.2.1, 120, .inl (fun _ => 0))), (n2, .inl (J.2.1, 256, .inl (fun _ => 0))), (n3, .inl (J.2.1, 256, .inl (fun _ => 0))), (n4, .inl (J.2.1, 128, .inl (fun _ => 0)))] H := hP
  have hD : va_D A [(t, .inr (7, [.ref n1, .int 0, .ref n2, .int 0, .int 0, .int 0, .ref n3, .int 0, .null, .int 0])), (n1, .inl (J.2.1, 120, .inl (fun _ => 0))), (n2, .inl (J.2.1, 256, .inl (fun _ => 0))), (n3, .inl (J.2.1, 256, .inl (fun _ => 0))), (n4, .inl (J.2.1, 128, .inl (fun _ => 0)))] := hD
  refine W.widen (k := 4) (n := 760) (Nat.le_of_ble_eq_true rfl) (Nat.le_of_ble_eq_true rfl) ?_
  refine va_putF (D := J.1) (ci := 7) (v := .ref n4) (ty := (.array .int)) (C := RX7) (T := TX7) (N := 10) hx hb hts inX7 tyX7 tyX7_ok nmX7 hown hK.1 hP hD hS 0 rfl rfl 8 (by decide) (hts _ q_142) (fun _ h9 => h9) rfl hin rfl (by decide +kernel) rfl rfl (Nat.le_of_ble_eq_true rfl) dX7_init_36 (fun H locs hP hD hS => ?_)
  have hP : va_P J.1 cls [(t, .inr (7, [.ref n1, .int 0, .ref n2, .int 0, .int 0, .int 0, .ref n3, .int 0, .ref n4, .int 0])), (n1, .inl (J.2.1, 120, .inl (fun _ => 0))), (n2, .inl (J.2.1, 256, .inl (fun _ => 0))), (n3, .inl (J.2.1, 256, .inl (fun _ => 0))), (n4, .inl (J.2.1, 128, .inl (fun _ => 0)))] H := hP
  have hD : va_D A [(t, .inr (7, [.ref n1, .int 0, .ref n2, .int 0, .int 0, .int 0, .ref n3, .int 0, .ref n4, .int 0])), (n1, .inl (J.2.1, 120, .inl (fun _ => 0))), (n2, .inl (J.2.1, 256, .inl (fun _ => 0))), (n3, .inl (J.2.1, 256, .inl (fun _ => 0))), (n4, .inl (J.2.1, 128, .inl (fun _ => 0)))] := hD
  refine W.widen (k := 4) (n := 760) (Nat.le_of_ble_eq_true rfl) (Nat.le_of_ble_eq_true rfl) ?_
  exact wz_v (fun k => [n1, n2, n3, n4].getD k 0) hx hb hr hlk trivial (hP.sub (ws' := [(t, .inr (7, [.ref n1, .int 0, .ref n2, .int 0, .int 0, .int 0, .ref n3, .int 0, .ref n4, .int 0])), (n1, .inl (J.2.1, 120, .inl (fun _ => 0))), (n2, .inl (J.2.1, 256, .inl (fun _ => 0)))]) [0, 1, 2] rfl) (hD.sub (ws' := [(t, .inr (7, [.ref n1, .int 0, .ref n2, .int 0, .int 0, .int 0, .ref n3, .int 0, .ref n4, .int 0])), (n1, .inl (J.2.1, 120, .inl (fun _ => 0))), (n2, .inl (J.2.1, 256, .inl (fun _ => 0)))]) [0, 1, 2] (by decide) rfl) hS dX7_init_39
theorem dX10_init_0 : decode cX10_init 0 = .ok (.aload_n 0, 1) := by decide +kernel
theorem q_171 : Cond.methodLink RX10 3 ⟨"java/lang/Object", "<init>", "()V"⟩ ∈ lw_g := mem_q 171 (by decide +kernel) rfl
theorem dX10_init_1 : decode cX10_init 1 = .ok (.invokespecial 3, 3) := by decide +kernel
theorem dX10_init_4 : decode cX10_init 4 = .ok (.aload_n 0, 1) := by decide +kernel
theorem dX10_init_5 : decode cX10_init 5 = .ok (.bipush 10, 2) := by decide +kernel
theorem dX10_init_7 : decode cX10_init 7 = .ok (.newarray .int, 2) := by decide +kernel
theorem dX10_init_9 : decode cX10_init 9 = .ok (.putfield 9, 3) := by decide +kernel
theorem dX10_init_12 : decode cX10_init 12 = .ok (.aload_n 0, 1) := by decide +kernel
theorem dX10_init_13 : decode cX10_init 13 = .ok (.bipush 10, 2) := by decide +kernel
theorem dX10_init_15 : decode cX10_init 15 = .ok (.newarray .int, 2) := by decide +kernel
theorem dX10_init_17 : decode cX10_init 17 = .ok (.putfield 15, 3) := by decide +kernel
theorem dX10_init_20 : decode cX10_init 20 = .ok (.aload_n 0, 1) := by decide +kernel
theorem dX10_init_21 : decode cX10_init 21 = .ok (.bipush 10, 2) := by decide +kernel
theorem dX10_init_23 : decode cX10_init 23 = .ok (.newarray .int, 2) := by decide +kernel
theorem dX10_init_25 : decode cX10_init 25 = .ok (.putfield 18, 3) := by decide +kernel
theorem dX10_init_28 : decode cX10_init 28 = .ok (.aload_n 0, 1) := by decide +kernel
theorem dX10_init_29 : decode cX10_init 29 = .ok (.iconst 1, 1) := by decide +kernel
theorem dX10_init_30 : decode cX10_init 30 = .ok (.putfield 21, 3) := by decide +kernel
theorem dX10_init_33 : decode cX10_init 33 = .ok (.aload_n 0, 1) := by decide +kernel
theorem dX10_init_34 : decode cX10_init 34 = .ok (.aload_n 1, 1) := by decide +kernel
theorem dX10_init_35 : decode cX10_init 35 = .ok (.putfield 25, 3) := by decide +kernel
theorem dX10_init_38 : decode cX10_init 38 = .ok (.return_, 1) := by decide +kernel
set_option maxHeartbeats 4000000 in
set_option maxRecDepth 100000 in
theorem n_Warren (l : Launch) (J : va_J9) (sz : Nat) (w : Nat) (t : Nat) : WC l J yX10_init cX10_init 2 none ({ frames := 1, cells := 3, slots := 30, locals := 24 }) [.ref w, .ref t] [(w, .inr (10, [.null, .null, .null, .null, .int 0, .int 0, .int 0, .int 0, .int 0, .int 0, .int 0]))] sz (Qv J (fun (u : Nat → Nat) => True) (fun (u : Nat → Nat) => [(w, .inr (10, [.ref t, .ref (u 0), .ref (u 1), .ref (u 2), .int 0, .int 0, .int 0, .int 0, .int 1, .int 0, .int 0])), ((u 0), .inl (J.2.1, 10, .inl (fun _ => 0))), ((u 1), .inl (J.2.1, 10, .inl (fun _ => 0))), ((u 2), .inl (J.2.1, 10, .inl (fun _ => 0)))])) 3 30 := by
  refine wc_of (by decide) (Nat.le_of_ble_eq_true rfl) ?_
  intro p e s m below meth c ls A hE hl hP hK hD hS hA
  obtain ⟨hx, hb, hr, hml, hown, hts, hlk, hin⟩ := hE
  have hown : s.vm.findClass RX10 = some m.cls := hown
  have hl : lv_has ls 2 [(0, .ref w), (1, .ref t)] := hl
  have hin : meth.name = "<init>" := hin
  refine lv_aload_n hx hb dX10_init_0 rfl (lv_at hl 0 rfl) ?_
  refine W.objInit hx hb hown (hts _ q_171) (hts _ q_125) (hts _ q_126) rfl (by rw [hml]; exact hl.1) rfl dX10_init_1 (Nat.le_of_ble_eq_true rfl) (Nat.le_of_ble_eq_true rfl) ?_
  refine W.eq (g2 := F0 m 4 ls []) rfl ?_
  refine lv_aload_n hx hb dX10_init_4 rfl (lv_at hl 0 rfl) ?_
  refine lv_bipush (v := 10) hx hb dX10_init_5 (by decide) ?_
  refine na_i (a0 := (0, .inl (fun _ => 0))) (N' := 10) hx hb hts q_165 hK hP hD hS hA (by decide) (by decide) (by decide) (Nat.le_of_ble_eq_true rfl) (Nat.le_of_ble_eq_true rfl) dX10_init_7 (fun n1 H hP hD hS => ?_)
  have hP : va_P J.1 cls [(w, .inr (10, [.null, .null, .null, .null, .int 0, .int 0, .int 0, .int 0, .int 0, .int 0, .int 0])), (n1, .inl (J.2.1, 10, .inl (fun _ => 0)))] H := hP
  have hD : va_D A [(w, .inr (10, [.null, .null, .null, .null, .int 0, .int 0, .int 0, .int 0, .int 0, .int 0, .int 0])), (n1, .inl (J.2.1, 10, .inl (fun _ => 0)))] := hD
  refine W.widen (k := 1) (n := 10) (Nat.le_of_ble_eq_true rfl) (Nat.le_of_ble_eq_true rfl) ?_
  refine va_putF (D := J.1) (ci := 10) (v := .ref n1) (ty := (.array .int)) (C := RX10) (T := TX10) (N := 11) hx hb hts inX10 tyX10 tyX10_ok nmX10 hown hK.1 hP hD hS 0 rfl rfl 1 (by decide) (hts _ q_173) (fun _ h9 => h9) rfl hin rfl (by decide +kernel) rfl rfl (Nat.le_of_ble_eq_true rfl) dX10_init_9 (fun H locs hP hD hS => ?_)
  have hP : va_P J.1 cls [(w, .inr (10, [.null, .ref n1, .null, .null, .int 0, .int 0, .int 0, .int 0, .int 0, .int 0, .int 0])), (n1, .inl (J.2.1, 10, .inl (fun _ => 0)))] H := hP
  have hD : va_D A [(w, .inr (10, [.null, .ref n1, .null, .null, .int 0, .int 0, .int 0, .int 0, .int 0, .int 0, .int 0])), (n1, .inl (J.2.1, 10, .inl (fun _ => 0)))] := hD
  refine lv_aload_n hx hb dX10_init_12 rfl (lv_at hl 0 rfl) ?_
  refine lv_bipush (v := 10) hx hb dX10_init_13 (by decide) ?_
  refine na_i (a0 := (0, .inl (fun _ => 0))) (N' := 10) hx hb hts q_165 hK hP hD hS hA (by decide) (by decide) (by decide) (Nat.le_of_ble_eq_true rfl) (Nat.le_of_ble_eq_true rfl) dX10_init_15 (fun n2 H hP hD hS => ?_)
  have hP : va_P J.1 cls [(w, .inr (10, [.null, .ref n1, .null, .null, .int 0, .int 0, .int 0, .int 0, .int 0, .int 0, .int 0])), (n1, .inl (J.2.1, 10, .inl (fun _ => 0))), (n2, .inl (J.2.1, 10, .inl (fun _ => 0)))] H := hP
  have hD : va_D A [(w, .inr (10, [.null, .ref n1, .null, .null, .int 0, .int 0, .int 0, .int 0, .int 0, .int 0, .int 0])), (n1, .inl (J.2.1, 10, .inl (fun _ => 0))), (n2, .inl (J.2.1, 10, .inl (fun _ => 0)))] := hD
  refine W.widen (k := 2) (n := 20) (Nat.le_of_ble_eq_true rfl) (Nat.le_of_ble_eq_true rfl) ?_
  refine va_putF (D := J.1) (ci := 10) (v := .ref n2) (ty := (.array .int)) (C := RX10) (T := TX10) (N := 11) hx hb hts inX10 tyX10 tyX10_ok nmX10 hown hK.1 hP hD hS 0 rfl rfl 2 (by decide) (hts _ q_174) (fun _ h9 => h9) rfl hin rfl (by decide +kernel) rfl rfl (Nat.le_of_ble_eq_true rfl) dX10_init_17 (fun H locs hP hD hS => ?_)
  have hP : va_P J.1 cls [(w, .inr (10, [.null, .ref n1, .ref n2, .null, .int 0, .int 0, .int 0, .int 0, .int 0, .int 0, .int 0])), (n1, .inl (J.2.1, 10, .inl (fun _ => 0))), (n2, .inl (J.2.1, 10, .inl (fun _ => 0)))] H := hP
  have hD : va_D A [(w, .inr (10, [.null, .ref n1, .ref n2, .null, .int 0, .int 0, .int 0, .int 0, .int 0, .int 0, .int 0])), (n1, .inl (J.2.1, 10, .inl (fun _ => 0))), (n2, .inl (J.2.1, 10, .inl (fun _ => 0)))] := hD
  refine lv_aload_n hx hb dX10_init_20 rfl (lv_at hl 0 rfl) ?_
  refine lv_bipush (v := 10) hx hb dX10_init_21 (by decide) ?_
  refine na_i (a0 := (0, .inl (fun _ => 0))) (N' := 10) hx hb hts q_165 hK hP hD hS hA (by decide) (by decide) (by decide) (Nat.le_of_ble_eq_true rfl) (Nat.le_of_ble_eq_true rfl) dX10_init_23 (fun n3 H hP hD hS => ?_)
  have hP : va_P J.1 cls [(w, .inr (10, [.null, .ref n1, .ref n2, .null, .int 0, .int 0, .int 0, .int 0, .int 0, .int 0, .int 0])), (n1, .inl (J.2.1, 10, .inl (fun _ => 0))), (n2, .inl (J.2.1, 10, .inl (fun _ => 0))), (n3, .inl (J.2.1, 10, .inl (fun _ => 0)))] H := hP
  have hD : va_D A [(w, .inr (10, [.null, .ref n1, .ref n2, .null, .int 0, .int 0, .int 0, .int 0, .int 0, .int 0, .int 0])), (n1, .inl (J.2.1, 10, .inl (fun _ => 0))), (n2, .inl (J.2.1, 10, .inl (fun _ => 0))), (n3, .inl (J.2.1, 10, .inl (fun _ => 0)))] := hD
  refine W.widen (k := 3) (n := 30) (Nat.le_of_ble_eq_true rfl) (Nat.le_of_ble_eq_true rfl) ?_
  refine va_putF (D := J.1) (ci := 10) (v := .ref n3) (ty := (.array .int)) (C := RX10) (T := TX10) (N := 11) hx hb hts inX10 tyX10 tyX10_ok nmX10 hown hK.1 hP hD hS 0 rfl rfl 3 (by decide) (hts _ q_175) (fun _ h9 => h9) rfl hin rfl (by decide +kernel) rfl rfl (Nat.le_of_ble_eq_true rfl) dX10_init_25 (fun H locs hP hD hS => ?_)
  have hP : va_P J.1 cls [(w, .inr (10, [.null, .ref n1, .ref n2, .ref n3, .int 0, .int 0, .int 0, .int 0, .int 0, .int 0, .int 0])), (n1, .inl (J.2.1, 10, .inl (fun _ => 0))), (n2, .inl (J.2.1, 10, .inl (fun _ => 0))), (n3, .inl (J.2.1, 10, .inl (fun _ => 0)))] H := hP
  have hD : va_D A [(w, .inr (10, [.null, .ref n1, .ref n2, .ref n3, .int 0, .int 0, .int 0, .int 0, .int 0, .int 0, .int 0])), (n1, .inl (J.2.1, 10, .inl (fun _ => 0))), (n2, .inl (J.2.1, 10, .inl (fun _ => 0))), (n3, .inl (J.2.1, 10, .inl (fun _ => 0)))] := hD
  refine lv_aload_n hx hb dX10_init_28 rfl (lv_at hl 0 rfl) ?_
  refine lv_iconst (v := 1) hx hb dX10_init_29 (by decide) ?_
  refine va_put (D := J.1) (ci := 10) (v := .int 1) (ty := (.int)) (C := RX10) (T := TX10) (N := 11) hx hb hts inX10 tyX10 tyX10_ok nmX10 hown hK.1 hP hD hS 0 rfl rfl 8 (by decide) (hts _ q_184) (fun _ h9 => h9) rfl (by decide +kernel) rfl rfl (Nat.le_of_ble_eq_true rfl) dX10_init_30 (fun H locs hP hD hS => ?_)
  have hP : va_P J.1 cls [(w, .inr (10, [.null, .ref n1, .ref n2, .ref n3, .int 0, .int 0, .int 0, .int 0, .int 1, .int 0, .int 0])), (n1, .inl (J.2.1, 10, .inl (fun _ => 0))), (n2, .inl (J.2.1, 10, .inl (fun _ => 0))), (n3, .inl (J.2.1, 10, .inl (fun _ => 0)))] H := hP
  have hD : va_D A [(w, .inr (10, [.null, .ref n1, .ref n2, .ref n3, .int 0, .int 0, .int 0, .int 0, .int 1, .int 0, .int 0])), (n1, .inl (J.2.1, 10, .inl (fun _ => 0))), (n2, .inl (J.2.1, 10, .inl (fun _ => 0))), (n3, .inl (J.2.1, 10, .inl (fun _ => 0)))] := hD
  refine lv_aload_n hx hb dX10_init_33 rfl (lv_at hl 0 rfl) ?_
  refine lv_aload_n hx hb dX10_init_34 rfl (lv_at hl 1 rfl) ?_
  refine va_putF (D := J.1) (ci := 10) (v := .ref t) (ty := (.object "FoxHoles$Law")) (C := RX10) (T := TX10) (N := 11) hx hb hts inX10 tyX10 tyX10_ok nmX10 hown hK.1 hP hD hS 0 rfl rfl 0 (by decide) (hts _ q_172) (fun _ h9 => h9) rfl hin rfl (by decide +kernel) rfl rfl (Nat.le_of_ble_eq_true rfl) dX10_init_35 (fun H locs hP hD hS => ?_)
  have hP : va_P J.1 cls [(w, .inr (10, [.ref t, .ref n1, .ref n2, .ref n3, .int 0, .int 0, .int 0, .int 0, .int 1, .int 0, .int 0])), (n1, .inl (J.2.1, 10, .inl (fun _ => 0))), (n2, .inl (J.2.1, 10, .inl (fun _ => 0))), (n3, .inl (J.2.1, 10, .inl (fun _ => 0)))] H := hP
  have hD : va_D A [(w, .inr (10, [.ref t, .ref n1, .ref n2, .ref n3, .int 0, .int 0, .int 0, .int 0, .int 1, .int 0, .int 0])), (n1, .inl (J.2.1, 10, .inl (fun _ => 0))), (n2, .inl (J.2.1, 10, .inl (fun _ => 0))), (n3, .inl (J.2.1, 10, .inl (fun _ => 0)))] := hD
  refine W.widen (k := 3) (n := 30) (Nat.le_of_ble_eq_true rfl) (Nat.le_of_ble_eq_true rfl) ?_
  exact wz_v (fun k => [n1, n2, n3].getD k 0) hx hb hr hlk trivial hP hD hS dX10_init_38
theorem dX2_init_0 : decode cX2_init 0 = .ok (.aload_n 0, 1) := by decide +kernel
theorem q_222 : Cond.methodLink RX2 3 ⟨"java/lang/Object", "<init>", "()V"⟩ ∈ lw_g := mem_q 222 (by decide +kernel) rfl
theorem dX2_init_1 : decode cX2_init 1 = .ok (.invokespecial 3, 3) := by decide +kernel
theorem dX2_init_4 : decode cX2_init 4 = .ok (.aload_n 0, 1) := by decide +kernel
theorem dX2_init_5 : decode cX2_init 5 = .ok (.bipush 40, 2) := by decide +kernel
theorem dX2_init_7 : decode cX2_init 7 = .ok (.newarray .int, 2) := by decide +kernel
theorem dX2_init_9 : decode cX2_init 9 = .ok (.putfield 11, 3) := by decide +kernel
theorem dX2_init_12 : decode cX2_init 12 = .ok (.aload_n 0, 1) := by decide +kernel
theorem dX2_init_13 : decode cX2_init 13 = .ok (.bipush 40, 2) := by decide +kernel
theorem dX2_init_15 : decode cX2_init 15 = .ok (.newarray .int, 2) := by decide +kernel
theorem dX2_init_17 : decode cX2_init 17 = .ok (.putfield 15, 3) := by decide +kernel
theorem dX2_init_20 : decode cX2_init 20 = .ok (.aload_n 0, 1) := by decide +kernel
theorem dX2_init_21 : decode cX2_init 21 = .ok (.bipush 40, 2) := by decide +kernel
theorem dX2_init_23 : decode cX2_init 23 = .ok (.newarray .int, 2) := by decide +kernel
theorem dX2_init_25 : decode cX2_init 25 = .ok (.putfield 18, 3) := by decide +kernel
theorem dX2_init_28 : decode cX2_init 28 = .ok (.aload_n 0, 1) := by decide +kernel
theorem dX2_init_29 : decode cX2_init 29 = .ok (.bipush 40, 2) := by decide +kernel
theorem dX2_init_31 : decode cX2_init 31 = .ok (.newarray .int, 2) := by decide +kernel
theorem dX2_init_33 : decode cX2_init 33 = .ok (.putfield 21, 3) := by decide +kernel
theorem dX2_init_36 : decode cX2_init 36 = .ok (.aload_n 0, 1) := by decide +kernel
theorem dX2_init_37 : decode cX2_init 37 = .ok (.aload_n 1, 1) := by decide +kernel
theorem q_223 : Cond.fieldLink RX2 24 RX2 "warren" "LFoxHoles$Warren;" ∈ lw_g := mem_q 223 (by decide +kernel) rfl
theorem dX2_init_38 : decode cX2_init 38 = .ok (.putfield 24, 3) := by decide +kernel
theorem dX2_init_41 : decode cX2_init 41 = .ok (.return_, 1) := by decide +kernel
set_option maxHeartbeats 4000000 in
set_option maxRecDepth 100000 in
theorem n_Changes (l : Launch) (J : va_J9) (sz : Nat) (c0 : Nat) (w : Nat) : WC l J yX2_init cX2_init 2 none ({ frames := 1, cells := 4, slots := 160, locals := 24 }) [.ref c0, .ref w] [(c0, .inr (2, [.null, .null, .null, .null, .null, .int 0, .int 0]))] sz (Qv J (fun (u : Nat → Nat) => True) (fun (u : Nat → Nat) => [(c0, .inr (2, [.ref w, .ref (u 0), .ref (u 1), .ref (u 2), .ref (u 3), .int 0, .int 0])), ((u 0), .inl (J.2.1, 40, .inl (fun _ => 0))), ((u 1), .inl (J.2.1, 40, .inl (fun _ => 0))), ((u 2), .inl (J.2.1, 40, .inl (fun _ => 0))), ((u 3), .inl (J.2.1, 40, .inl (fun _ => 0)))])) 4 160 := by
  refine wc_of (by decide) (Nat.le_of_ble_eq_true rfl) ?_
  intro p e s m below meth c ls A hE hl hP hK hD hS hA
  obtain ⟨hx, hb, hr, hml, hown, hts, hlk, hin⟩ := hE
  have hown : s.vm.findClass RX2 = some m.cls := hown
  have hl : lv_has ls 2 [(0, .ref c0), (1, .ref w)] := hl
  have hin : meth.name = "<init>" := hin
  refine lv_aload_n hx hb dX2_init_0 rfl (lv_at hl 0 rfl) ?_
  refine W.objInit hx hb hown (hts _ q_222) (hts _ q_125) (hts _ q_126) rfl (by rw [hml]; exact hl.1) rfl dX2_init_1 (Nat.le_of_ble_eq_true rfl) (Nat.le_of_ble_eq_true rfl) ?_
  refine W.eq (g2 := F0 m 4 ls []) rfl ?_
  refine lv_aload_n hx hb dX2_init_4 rfl (lv_at hl 0 rfl) ?_
  refine lv_bipush (v := 40) hx hb dX2_init_5 (by decide) ?_
  refine na_i (a0 := (0, .inl (fun _ => 0))) (N' := 40) hx hb hts q_165 hK hP hD hS hA (by decide) (by decide) (by decide) (Nat.le_of_ble_eq_true rfl) (Nat.le_of_ble_eq_true rfl) dX2_init_7 (fun n1 H hP hD hS => ?_)
  have hP : va_P J.1 cls [(c0, .inr (2, [.null, .null, .null, .null, .null, .int 0, .int 0])), (n1, .inl (J.2.1, 40, .inl (fun _ => 0)))] H := hP
  have hD : va_D A [(c0, .inr (2, [.null, .null, .null, .null, .null, .int 0, .int 0])), (n1, .inl (J.2.1, 40, .inl (fun _ => 0)))] := hD
  refine W.widen (k := 1) (n := 40) (Nat.le_of_ble_eq_true rfl) (Nat.le_of_ble_eq_true rfl) ?_
  refine va_putF (D := J.1) (ci := 2) (v := .ref n1) (ty := (.array .int)) (C := RX2) (T := TX2) (N := 7) hx hb hts inX2 tyX2 tyX2_ok nmX2 hown hK.1 hP hD hS 0 rfl rfl 1 (by decide) (hts _ q_224) (fun _ h9 => h9) rfl hin rfl (by decide +kernel) rfl rfl (Nat.le_of_ble_eq_true rfl) dX2_init_9 (fun H locs hP hD hS => ?_)
  have hP : va_P J.1 cls [(c0, .inr (2, [.null, .ref n1, .null, .null, .null, .int 0, .int 0])), (n1, .inl (J.2.1, 40, .inl (fun _ => 0)))] H := hP
  have hD : va_D A [(c0, .inr (2, [.null, .ref n1, .null, .null, .null, .int 0, .int 0])), (n1, .inl (J.2.1, 40, .inl (fun _ => 0)))] := hD
  refine lv_aload_n hx hb dX2_init_12 rfl (lv_at hl 0 rfl) ?_
  refine lv_bipush (v := 40) hx hb dX2_init_13 (by decide) ?_
  refine na_i (a0 := (0, .inl (fun _ => 0))) (N' := 40) hx hb hts q_165 hK hP hD hS hA (by decide) (by decide) (by decide) (Nat.le_of_ble_eq_true rfl) (Nat.le_of_ble_eq_true rfl) dX2_init_15 (fun n2 H hP hD hS => ?_)
  have hP : va_P J.1 cls [(c0, .inr (2, [.null, .ref n1, .null, .null, .null, .int 0, .int 0])), (n1, .inl (J.2.1, 40, .inl (fun _ => 0))), (n2, .inl (J.2.1, 40, .inl (fun _ => 0)))] H := hP
  have hD : va_D A [(c0, .inr (2, [.null, .ref n1, .null, .null, .null, .int 0, .int 0])), (n1, .inl (J.2.1, 40, .inl (fun _ => 0))), (n2, .inl (J.2.1, 40, .inl (fun _ => 0)))] := hD
  refine W.widen (k := 2) (n := 80) (Nat.le_of_ble_eq_true rfl) (Nat.le_of_ble_eq_true rfl) ?_
  refine va_putF (D := J.1) (ci := 2) (v := .ref n2) (ty := (.array .int)) (C := RX2) (T := TX2) (N := 7) hx hb hts inX2 tyX2 tyX2_ok nmX2 hown hK.1 hP hD hS 0 rfl rfl 2 (by decide) (hts _ q_225) (fun _ h9 => h9) rfl hin rfl (by decide +kernel) rfl rfl (Nat.le_of_ble_eq_true rfl) dX2_init_17 (fun H locs hP hD hS => ?_)
  have hP : va_P J.1 cls [(c0, .inr (2, [.null, .ref n1, .ref n2, .null, .null, .int 0, .int 0])), (n1, .inl (J.2.1, 40, .inl (fun _ => 0))), (n2, .inl (J.2.1, 40, .inl (fun _ => 0)))] H := hP
  have hD : va_D A [(c0, .inr (2, [.null, .ref n1, .ref n2, .null, .null, .int 0, .int 0])), (n1, .inl (J.2.1, 40, .inl (fun _ => 0))), (n2, .inl (J.2.1, 40, .inl (fun _ => 0)))] := hD
  refine lv_aload_n hx hb dX2_init_20 rfl (lv_at hl 0 rfl) ?_
  refine lv_bipush (v := 40) hx hb dX2_init_21 (by decide) ?_
  refine na_i (a0 := (0, .inl (fun _ => 0))) (N' := 40) hx hb hts q_165 hK hP hD hS hA (by decide) (by decide) (by decide) (Nat.le_of_ble_eq_true rfl) (Nat.le_of_ble_eq_true rfl) dX2_init_23 (fun n3 H hP hD hS => ?_)
  have hP : va_P J.1 cls [(c0, .inr (2, [.null, .ref n1, .ref n2, .null, .null, .int 0, .int 0])), (n1, .inl (J.2.1, 40, .inl (fun _ => 0))), (n2, .inl (J.2.1, 40, .inl (fun _ => 0))), (n3, .inl (J.2.1, 40, .inl (fun _ => 0)))] H := hP
  have hD : va_D A [(c0, .inr (2, [.null, .ref n1, .ref n2, .null, .null, .int 0, .int 0])), (n1, .inl (J.2.1, 40, .inl (fun _ => 0))), (n2, .inl (J.2.1, 40, .inl (fun _ => 0))), (n3, .inl (J.2.1, 40, .inl (fun _ => 0)))] := hD
  refine W.widen (k := 3) (n := 120) (Nat.le_of_ble_eq_true rfl) (Nat.le_of_ble_eq_true rfl) ?_
  refine va_putF (D := J.1) (ci := 2) (v := .ref n3) (ty := (.array .int)) (C := RX2) (T := TX2) (N := 7) hx hb hts inX2 tyX2 tyX2_ok nmX2 hown hK.1 hP hD hS 0 rfl rfl 3 (by decide) (hts _ q_226) (fun _ h9 => h9) rfl hin rfl (by decide +kernel) rfl rfl (Nat.le_of_ble_eq_true rfl) dX2_init_25 (fun H locs hP hD hS => ?_)
  have hP : va_P J.1 cls [(c0, .inr (2, [.null, .ref n1, .ref n2, .ref n3, .null, .int 0, .int 0])), (n1, .inl (J.2.1, 40, .inl (fun _ => 0))), (n2, .inl (J.2.1, 40, .inl (fun _ => 0))), (n3, .inl (J.2.1, 40, .inl (fun _ => 0)))] H := hP
  have hD : va_D A [(c0, .inr (2, [.null, .ref n1, .ref n2, .ref n3, .null, .int 0, .int 0])), (n1, .inl (J.2.1, 40, .inl (fun _ => 0))), (n2, .inl (J.2.1, 40, .inl (fun _ => 0))), (n3, .inl (J.2.1, 40, .inl (fun _ => 0)))] := hD
  refine lv_aload_n hx hb dX2_init_28 rfl (lv_at hl 0 rfl) ?_
  refine lv_bipush (v := 40) hx hb dX2_init_29 (by decide) ?_
  refine na_i (a0 := (0, .inl (fun _ => 0))) (N' := 40) hx hb hts q_165 hK hP hD hS hA (by decide) (by decide) (by decide) (Nat.le_of_ble_eq_true rfl) (Nat.le_of_ble_eq_true rfl) dX2_init_31 (fun n4 H hP hD hS => ?_)
  have hP : va_P J.1 cls [(c0, .inr (2, [.null, .ref n1, .ref n2, .ref n3, .null, .int 0, .int 0])), (n1, .inl (J.2.1, 40, .inl (fun _ => 0))), (n2, .inl (J.2.1, 40, .inl (fun _ => 0))), (n3, .inl (J.2.1, 40, .inl (fun _ => 0))), (n4, .inl (J.2.1, 40, .inl (fun _ => 0)))] H := hP
  have hD : va_D A [(c0, .inr (2, [.null, .ref n1, .ref n2, .ref n3, .null, .int 0, .int 0])), (n1, .inl (J.2.1, 40, .inl (fun _ => 0))), (n2, .inl (J.2.1, 40, .inl (fun _ => 0))), (n3, .inl (J.2.1, 40, .inl (fun _ => 0))), (n4, .inl (J.2.1, 40, .inl (fun _ => 0)))] := hD
  refine W.widen (k := 4) (n := 160) (Nat.le_of_ble_eq_true rfl) (Nat.le_of_ble_eq_true rfl) ?_
  refine va_putF (D := J.1) (ci := 2) (v := .ref n4) (ty := (.array .int)) (C := RX2) (T := TX2) (N := 7) hx hb hts inX2 tyX2 tyX2_ok nmX2 hown hK.1 hP hD hS 0 rfl rfl 4 (by decide) (hts _ q_227) (fun _ h9 => h9) rfl hin rfl (by decide +kernel) rfl rfl (Nat.le_of_ble_eq_true rfl) dX2_init_33 (fun H locs hP hD hS => ?_)
  have hP : va_P J.1 cls [(c0, .inr (2, [.null, .ref n1, .ref n2, .ref n3, .ref n4, .int 0, .int 0])), (n1, .inl (J.2.1, 40, .inl (fun _ => 0))), (n2, .inl (J.2.1, 40, .inl (fun _ => 0))), (n3, .inl (J.2.1, 40, .inl (fun _ => 0))), (n4, .inl (J.2.1, 40, .inl (fun _ => 0)))] H := hP
  have hD : va_D A [(c0, .inr (2, [.null, .ref n1, .ref n2, .ref n3, .ref n4, .int 0, .int 0])), (n1, .inl (J.2.1, 40, .inl (fun _ => 0))), (n2, .inl (J.2.1, 40, .inl (fun _ => 0))), (n3, .inl (J.2.1, 40, .inl (fun _ => 0))), (n4, .inl (J.2.1, 40, .inl (fun _ => 0)))] := hD
  refine lv_aload_n hx hb dX2_init_36 rfl (lv_at hl 0 rfl) ?_
  refine lv_aload_n hx hb dX2_init_37 rfl (lv_at hl 1 rfl) ?_
  refine va_putF (D := J.1) (ci := 2) (v := .ref w) (ty := (.object "FoxHoles$Warren")) (C := RX2) (T := TX2) (N := 7) hx hb hts inX2 tyX2 tyX2_ok nmX2 hown hK.1 hP hD hS 0 rfl rfl 0 (by decide) (hts _ q_223) (fun _ h9 => h9) rfl hin rfl (by decide +kernel) rfl rfl (Nat.le_of_ble_eq_true rfl) dX2_init_38 (fun H locs hP hD hS => ?_)
  have hP : va_P J.1 cls [(c0, .inr (2, [.ref w, .ref n1, .ref n2, .ref n3, .ref n4, .int 0, .int 0])), (n1, .inl (J.2.1, 40, .inl (fun _ => 0))), (n2, .inl (J.2.1, 40, .inl (fun _ => 0))), (n3, .inl (J.2.1, 40, .inl (fun _ => 0))), (n4, .inl (J.2.1, 40, .inl (fun _ => 0)))] H := hP
  have hD : va_D A [(c0, .inr (2, [.ref w, .ref n1, .ref n2, .ref n3, .ref n4, .int 0, .int 0])), (n1, .inl (J.2.1, 40, .inl (fun _ => 0))), (n2, .inl (J.2.1, 40, .inl (fun _ => 0))), (n3, .inl (J.2.1, 40, .inl (fun _ => 0))), (n4, .inl (J.2.1, 40, .inl (fun _ => 0)))] := hD
  refine W.widen (k := 4) (n := 160) (Nat.le_of_ble_eq_true rfl) (Nat.le_of_ble_eq_true rfl) ?_
  exact wz_v (fun k => [n1, n2, n3, n4].getD k 0) hx hb hr hlk trivial hP hD hS dX2_init_41
theorem dX8_init_0 : decode cX8_init 0 = .ok (.aload_n 0, 1) := by decide +kernel
theorem q_251 : Cond.methodLink RX8 3 ⟨"java/lang/Object", "<init>", "()V"⟩ ∈ lw_g := mem_q 251 (by decide +kernel) rfl
theorem dX8_init_1 : decode cX8_init 1 = .ok (.invokespecial 3, 3) := by decide +kernel
theorem dX8_init_4 : decode cX8_init 4 = .ok (.aload_n 0, 1) := by decide +kernel
theorem dX8_init_5 : decode cX8_init 5 = .ok (.bipush 60, 2) := by decide +kernel
theorem dX8_init_7 : decode cX8_init 7 = .ok (.newarray .int, 2) := by decide +kernel
theorem q_253 : Cond.fieldLink RX8 9 RX8 "left" "[I" ∈ lw_g := mem_q 253 (by decide +kernel) rfl
theorem dX8_init_9 : decode cX8_init 9 = .ok (.putfield 9, 3) := by decide +kernel
theorem dX8_init_12 : decode cX8_init 12 = .ok (.aload_n 0, 1) := by decide +kernel
theorem dX8_init_13 : decode cX8_init 13 = .ok (.aload_n 1, 1) := by decide +kernel
theorem q_252 : Cond.fieldLink RX8 15 RX8 "warren" "LFoxHoles$Warren;" ∈ lw_g := mem_q 252 (by decide +kernel) rfl
theorem dX8_init_14 : decode cX8_init 14 = .ok (.putfield 15, 3) := by decide +kernel
theorem dX8_init_17 : decode cX8_init 17 = .ok (.return_, 1) := by decide +kernel
set_option maxHeartbeats 4000000 in
set_option maxRecDepth 100000 in
theorem n_Looks (l : Launch) (J : va_J9) (sz : Nat) (lk : Nat) (w : Nat) : WC l J yX8_init cX8_init 2 none ({ frames := 1, cells := 1, slots := 60, locals := 24 }) [.ref lk, .ref w] [(lk, .inr (8, [.null, .null]))] sz (Qv J (fun (u : Nat → Nat) => True) (fun (u : Nat → Nat) => [])) 1 60 := by
  refine wc_of (by decide) (Nat.le_of_ble_eq_true rfl) ?_
  intro p e s m below meth c ls A hE hl hP hK hD hS hA
  obtain ⟨hx, hb, hr, hml, hown, hts, hlk, hin⟩ := hE
  have hown : s.vm.findClass RX8 = some m.cls := hown
  have hl : lv_has ls 2 [(0, .ref lk), (1, .ref w)] := hl
  have hin : meth.name = "<init>" := hin
  refine lv_aload_n hx hb dX8_init_0 rfl (lv_at hl 0 rfl) ?_
  refine W.objInit hx hb hown (hts _ q_251) (hts _ q_125) (hts _ q_126) rfl (by rw [hml]; exact hl.1) rfl dX8_init_1 (Nat.le_of_ble_eq_true rfl) (Nat.le_of_ble_eq_true rfl) ?_
  refine W.eq (g2 := F0 m 4 ls []) rfl ?_
  refine lv_aload_n hx hb dX8_init_4 rfl (lv_at hl 0 rfl) ?_
  refine lv_bipush (v := 60) hx hb dX8_init_5 (by decide) ?_
  refine na_i (a0 := (0, .inl (fun _ => 0))) (N' := 60) hx hb hts q_165 hK hP hD hS hA (by decide) (by decide) (by decide) (Nat.le_of_ble_eq_true rfl) (Nat.le_of_ble_eq_true rfl) dX8_init_7 (fun n1 H hP hD hS => ?_)
  have hP : va_P J.1 cls [(lk, .inr (8, [.null, .null])), (n1, .inl (J.2.1, 60, .inl (fun _ => 0)))] H := hP
  have hD : va_D A [(lk, .inr (8, [.null, .null])), (n1, .inl (J.2.1, 60, .inl (fun _ => 0)))] := hD
  refine W.widen (k := 1) (n := 60) (Nat.le_of_ble_eq_true rfl) (Nat.le_of_ble_eq_true rfl) ?_
  refine va_putF (D := J.1) (ci := 8) (v := .ref n1) (ty := (.array .int)) (C := RX8) (T := TX8) (N := 2) hx hb hts inX8 tyX8 tyX8_ok nmX8 hown hK.1 hP hD hS 0 rfl rfl 1 (by decide) (hts _ q_253) (fun _ h9 => h9) rfl hin rfl (by decide +kernel) rfl rfl (Nat.le_of_ble_eq_true rfl) dX8_init_9 (fun H locs hP hD hS => ?_)
  have hP : va_P J.1 cls [(lk, .inr (8, [.null, .ref n1])), (n1, .inl (J.2.1, 60, .inl (fun _ => 0)))] H := hP
  have hD : va_D A [(lk, .inr (8, [.null, .ref n1])), (n1, .inl (J.2.1, 60, .inl (fun _ => 0)))] := hD
  refine lv_aload_n hx hb dX8_init_12 rfl (lv_at hl 0 rfl) ?_
  refine lv_aload_n hx hb dX8_init_13 rfl (lv_at hl 1 rfl) ?_
  refine va_putF (D := J.1) (ci := 8) (v := .ref w) (ty := (.object "FoxHoles$Warren")) (C := RX8) (T := TX8) (N := 2) hx hb hts inX8 tyX8 tyX8_ok nmX8 hown hK.1 hP hD hS 0 rfl rfl 0 (by decide) (hts _ q_252) (fun _ h9 => h9) rfl hin rfl (by decide +kernel) rfl rfl (Nat.le_of_ble_eq_true rfl) dX8_init_14 (fun H locs hP hD hS => ?_)
  have hP : va_P J.1 cls [(lk, .inr (8, [.ref w, .ref n1])), (n1, .inl (J.2.1, 60, .inl (fun _ => 0)))] H := hP
  have hD : va_D A [(lk, .inr (8, [.ref w, .ref n1])), (n1, .inl (J.2.1, 60, .inl (fun _ => 0)))] := hD
  refine W.widen (k := 1) (n := 60) (Nat.le_of_ble_eq_true rfl) (Nat.le_of_ble_eq_true rfl) ?_
  exact wz_v (fun k => [].getD k 0) hx hb hr hlk trivial (hP.sub (ws' := []) [] rfl) (hD.sub (ws' := []) [] (by decide) rfl) hS dX8_init_17
theorem dX6_init_0 : decode cX6_init 0 = .ok (.aload_n 0, 1) := by decide +kernel
theorem q_264 : Cond.methodLink RX6 5 ⟨"java/lang/Object", "<init>", "()V"⟩ ∈ lw_g := mem_q 264 (by decide +kernel) rfl
theorem dX6_init_1 : decode cX6_init 1 = .ok (.invokespecial 5, 3) := by decide +kernel
theorem dX6_init_4 : decode cX6_init 4 = .ok (.aload_n 0, 1) := by decide +kernel
theorem dX6_init_5 : decode cX6_init 5 = .ok (.sipush 7168, 3) := by decide +kernel
theorem dX6_init_8 : decode cX6_init 8 = .ok (.newarray .int, 2) := by decide +kernel
theorem q_266 : Cond.fieldLink RX6 11 RX6 "trail" "[I" ∈ lw_g := mem_q 266 (by decide +kernel) rfl
theorem dX6_init_10 : decode cX6_init 10 = .ok (.putfield 11, 3) := by decide +kernel
theorem dX6_init_13 : decode cX6_init 13 = .ok (.aload_n 0, 1) := by decide +kernel
theorem dX6_init_14 : decode cX6_init 14 = .ok (.sipush 7168, 3) := by decide +kernel
theorem dX6_init_17 : decode cX6_init 17 = .ok (.newarray .int, 2) := by decide +kernel
theorem q_267 : Cond.fieldLink RX6 15 RX6 "queue" "[I" ∈ lw_g := mem_q 267 (by decide +kernel) rfl
theorem dX6_init_19 : decode cX6_init 19 = .ok (.putfield 15, 3) := by decide +kernel
theorem dX6_init_22 : decode cX6_init 22 = .ok (.aload_n 0, 1) := by decide +kernel
theorem dX6_init_23 : decode cX6_init 23 = .ok (.bipush 32, 2) := by decide +kernel
theorem dX6_init_25 : decode cX6_init 25 = .ok (.newarray .int, 2) := by decide +kernel
theorem dX6_init_27 : decode cX6_init 27 = .ok (.putfield 18, 3) := by decide +kernel
theorem dX6_init_30 : decode cX6_init 30 = .ok (.aload_n 0, 1) := by decide +kernel
theorem dX6_init_31 : decode cX6_init 31 = .ok (.bipush 32, 2) := by decide +kernel
theorem dX6_init_33 : decode cX6_init 33 = .ok (.newarray .int, 2) := by decide +kernel
theorem dX6_init_35 : decode cX6_init 35 = .ok (.putfield 21, 3) := by decide +kernel
theorem dX6_init_38 : decode cX6_init 38 = .ok (.aload_n 0, 1) := by decide +kernel
theorem dX6_init_39 : decode cX6_init 39 = .ok (.iconst (-1), 1) := by decide +kernel
theorem dX6_init_40 : decode cX6_init 40 = .ok (.putfield 24, 3) := by decide +kernel
theorem dX6_init_43 : decode cX6_init 43 = .ok (.aload_n 0, 1) := by decide +kernel
theorem dX6_init_44 : decode cX6_init 44 = .ok (.aload_n 1, 1) := by decide +kernel
theorem dX6_init_45 : decode cX6_init 45 = .ok (.putfield 28, 3) := by decide +kernel
theorem dX6_init_48 : decode cX6_init 48 = .ok (.return_, 1) := by decide +kernel
set_option maxHeartbeats 4000000 in
set_option maxRecDepth 100000 in
theorem n_Hunt (l : Launch) (J : va_J9) (sz : Nat) (hu : Nat) (w : Nat) : WC l J yX6_init cX6_init 2 none ({ frames := 1, cells := 4, slots := 14400, locals := 24 }) [.ref hu, .ref w] [(hu, .inr (6, [.null, .null, .null, .int 0, .null, .null, .int 0, .int 0, .int 0, .int 0, .int 0]))] sz (Qv J (fun (u : Nat → Nat) => True) (fun (u : Nat → Nat) => [(hu, .inr (6, [.ref w, .ref (u 0), .ref (u 1), .int 0, .ref (u 2), .ref (u 3), .int 0, .int 0, .int 0, .int 0, .int (-1)])), ((u 2), .inl (J.2.1, 32, .inl (fun _ => 0))), ((u 3), .inl (J.2.1, 32, .inl (fun _ => 0)))])) 4 14400 := by
  refine wc_of (by decide) (Nat.le_of_ble_eq_true rfl) ?_
  intro p e s m below meth c ls A hE hl hP hK hD hS hA
  obtain ⟨hx, hb, hr, hml, hown, hts, hlk, hin⟩ := hE
  have hown : s.vm.findClass RX6 = some m.cls := hown
  have hl : lv_has ls 2 [(0, .ref hu), (1, .ref w)] := hl
  have hin : meth.name = "<init>" := hin
  refine lv_aload_n hx hb dX6_init_0 rfl (lv_at hl 0 rfl) ?_
  refine W.objInit hx hb hown (hts _ q_264) (hts _ q_125) (hts _ q_126) rfl (by rw [hml]; exact hl.1) rfl dX6_init_1 (Nat.le_of_ble_eq_true rfl) (Nat.le_of_ble_eq_true rfl) ?_
  refine W.eq (g2 := F0 m 4 ls []) rfl ?_
  refine lv_aload_n hx hb dX6_init_4 rfl (lv_at hl 0 rfl) ?_
  refine lv_sipush (v := 7168) hx hb dX6_init_5 (by decide) ?_
  refine na_i (a0 := (0, .inl (fun _ => 0))) (N' := 7168) hx hb hts q_165 hK hP hD hS hA (by decide) (by decide) (by decide) (Nat.le_of_ble_eq_true rfl) (Nat.le_of_ble_eq_true rfl) dX6_init_8 (fun n1 H hP hD hS => ?_)
  have hP : va_P J.1 cls [(hu, .inr (6, [.null, .null, .null, .int 0, .null, .null, .int 0, .int 0, .int 0, .int 0, .int 0])), (n1, .inl (J.2.1, 7168, .inl (fun _ => 0)))] H := hP
  have hD : va_D A [(hu, .inr (6, [.null, .null, .null, .int 0, .null, .null, .int 0, .int 0, .int 0, .int 0, .int 0])), (n1, .inl (J.2.1, 7168, .inl (fun _ => 0)))] := hD
  refine W.widen (k := 1) (n := 7168) (Nat.le_of_ble_eq_true rfl) (Nat.le_of_ble_eq_true rfl) ?_
  refine va_putF (D := J.1) (ci := 6) (v := .ref n1) (ty := (.array .int)) (C := RX6) (T := TX6) (N := 11) hx hb hts inX6 tyX6 tyX6_ok nmX6 hown hK.1 hP hD hS 0 rfl rfl 1 (by decide) (hts _ q_266) (fun _ h9 => h9) rfl hin rfl (by decide +kernel) rfl rfl (Nat.le_of_ble_eq_true rfl) dX6_init_10 (fun H locs hP hD hS => ?_)
  have hP : va_P J.1 cls [(hu, .inr (6, [.null, .ref n1, .null, .int 0, .null, .null, .int 0, .int 0, .int 0, .int 0, .int 0])), (n1, .inl (J.2.1, 7168, .inl (fun _ => 0)))] H := hP
  have hD : va_D A [(hu, .inr (6, [.null, .ref n1, .null, .int 0, .null, .null, .int 0, .int 0, .int 0, .int 0, .int 0])), (n1, .inl (J.2.1, 7168, .inl (fun _ => 0)))] := hD
  refine lv_aload_n hx hb dX6_init_13 rfl (lv_at hl 0 rfl) ?_
  refine lv_sipush (v := 7168) hx hb dX6_init_14 (by decide) ?_
  refine na_i (a0 := (0, .inl (fun _ => 0))) (N' := 7168) hx hb hts q_165 hK hP hD hS hA (by decide) (by decide) (by decide) (Nat.le_of_ble_eq_true rfl) (Nat.le_of_ble_eq_true rfl) dX6_init_17 (fun n2 H hP hD hS => ?_)
  have hP : va_P J.1 cls [(hu, .inr (6, [.null, .ref n1, .null, .int 0, .null, .null, .int 0, .int 0, .int 0, .int 0, .int 0])), (n1, .inl (J.2.1, 7168, .inl (fun _ => 0))), (n2, .inl (J.2.1, 7168, .inl (fun _ => 0)))] H := hP
  have hD : va_D A [(hu, .inr (6, [.null, .ref n1, .null, .int 0, .null, .null, .int 0, .int 0, .int 0, .int 0, .int 0])), (n1, .inl (J.2.1, 7168, .inl (fun _ => 0))), (n2, .inl (J.2.1, 7168, .inl (fun _ => 0)))] := hD
  refine W.widen (k := 2) (n := 14336) (Nat.le_of_ble_eq_true rfl) (Nat.le_of_ble_eq_true rfl) ?_
  refine va_putF (D := J.1) (ci := 6) (v := .ref n2) (ty := (.array .int)) (C := RX6) (T := TX6) (N := 11) hx hb hts inX6 tyX6 tyX6_ok nmX6 hown hK.1 hP hD hS 0 rfl rfl 2 (by decide) (hts _ q_267) (fun _ h9 => h9) rfl hin rfl (by decide +kernel) rfl rfl (Nat.le_of_ble_eq_true rfl) dX6_init_19 (fun H locs hP hD hS => ?_)
  have hP : va_P J.1 cls [(hu, .inr (6, [.null, .ref n1, .ref n2, .int 0, .null, .null, .int 0, .int 0, .int 0, .int 0, .int 0])), (n1, .inl (J.2.1, 7168, .inl (fun _ => 0))), (n2, .inl (J.2.1, 7168, .inl (fun _ => 0)))] H := hP
  have hD : va_D A [(hu, .inr (6, [.null, .ref n1, .ref n2, .int 0, .null, .null, .int 0, .int 0, .int 0, .int 0, .int 0])), (n1, .inl (J.2.1, 7168, .inl (fun _ => 0))), (n2, .inl (J.2.1, 7168, .inl (fun _ => 0)))] := hD
  refine lv_aload_n hx hb dX6_init_22 rfl (lv_at hl 0 rfl) ?_
  refine lv_bipush (v := 32) hx hb dX6_init_23 (by decide) ?_
  refine na_i (a0 := (0, .inl (fun _ => 0))) (N' := 32) hx hb hts q_165 hK hP hD hS hA (by decide) (by decide) (by decide) (Nat.le_of_ble_eq_true rfl) (Nat.le_of_ble_eq_true rfl) dX6_init_25 (fun n3 H hP hD hS => ?_)
  have hP : va_P J.1 cls [(hu, .inr (6, [.null, .ref n1, .ref n2, .int 0, .null, .null, .int 0, .int 0, .int 0, .int 0, .int 0])), (n1, .inl (J.2.1, 7168, .inl (fun _ => 0))), (n2, .inl (J.2.1, 7168, .inl (fun _ => 0))), (n3, .inl (J.2.1, 32, .inl (fun _ => 0)))] H := hP
  have hD : va_D A [(hu, .inr (6, [.null, .ref n1, .ref n2, .int 0, .null, .null, .int 0, .int 0, .int 0, .int 0, .int 0])), (n1, .inl (J.2.1, 7168, .inl (fun _ => 0))), (n2, .inl (J.2.1, 7168, .inl (fun _ => 0))), (n3, .inl (J.2.1, 32, .inl (fun _ => 0)))] := hD
  refine W.widen (k := 3) (n := 14368) (Nat.le_of_ble_eq_true rfl) (Nat.le_of_ble_eq_true rfl) ?_
  refine va_putF (D := J.1) (ci := 6) (v := .ref n3) (ty := (.array .int)) (C := RX6) (T := TX6) (N := 11) hx hb hts inX6 tyX6 tyX6_ok nmX6 hown hK.1 hP hD hS 0 rfl rfl 4 (by decide) (hts _ q_269) (fun _ h9 => h9) rfl hin rfl (by decide +kernel) rfl rfl (Nat.le_of_ble_eq_true rfl) dX6_init_27 (fun H locs hP hD hS => ?_)
  have hP : va_P J.1 cls [(hu, .inr (6, [.null, .ref n1, .ref n2, .int 0, .ref n3, .null, .int 0, .int 0, .int 0, .int 0, .int 0])), (n1, .inl (J.2.1, 7168, .inl (fun _ => 0))), (n2, .inl (J.2.1, 7168, .inl (fun _ => 0))), (n3, .inl (J.2.1, 32, .inl (fun _ => 0)))] H := hP
  have hD : va_D A [(hu, .inr (6, [.null, .ref n1, .ref n2, .int 0, .ref n3, .null, .int 0, .int 0, .int 0, .int 0, .int 0])), (n1, .inl (J.2.1, 7168, .inl (fun _ => 0))), (n2, .inl (J.2.1, 7168, .inl (fun _ => 0))), (n3, .inl (J.2.1, 32, .inl (fun _ => 0)))] := hD
  refine lv_aload_n hx hb dX6_init_30 rfl (lv_at hl 0 rfl) ?_
  refine lv_bipush (v := 32) hx hb dX6_init_31 (by decide) ?_
  refine na_i (a0 := (0, .inl (fun _ => 0))) (N' := 32) hx hb hts q_165 hK hP hD hS hA (by decide) (by decide) (by decide) (Nat.le_of_ble_eq_true rfl) (Nat.le_of_ble_eq_true rfl) dX6_init_33 (fun n4 H hP hD hS => ?_)
  have hP : va_P J.1 cls [(hu, .inr (6, [.null, .ref n1, .ref n2, .int 0, .ref n3, .null, .int 0, .int 0, .int 0, .int 0, .int 0])), (n1, .inl (J.2.1, 7168, .inl (fun _ => 0))), (n2, .inl (J.2.1, 7168, .inl (fun _ => 0))), (n3, .inl (J.2.1, 32, .inl (fun _ => 0))), (n4, .inl (J.2.1, 32, .inl (fun _ => 0)))] H := hP
  have hD : va_D A [(hu, .inr (6, [.null, .ref n1, .ref n2, .int 0, .ref n3, .null, .int 0, .int 0, .int 0, .int 0, .int 0])), (n1, .inl (J.2.1, 7168, .inl (fun _ => 0))), (n2, .inl (J.2.1, 7168, .inl (fun _ => 0))), (n3, .inl (J.2.1, 32, .inl (fun _ => 0))), (n4, .inl (J.2.1, 32, .inl (fun _ => 0)))] := hD
  refine W.widen (k := 4) (n := 14400) (Nat.le_of_ble_eq_true rfl) (Nat.le_of_ble_eq_true rfl) ?_
  refine va_putF (D := J.1) (ci := 6) (v := .ref n4) (ty := (.array .int)) (C := RX6) (T := TX6) (N := 11) hx hb hts inX6 tyX6 tyX6_ok nmX6 hown hK.1 hP hD hS 0 rfl rfl 5 (by decide) (hts _ q_270) (fun _ h9 => h9) rfl hin rfl (by decide +kernel) rfl rfl (Nat.le_of_ble_eq_true rfl) dX6_init_35 (fun H locs hP hD hS => ?_)
  have hP : va_P J.1 cls [(hu, .inr (6, [.null, .ref n1, .ref n2, .int 0, .ref n3, .ref n4, .int 0, .int 0, .int 0, .int 0, .int 0])), (n1, .inl (J.2.1, 7168, .inl (fun _ => 0))), (n2, .inl (J.2.1, 7168, .inl (fun _ => 0))), (n3, .inl (J.2.1, 32, .inl (fun _ => 0))), (n4, .inl (J.2.1, 32, .inl (fun _ => 0)))] H := hP
  have hD : va_D A [(hu, .inr (6, [.null, .ref n1, .ref n2, .int 0, .ref n3, .ref n4, .int 0, .int 0, .int 0, .int 0, .int 0])), (n1, .inl (J.2.1, 7168, .inl (fun _ => 0))), (n2, .inl (J.2.1, 7168, .inl (fun _ => 0))), (n3, .inl (J.2.1, 32, .inl (fun _ => 0))), (n4, .inl (J.2.1, 32, .inl (fun _ => 0)))] := hD
  refine lv_aload_n hx hb dX6_init_38 rfl (lv_at hl 0 rfl) ?_
  refine lv_iconst (v := (-1)) hx hb dX6_init_39 (by decide) ?_
  refine va_put (D := J.1) (ci := 6) (v := .int (-1)) (ty := (.int)) (C := RX6) (T := TX6) (N := 11) hx hb hts inX6 tyX6 tyX6_ok nmX6 hown hK.1 hP hD hS 0 rfl rfl 10 (by decide) (hts _ q_275) (fun _ h9 => h9) rfl (by decide +kernel) rfl rfl (Nat.le_of_ble_eq_true rfl) dX6_init_40 (fun H locs hP hD hS => ?_)
  have hP : va_P J.1 cls [(hu, .inr (6, [.null, .ref n1, .ref n2, .int 0, .ref n3, .ref n4, .int 0, .int 0, .int 0, .int 0, .int (-1)])), (n1, .inl (J.2.1, 7168, .inl (fun _ => 0))), (n2, .inl (J.2.1, 7168, .inl (fun _ => 0))), (n3, .inl (J.2.1, 32, .inl (fun _ => 0))), (n4, .inl (J.2.1, 32, .inl (fun _ => 0)))] H := hP
  have hD : va_D A [(hu, .inr (6, [.null, .ref n1, .ref n2, .int 0, .ref n3, .ref n4, .int 0, .int 0, .int 0, .int 0, .int (-1)])), (n1, .inl (J.2.1, 7168, .inl (fun _ => 0))), (n2, .inl (J.2.1, 7168, .inl (fun _ => 0))), (n3, .inl (J.2.1, 32, .inl (fun _ => 0))), (n4, .inl (J.2.1, 32, .inl (fun _ => 0)))] := hD
  refine lv_aload_n hx hb dX6_init_43 rfl (lv_at hl 0 rfl) ?_
  refine lv_aload_n hx hb dX6_init_44 rfl (lv_at hl 1 rfl) ?_
  refine va_putF (D := J.1) (ci := 6) (v := .ref w) (ty := (.object "FoxHoles$Warren")) (C := RX6) (T := TX6) (N := 11) hx hb hts inX6 tyX6 tyX6_ok nmX6 hown hK.1 hP hD hS 0 rfl rfl 0 (by decide) (hts _ q_265) (fun _ h9 => h9) rfl hin rfl (by decide +kernel) rfl rfl (Nat.le_of_ble_eq_true rfl) dX6_init_45 (fun H locs hP hD hS => ?_)
  have hP : va_P J.1 cls [(hu, .inr (6, [.ref w, .ref n1, .ref n2, .int 0, .ref n3, .ref n4, .int 0, .int 0, .int 0, .int 0, .int (-1)])), (n1, .inl (J.2.1, 7168, .inl (fun _ => 0))), (n2, .inl (J.2.1, 7168, .inl (fun _ => 0))), (n3, .inl (J.2.1, 32, .inl (fun _ => 0))), (n4, .inl (J.2.1, 32, .inl (fun _ => 0)))] H := hP
  have hD : va_D A [(hu, .inr (6, [.ref w, .ref n1, .ref n2, .int 0, .ref n3, .ref n4, .int 0, .int 0, .int 0, .int 0, .int (-1)])), (n1, .inl (J.2.1, 7168, .inl (fun _ => 0))), (n2, .inl (J.2.1, 7168, .inl (fun _ => 0))), (n3, .inl (J.2.1, 32, .inl (fun _ => 0))), (n4, .inl (J.2.1, 32, .inl (fun _ => 0)))] := hD
  refine W.widen (k := 4) (n := 14400) (Nat.le_of_ble_eq_true rfl) (Nat.le_of_ble_eq_true rfl) ?_
  exact wz_v (fun k => [n1, n2, n3, n4].getD k 0) hx hb hr hlk trivial (hP.sub (ws' := [(hu, .inr (6, [.ref w, .ref n1, .ref n2, .int 0, .ref n3, .ref n4, .int 0, .int 0, .int 0, .int 0, .int (-1)])), (n3, .inl (J.2.1, 32, .inl (fun _ => 0))), (n4, .inl (J.2.1, 32, .inl (fun _ => 0)))]) [0, 3, 4] rfl) (hD.sub (ws' := [(hu, .inr (6, [.ref w, .ref n1, .ref n2, .int 0, .ref n3, .ref n4, .int 0, .int 0, .int 0, .int 0, .int (-1)])), (n3, .inl (J.2.1, 32, .inl (fun _ => 0))), (n4, .inl (J.2.1, 32, .inl (fun _ => 0)))]) [0, 3, 4] (by decide) rfl) hS dX6_init_48
theorem dX5_init_0 : decode cX5_init 0 = .ok (.aload_n 0, 1) := by decide +kernel
theorem q_304 : Cond.methodLink RX5 3 ⟨"java/lang/Object", "<init>", "()V"⟩ ∈ lw_g := mem_q 304 (by decide +kernel) rfl
theorem dX5_init_1 : decode cX5_init 1 = .ok (.invokespecial 3, 3) := by decide +kernel
theorem dX5_init_4 : decode cX5_init 4 = .ok (.aload_n 0, 1) := by decide +kernel
theorem dX5_init_5 : decode cX5_init 5 = .ok (.aload_n 1, 1) := by decide +kernel
theorem dX5_init_6 : decode cX5_init 6 = .ok (.putfield 9, 3) := by decide +kernel
theorem dX5_init_9 : decode cX5_init 9 = .ok (.return_, 1) := by decide +kernel
set_option maxHeartbeats 4000000 in
set_option maxRecDepth 100000 in
theorem n_Ground (l : Launch) (J : va_J9) (sz : Nat) (gr : Nat) (w : Nat) : WC l J yX5_init cX5_init 2 none ({ frames := 1, cells := 0, slots := 0, locals := 24 }) [.ref gr, .ref w] [(gr, .inr (5, [.null]))] sz (Qv J (fun (u : Nat → Nat) => True) (fun (u : Nat → Nat) => [(gr, .inr (5, [.ref w]))])) 0 0 := by
  refine wc_of (by decide) (Nat.le_of_ble_eq_true rfl) ?_
  intro p e s m below meth c ls A hE hl hP hK hD hS hA
  obtain ⟨hx, hb, hr, hml, hown, hts, hlk, hin⟩ := hE
  have hown : s.vm.findClass RX5 = some m.cls := hown
  have hl : lv_has ls 2 [(0, .ref gr), (1, .ref w)] := hl
  have hin : meth.name = "<init>" := hin
  refine lv_aload_n hx hb dX5_init_0 rfl (lv_at hl 0 rfl) ?_
  refine W.objInit hx hb hown (hts _ q_304) (hts _ q_125) (hts _ q_126) rfl (by rw [hml]; exact hl.1) rfl dX5_init_1 (Nat.le_of_ble_eq_true rfl) (Nat.le_of_ble_eq_true rfl) ?_
  refine W.eq (g2 := F0 m 4 ls []) rfl ?_
  refine lv_aload_n hx hb dX5_init_4 rfl (lv_at hl 0 rfl) ?_
  refine lv_aload_n hx hb dX5_init_5 rfl (lv_at hl 1 rfl) ?_
  refine va_putF (D := J.1) (ci := 5) (v := .ref w) (ty := (.object "FoxHoles$Warren")) (C := RX5) (T := TX5) (N := 1) hx hb hts inX5 tyX5 tyX5_ok nmX5 hown hK.1 hP hD hS 0 rfl rfl 0 (by decide) (hts _ q_305) (fun _ h9 => h9) rfl hin rfl (by decide +kernel) rfl rfl (Nat.le_of_ble_eq_true rfl) dX5_init_6 (fun H locs hP hD hS => ?_)
  have hP : va_P J.1 cls [(gr, .inr (5, [.ref w]))] H := hP
  have hD : va_D A [(gr, .inr (5, [.ref w]))] := hD
  refine W.widen (k := 0) (n := 0) (Nat.le_of_ble_eq_true rfl) (Nat.le_of_ble_eq_true rfl) ?_
  exact wz_v (fun k => [].getD k 0) hx hb hr hlk trivial hP hD hS dX5_init_9
theorem dX1_init_0 : decode cX1_init 0 = .ok (.aload_n 0, 1) := by decide +kernel
theorem q_314 : Cond.methodLink RX1 3 ⟨"java/lang/Object", "<init>", "()V"⟩ ∈ lw_g := mem_q 314 (by decide +kernel) rfl
theorem dX1_init_1 : decode cX1_init 1 = .ok (.invokespecial 3, 3) := by decide +kernel
theorem dX1_init_4 : decode cX1_init 4 = .ok (.aload_n 0, 1) := by decide +kernel
theorem dX1_init_5 : decode cX1_init 5 = .ok (.bipush 10, 2) := by decide +kernel
theorem dX1_init_7 : decode cX1_init 7 = .ok (.newarray .int, 2) := by decide +kernel
theorem q_319 : Cond.fieldLink RX1 9 RX1 "ways" "[I" ∈ lw_g := mem_q 319 (by decide +kernel) rfl
theorem dX1_init_9 : decode cX1_init 9 = .ok (.putfield 9, 3) := by decide +kernel
theorem dX1_init_12 : decode cX1_init 12 = .ok (.aload_n 0, 1) := by decide +kernel
theorem dX1_init_13 : decode cX1_init 13 = .ok (.iconst 4, 1) := by decide +kernel
theorem dX1_init_14 : decode cX1_init 14 = .ok (.bipush 10, 2) := by decide +kernel
theorem q_315 : Cond.classLink RX1 15 "[[J" ∈ lw_g := mem_q 315 (by decide +kernel) rfl
theorem q_360 : Cond.arrayClass .long ∈ lw_g := mem_q 360 (by decide +kernel) rfl
theorem dX1_init_16 : decode cX1_init 16 = .ok (.multianewarray 15 2, 4) := by decide +kernel
theorem q_320 : Cond.fieldLink RX1 17 RX1 "layers" "[[J" ∈ lw_g := mem_q 320 (by decide +kernel) rfl
theorem dX1_init_20 : decode cX1_init 20 = .ok (.putfield 17, 3) := by decide +kernel
theorem dX1_init_23 : decode cX1_init 23 = .ok (.aload_n 0, 1) := by decide +kernel
theorem dX1_init_24 : decode cX1_init 24 = .ok (.bipush 10, 2) := by decide +kernel
theorem dX1_init_26 : decode cX1_init 26 = .ok (.newarray .long, 2) := by decide +kernel
theorem q_321 : Cond.fieldLink RX1 20 RX1 "now" "[J" ∈ lw_g := mem_q 321 (by decide +kernel) rfl
theorem dX1_init_28 : decode cX1_init 28 = .ok (.putfield 20, 3) := by decide +kernel
theorem dX1_init_31 : decode cX1_init 31 = .ok (.aload_n 0, 1) := by decide +kernel
theorem dX1_init_32 : decode cX1_init 32 = .ok (.bipush 10, 2) := by decide +kernel
theorem dX1_init_34 : decode cX1_init 34 = .ok (.newarray .long, 2) := by decide +kernel
theorem q_322 : Cond.fieldLink RX1 24 RX1 "later" "[J" ∈ lw_g := mem_q 322 (by decide +kernel) rfl
theorem dX1_init_36 : decode cX1_init 36 = .ok (.putfield 24, 3) := by decide +kernel
theorem dX1_init_39 : decode cX1_init 39 = .ok (.aload_n 0, 1) := by decide +kernel
theorem dX1_init_40 : decode cX1_init 40 = .ok (.iconst 4, 1) := by decide +kernel
theorem dX1_init_41 : decode cX1_init 41 = .ok (.newarray .int, 2) := by decide +kernel
theorem q_326 : Cond.fieldLink RX1 27 RX1 "tried" "[I" ∈ lw_g := mem_q 326 (by decide +kernel) rfl
theorem dX1_init_43 : decode cX1_init 43 = .ok (.putfield 27, 3) := by decide +kernel
theorem dX1_init_46 : decode cX1_init 46 = .ok (.aload_n 0, 1) := by decide +kernel
theorem dX1_init_47 : decode cX1_init 47 = .ok (.iconst 4, 1) := by decide +kernel
theorem dX1_init_48 : decode cX1_init 48 = .ok (.newarray .int, 2) := by decide +kernel
theorem q_327 : Cond.fieldLink RX1 30 RX1 "bestRow" "[I" ∈ lw_g := mem_q 327 (by decide +kernel) rfl
theorem dX1_init_50 : decode cX1_init 50 = .ok (.putfield 30, 3) := by decide +kernel
theorem dX1_init_53 : decode cX1_init 53 = .ok (.aload_n 0, 1) := by decide +kernel
theorem dX1_init_54 : decode cX1_init 54 = .ok (.iconst (-1), 1) := by decide +kernel
theorem q_330 : Cond.fieldLink RX1 33 RX1 "bestVersion" "I" ∈ lw_g := mem_q 330 (by decide +kernel) rfl
theorem dX1_init_55 : decode cX1_init 55 = .ok (.putfield 33, 3) := by decide +kernel
theorem dX1_init_58 : decode cX1_init 58 = .ok (.aload_n 0, 1) := by decide +kernel
theorem dX1_init_59 : decode cX1_init 59 = .ok (.aload_n 1, 1) := by decide +kernel
theorem dX1_init_60 : decode cX1_init 60 = .ok (.putfield 37, 3) := by decide +kernel
theorem dX1_init_63 : decode cX1_init 63 = .ok (.aload_n 0, 1) := by decide +kernel
theorem dX1_init_64 : decode cX1_init 64 = .ok (.aload_n 2, 1) := by decide +kernel
theorem q_318 : Cond.fieldLink RX1 41 RX1 "looks" "LFoxHoles$Looks;" ∈ lw_g := mem_q 318 (by decide +kernel) rfl
theorem dX1_init_65 : decode cX1_init 65 = .ok (.putfield 41, 3) := by decide +kernel
theorem dX1_init_68 : decode cX1_init 68 = .ok (.return_, 1) := by decide +kernel
set_option maxHeartbeats 4000000 in
set_option maxRecDepth 100000 in
theorem n_Chance (l : Launch) (J : va_J9) (sz : Nat) (cn : Nat) (w : Nat) (lk : Nat) : WC l J yX1_init cX1_init 3 none ({ frames := 1, cells := 10, slots := 82, locals := 24 }) [.ref cn, .ref w, .ref lk] [(cn, .inr (1, [.null, .null, .null, .null, .null, .null, .long 0, .long 0, .long 0, .null, .null, .long 0, .int 0, .int 0]))] sz (Qv J (fun (u : Nat → Nat) => True) (fun (u : Nat → Nat) => [(cn, .inr (1, [.ref w, .ref lk, .ref (u 0), .ref (u 1), .ref (u 2), .ref (u 3), .long 0, .long 0, .long 0, .ref (u 4), .ref (u 5), .long 0, .int 0, .int (-1)]))])) 10 82 := by
  refine wc_of (by decide) (Nat.le_of_ble_eq_true rfl) ?_
  intro p e s m below meth c ls A hE hl hP hK hD hS hA
  obtain ⟨hx, hb, hr, hml, hown, hts, hlk, hin⟩ := hE
  have hown : s.vm.findClass RX1 = some m.cls := hown
  have hl : lv_has ls 3 [(0, .ref cn), (1, .ref w), (2, .ref lk)] := hl
  have hin : meth.name = "<init>" := hin
  refine lv_aload_n hx hb dX1_init_0 rfl (lv_at hl 0 rfl) ?_
  refine W.objInit hx hb hown (hts _ q_314) (hts _ q_125) (hts _ q_126) rfl (by rw [hml]; exact hl.1) rfl dX1_init_1 (Nat.le_of_ble_eq_true rfl) (Nat.le_of_ble_eq_true rfl) ?_
  refine W.eq (g2 := F0 m 4 ls []) rfl ?_
  refine lv_aload_n hx hb dX1_init_4 rfl (lv_at hl 0 rfl) ?_
  refine lv_bipush (v := 10) hx hb dX1_init_5 (by decide) ?_
  refine na_i (a0 := (0, .inl (fun _ => 0))) (N' := 10) hx hb hts q_165 hK hP hD hS hA (by decide) (by decide) (by decide) (Nat.le_of_ble_eq_true rfl) (Nat.le_of_ble_eq_true rfl) dX1_init_7 (fun n1 H hP hD hS => ?_)
  have hP : va_P J.1 cls [(cn, .inr (1, [.null, .null, .null, .null, .null, .null, .long 0, .long 0, .long 0, .null, .null, .long 0, .int 0, .int 0])), (n1, .inl (J.2.1, 10, .inl (fun _ => 0)))] H := hP
  have hD : va_D A [(cn, .inr (1, [.null, .null, .null, .null, .null, .null, .long 0, .long 0, .long 0, .null, .null, .long 0, .int 0, .int 0])), (n1, .inl (J.2.1, 10, .inl (fun _ => 0)))] := hD
  refine W.widen (k := 1) (n := 10) (Nat.le_of_ble_eq_true rfl) (Nat.le_of_ble_eq_true rfl) ?_
  refine va_putF (D := J.1) (ci := 1) (v := .ref n1) (ty := (.array .int)) (C := RX1) (T := TX1) (N := 14) hx hb hts inX1 tyX1 tyX1_ok nmX1 hown hK.1 hP hD hS 0 rfl rfl 2 (by decide) (hts _ q_319) (fun _ h9 => h9) rfl hin rfl (by decide +kernel) rfl rfl (Nat.le_of_ble_eq_true rfl) dX1_init_9 (fun H locs hP hD hS => ?_)
  have hP : va_P J.1 cls [(cn, .inr (1, [.null, .null, .ref n1, .null, .null, .null, .long 0, .long 0, .long 0, .null, .null, .long 0, .int 0, .int 0])), (n1, .inl (J.2.1, 10, .inl (fun _ => 0)))] H := hP
  have hD : va_D A [(cn, .inr (1, [.null, .null, .ref n1, .null, .null, .null, .long 0, .long 0, .long 0, .null, .null, .long 0, .int 0, .int 0])), (n1, .inl (J.2.1, 10, .inl (fun _ => 0)))] := hD
  refine lv_aload_n hx hb dX1_init_12 rfl (lv_at hl 0 rfl) ?_
  refine lv_iconst (v := 4) hx hb dX1_init_13 (by decide) ?_
  refine lv_bipush (v := 10) hx hb dX1_init_14 (by decide) ?_
  refine nm_ (N' := 4) (K' := 10) hx hb hts hown q_315 q_360 hK hP hD hS hA (by decide) (by decide) (by decide) (by decide) (by decide) (by decide) (by decide) (Nat.le_of_ble_eq_true rfl) (Nat.le_of_ble_eq_true rfl) dX1_init_16 (fun n2 H hP hD hS => ?_)
  have hP : va_P J.1 cls [(cn, .inr (1, [.null, .null, .ref n1, .null, .null, .null, .long 0, .long 0, .long 0, .null, .null, .long 0, .int 0, .int 0])), (n1, .inl (J.2.1, 10, .inl (fun _ => 0)))] H := hP
  have hD : va_D A [(cn, .inr (1, [.null, .null, .ref n1, .null, .null, .null, .long 0, .long 0, .long 0, .null, .null, .long 0, .int 0, .int 0])), (n1, .inl (J.2.1, 10, .inl (fun _ => 0)))] := hD
  refine W.widen (k := 6) (n := 54) (Nat.le_of_ble_eq_true rfl) (Nat.le_of_ble_eq_true rfl) ?_
  refine va_putF (D := J.1) (ci := 1) (v := .ref n2) (ty := (.array (.array .long))) (C := RX1) (T := TX1) (N := 14) hx hb hts inX1 tyX1 tyX1_ok nmX1 hown hK.1 hP hD hS 0 rfl rfl 3 (by decide) (hts _ q_320) (fun _ h9 => h9) rfl hin rfl (by decide +kernel) rfl rfl (Nat.le_of_ble_eq_true rfl) dX1_init_20 (fun H locs hP hD hS => ?_)
  have hP : va_P J.1 cls [(cn, .inr (1, [.null, .null, .ref n1, .ref n2, .null, .null, .long 0, .long 0, .long 0, .null, .null, .long 0, .int 0, .int 0])), (n1, .inl (J.2.1, 10, .inl (fun _ => 0)))] H := hP
  have hD : va_D A [(cn, .inr (1, [.null, .null, .ref n1, .ref n2, .null, .null, .long 0, .long 0, .long 0, .null, .null, .long 0, .int 0, .int 0])), (n1, .inl (J.2.1, 10, .inl (fun _ => 0)))] := hD
  refine lv_aload_n hx hb dX1_init_23 rfl (lv_at hl 0 rfl) ?_
  refine lv_bipush (v := 10) hx hb dX1_init_24 (by decide) ?_
  refine na_l (a0 := (0, .inl (fun _ => 0))) (N' := 10) hx hb hts q_360 hK hP hD hS hA (by decide) (by decide) (by decide) (Nat.le_of_ble_eq_true rfl) (Nat.le_of_ble_eq_true rfl) dX1_init_26 (fun n3 H hP hD hS => ?_)
  have hP : va_P J.1 cls [(cn, .inr (1, [.null, .null, .ref n1, .ref n2, .null, .null, .long 0, .long 0, .long 0, .null, .null, .long 0, .int 0, .int 0])), (n1, .inl (J.2.1, 10, .inl (fun _ => 0))), (n3, .inl (J.2.2.1, 10, .inr (.inl (fun _ => 0))))] H := hP
  have hD : va_D A [(cn, .inr (1, [.null, .null, .ref n1, .ref n2, .null, .null, .long 0, .long 0, .long 0, .null, .null, .long 0, .int 0, .int 0])), (n1, .inl (J.2.1, 10, .inl (fun _ => 0))), (n3, .inl (J.2.2.1, 10, .inr (.inl (fun _ => 0))))] := hD
  refine W.widen (k := 7) (n := 64) (Nat.le_of_ble_eq_true rfl) (Nat.le_of_ble_eq_true rfl) ?_
  refine va_put (D := J.1) (ci := 1) (v := .ref n3) (ty := (.array .long)) (C := RX1) (T := TX1) (N := 14) hx hb hts inX1 tyX1 tyX1_ok nmX1 hown hK.1 hP hD hS 0 rfl rfl 4 (by decide) (hts _ q_321) (fun _ h9 => h9) rfl (by decide +kernel) rfl rfl (Nat.le_of_ble_eq_true rfl) dX1_init_28 (fun H locs hP hD hS => ?_)
  have hP : va_P J.1 cls [(cn, .inr (1, [.null, .null, .ref n1, .ref n2, .ref n3, .null, .long 0, .long 0, .long 0, .null, .null, .long 0, .int 0, .int 0])), (n1, .inl (J.2.1, 10, .inl (fun _ => 0))), (n3, .inl (J.2.2.1, 10, .inr (.inl (fun _ => 0))))] H := hP
  have hD : va_D A [(cn, .inr (1, [.null, .null, .ref n1, .ref n2, .ref n3, .null, .long 0, .long 0, .long 0, .null, .null, .long 0, .int 0, .int 0])), (n1, .inl (J.2.1, 10, .inl (fun _ => 0))), (n3, .inl (J.2.2.1, 10, .inr (.inl (fun _ => 0))))] := hD
  refine lv_aload_n hx hb dX1_init_31 rfl (lv_at hl 0 rfl) ?_
  refine lv_bipush (v := 10) hx hb dX1_init_32 (by decide) ?_
  refine na_l (a0 := (0, .inl (fun _ => 0))) (N' := 10) hx hb hts q_360 hK hP hD hS hA (by decide) (by decide) (by decide) (Nat.le_of_ble_eq_true rfl) (Nat.le_of_ble_eq_true rfl) dX1_init_34 (fun n4 H hP hD hS => ?_)
  have hP : va_P J.1 cls [(cn, .inr (1, [.null, .null, .ref n1, .ref n2, .ref n3, .null, .long 0, .long 0, .long 0, .null, .null, .long 0, .int 0, .int 0])), (n1, .inl (J.2.1, 10, .inl (fun _ => 0))), (n3, .inl (J.2.2.1, 10, .inr (.inl (fun _ => 0)))), (n4, .inl (J.2.2.1, 10, .inr (.inl (fun _ => 0))))] H := hP
  have hD : va_D A [(cn, .inr (1, [.null, .null, .ref n1, .ref n2, .ref n3, .null, .long 0, .long 0, .long 0, .null, .null, .long 0, .int 0, .int 0])), (n1, .inl (J.2.1, 10, .inl (fun _ => 0))), (n3, .inl (J.2.2.1, 10, .inr (.inl (fun _ => 0)))), (n4, .inl (J.2.2.1, 10, .inr (.inl (fun _ => 0))))] := hD
  refine W.widen (k := 8) (n := 74) (Nat.le_of_ble_eq_true rfl) (Nat.le_of_ble_eq_true rfl) ?_
  refine va_put (D := J.1) (ci := 1) (v := .ref n4) (ty := (.array .long)) (C := RX1) (T := TX1) (N := 14) hx hb hts inX1 tyX1 tyX1_ok nmX1 hown hK.1 hP hD hS 0 rfl rfl 5 (by decide) (hts _ q_322) (fun _ h9 => h9) rfl (by decide +kernel) rfl rfl (Nat.le_of_ble_eq_true rfl) dX1_init_36 (fun H locs hP hD hS => ?_)
  have hP : va_P J.1 cls [(cn, .inr (1, [.null, .null, .ref n1, .ref n2, .ref n3, .ref n4, .long 0, .long 0, .long 0, .null, .null, .long 0, .int 0, .int 0])), (n1, .inl (J.2.1, 10, .inl (fun _ => 0))), (n3, .inl (J.2.2.1, 10, .inr (.inl (fun _ => 0)))), (n4, .inl (J.2.2.1, 10, .inr (.inl (fun _ => 0))))] H := hP
  have hD : va_D A [(cn, .inr (1, [.null, .null, .ref n1, .ref n2, .ref n3, .ref n4, .long 0, .long 0, .long 0, .null, .null, .long 0, .int 0, .int 0])), (n1, .inl (J.2.1, 10, .inl (fun _ => 0))), (n3, .inl (J.2.2.1, 10, .inr (.inl (fun _ => 0)))), (n4, .inl (J.2.2.1, 10, .inr (.inl (fun _ => 0))))] := hD
  refine lv_aload_n hx hb dX1_init_39 rfl (lv_at hl 0 rfl) ?_
  refine lv_iconst (v := 4) hx hb dX1_init_40 (by decide) ?_
  refine na_i (a0 := (0, .inl (fun _ => 0))) (N' := 4) hx hb hts q_165 hK hP hD hS hA (by decide) (by decide) (by decide) (Nat.le_of_ble_eq_true rfl) (Nat.le_of_ble_eq_true rfl) dX1_init_41 (fun n5 H hP hD hS => ?_)
  have hP : va_P J.1 cls [(cn, .inr (1, [.null, .null, .ref n1, .ref n2, .ref n3, .ref n4, .long 0, .long 0, .long 0, .null, .null, .long 0, .int 0, .int 0])), (n1, .inl (J.2.1, 10, .inl (fun _ => 0))), (n3, .inl (J.2.2.1, 10, .inr (.inl (fun _ => 0)))), (n4, .inl (J.2.2.1, 10, .inr (.inl (fun _ => 0)))), (n5, .inl (J.2.1, 4, .inl (fun _ => 0)))] H := hP
  have hD : va_D A [(cn, .inr (1, [.null, .null, .ref n1, .ref n2, .ref n3, .ref n4, .long 0, .long 0, .long 0, .null, .null, .long 0, .int 0, .int 0])), (n1, .inl (J.2.1, 10, .inl (fun _ => 0))), (n3, .inl (J.2.2.1, 10, .inr (.inl (fun _ => 0)))), (n4, .inl (J.2.2.1, 10, .inr (.inl (fun _ => 0)))), (n5, .inl (J.2.1, 4, .inl (fun _ => 0)))] := hD
  refine W.widen (k := 9) (n := 78) (Nat.le_of_ble_eq_true rfl) (Nat.le_of_ble_eq_true rfl) ?_
  refine va_putF (D := J.1) (ci := 1) (v := .ref n5) (ty := (.array .int)) (C := RX1) (T := TX1) (N := 14) hx hb hts inX1 tyX1 tyX1_ok nmX1 hown hK.1 hP hD hS 0 rfl rfl 9 (by decide) (hts _ q_326) (fun _ h9 => h9) rfl hin rfl (by decide +kernel) rfl rfl (Nat.le_of_ble_eq_true rfl) dX1_init_43 (fun H locs hP hD hS => ?_)
  have hP : va_P J.1 cls [(cn, .inr (1, [.null, .null, .ref n1, .ref n2, .ref n3, .ref n4, .long 0, .long 0, .long 0, .ref n5, .null, .long 0, .int 0, .int 0])), (n1, .inl (J.2.1, 10, .inl (fun _ => 0))), (n3, .inl (J.2.2.1, 10, .inr (.inl (fun _ => 0)))), (n4, .inl (J.2.2.1, 10, .inr (.inl (fun _ => 0)))), (n5, .inl (J.2.1, 4, .inl (fun _ => 0)))] H := hP
  have hD : va_D A [(cn, .inr (1, [.null, .null, .ref n1, .ref n2, .ref n3, .ref n4, .long 0, .long 0, .long 0, .ref n5, .null, .long 0, .int 0, .int 0])), (n1, .inl (J.2.1, 10, .inl (fun _ => 0))), (n3, .inl (J.2.2.1, 10, .inr (.inl (fun _ => 0)))), (n4, .inl (J.2.2.1, 10, .inr (.inl (fun _ => 0)))), (n5, .inl (J.2.1, 4, .inl (fun _ => 0)))] := hD
  refine lv_aload_n hx hb dX1_init_46 rfl (lv_at hl 0 rfl) ?_
  refine lv_iconst (v := 4) hx hb dX1_init_47 (by decide) ?_
  refine na_i (a0 := (0, .inl (fun _ => 0))) (N' := 4) hx hb hts q_165 hK hP hD hS hA (by decide) (by decide) (by decide) (Nat.le_of_ble_eq_true rfl) (Nat.le_of_ble_eq_true rfl) dX1_init_48 (fun n6 H hP hD hS => ?_)
  have hP : va_P J.1 cls [(cn, .inr (1, [.null, .null, .ref n1, .ref n2, .ref n3, .ref n4, .long 0, .long 0, .long 0, .ref n5, .null, .long 0, .int 0, .int 0])), (n1, .inl (J.2.1, 10, .inl (fun _ => 0))), (n3, .inl (J.2.2.1, 10, .inr (.inl (fun _ => 0)))), (n4, .inl (J.2.2.1, 10, .inr (.inl (fun _ => 0)))), (n5, .inl (J.2.1, 4, .inl (fun _ => 0))), (n6, .inl (J.2.1, 4, .inl (fun _ => 0)))] H := hP
  have hD : va_D A [(cn, .inr (1, [.null, .null, .ref n1, .ref n2, .ref n3, .ref n4, .long 0, .long 0, .long 0, .ref n5, .null, .long 0, .int 0, .int 0])), (n1, .inl (J.2.1, 10, .inl (fun _ => 0))), (n3, .inl (J.2.2.1, 10, .inr (.inl (fun _ => 0)))), (n4, .inl (J.2.2.1, 10, .inr (.inl (fun _ => 0)))), (n5, .inl (J.2.1, 4, .inl (fun _ => 0))), (n6, .inl (J.2.1, 4, .inl (fun _ => 0)))] := hD
  refine W.widen (k := 10) (n := 82) (Nat.le_of_ble_eq_true rfl) (Nat.le_of_ble_eq_true rfl) ?_
  refine va_putF (D := J.1) (ci := 1) (v := .ref n6) (ty := (.array .int)) (C := RX1) (T := TX1) (N := 14) hx hb hts inX1 tyX1 tyX1_ok nmX1 hown hK.1 hP hD hS 0 rfl rfl 10 (by decide) (hts _ q_327) (fun _ h9 => h9) rfl hin rfl (by decide +kernel) rfl rfl (Nat.le_of_ble_eq_true rfl) dX1_init_50 (fun H locs hP hD hS => ?_)
  have hP : va_P J.1 cls [(cn, .inr (1, [.null, .null, .ref n1, .ref n2, .ref n3, .ref n4, .long 0, .long 0, .long 0, .ref n5, .ref n6, .long 0, .int 0, .int 0])), (n1, .inl (J.2.1, 10, .inl (fun _ => 0))), (n3, .inl (J.2.2.1, 10, .inr (.inl (fun _ => 0)))), (n4, .inl (J.2.2.1, 10, .inr (.inl (fun _ => 0)))), (n5, .inl (J.2.1, 4, .inl (fun _ => 0))), (n6, .inl (J.2.1, 4, .inl (fun _ => 0)))] H := hP
  have hD : va_D A [(cn, .inr (1, [.null, .null, .ref n1, .ref n2, .ref n3, .ref n4, .long 0, .long 0, .long 0, .ref n5, .ref n6, .long 0, .int 0, .int 0])), (n1, .inl (J.2.1, 10, .inl (fun _ => 0))), (n3, .inl (J.2.2.1, 10, .inr (.inl (fun _ => 0)))), (n4, .inl (J.2.2.1, 10, .inr (.inl (fun _ => 0)))), (n5, .inl (J.2.1, 4, .inl (fun _ => 0))), (n6, .inl (J.2.1, 4, .inl (fun _ => 0)))] := hD
  refine lv_aload_n hx hb dX1_init_53 rfl (lv_at hl 0 rfl) ?_
  refine lv_iconst (v := (-1)) hx hb dX1_init_54 (by decide) ?_
  refine va_put (D := J.1) (ci := 1) (v := .int (-1)) (ty := (.int)) (C := RX1) (T := TX1) (N := 14) hx hb hts inX1 tyX1 tyX1_ok nmX1 hown hK.1 hP hD hS 0 rfl rfl 13 (by decide) (hts _ q_330) (fun _ h9 => h9) rfl (by decide +kernel) rfl rfl (Nat.le_of_ble_eq_true rfl) dX1_init_55 (fun H locs hP hD hS => ?_)
  have hP : va_P J.1 cls [(cn, .inr (1, [.null, .null, .ref n1, .ref n2, .ref n3, .ref n4, .long 0, .long 0, .long 0, .ref n5, .ref n6, .long 0, .int 0, .int (-1)])), (n1, .inl (J.2.1, 10, .inl (fun _ => 0))), (n3, .inl (J.2.2.1, 10, .inr (.inl (fun _ => 0)))), (n4, .inl (J.2.2.1, 10, .inr (.inl (fun _ => 0)))), (n5, .inl (J.2.1, 4, .inl (fun _ => 0))), (n6, .inl (J.2.1, 4, .inl (fun _ => 0)))] H := hP
  have hD : va_D A [(cn, .inr (1, [.null, .null, .ref n1, .ref n2, .ref n3, .ref n4, .long 0, .long 0, .long 0, .ref n5, .ref n6, .long 0, .int 0, .int (-1)])), (n1, .inl (J.2.1, 10, .inl (fun _ => 0))), (n3, .inl (J.2.2.1, 10, .inr (.inl (fun _ => 0)))), (n4, .inl (J.2.2.1, 10, .inr (.inl (fun _ => 0)))), (n5, .inl (J.2.1, 4, .inl (fun _ => 0))), (n6, .inl (J.2.1, 4, .inl (fun _ => 0)))] := hD
  refine lv_aload_n hx hb dX1_init_58 rfl (lv_at hl 0 rfl) ?_
  refine lv_aload_n hx hb dX1_init_59 rfl (lv_at hl 1 rfl) ?_
  refine va_putF (D := J.1) (ci := 1) (v := .ref w) (ty := (.object "FoxHoles$Warren")) (C := RX1) (T := TX1) (N := 14) hx hb hts inX1 tyX1 tyX1_ok nmX1 hown hK.1 hP hD hS 0 rfl rfl 0 (by decide) (hts _ q_317) (fun _ h9 => h9) rfl hin rfl (by decide +kernel) rfl rfl (Nat.le_of_ble_eq_true rfl) dX1_init_60 (fun H locs hP hD hS => ?_)
  have hP : va_P J.1 cls [(cn, .inr (1, [.ref w, .null, .ref n1, .ref n2, .ref n3, .ref n4, .long 0, .long 0, .long 0, .ref n5, .ref n6, .long 0, .int 0, .int (-1)])), (n1, .inl (J.2.1, 10, .inl (fun _ => 0))), (n3, .inl (J.2.2.1, 10, .inr (.inl (fun _ => 0)))), (n4, .inl (J.2.2.1, 10, .inr (.inl (fun _ => 0)))), (n5, .inl (J.2.1, 4, .inl (fun _ => 0))), (n6, .inl (J.2.1, 4, .inl (fun _ => 0)))] H := hP
  have hD : va_D A [(cn, .inr (1, [.ref w, .null, .ref n1, .ref n2, .ref n3, .ref n4, .long 0, .long 0, .long 0, .ref n5, .ref n6, .long 0, .int 0, .int (-1)])), (n1, .inl (J.2.1, 10, .inl (fun _ => 0))), (n3, .inl (J.2.2.1, 10, .inr (.inl (fun _ => 0)))), (n4, .inl (J.2.2.1, 10, .inr (.inl (fun _ => 0)))), (n5, .inl (J.2.1, 4, .inl (fun _ => 0))), (n6, .inl (J.2.1, 4, .inl (fun _ => 0)))] := hD
  refine lv_aload_n hx hb dX1_init_63 rfl (lv_at hl 0 rfl) ?_
  refine lv_aload_n hx hb dX1_init_64 rfl (lv_at hl 2 rfl) ?_
  refine va_putF (D := J.1) (ci := 1) (v := .ref lk) (ty := (.object "FoxHoles$Looks")) (C := RX1) (T := TX1) (N := 14) hx hb hts inX1 tyX1 tyX1_ok nmX1 hown hK.1 hP hD hS 0 rfl rfl 1 (by decide) (hts _ q_318) (fun _ h9 => h9) rfl hin rfl (by decide +kernel) rfl rfl (Nat.le_of_ble_eq_true rfl) dX1_init_65 (fun H locs hP hD hS => ?_)
  have hP : va_P J.1 cls [(cn, .inr (1, [.ref w, .ref lk, .ref n1, .ref n2, .ref n3, .ref n4, .long 0, .long 0, .long 0, .ref n5, .ref n6, .long 0, .int 0, .int (-1)])), (n1, .inl (J.2.1, 10, .inl (fun _ => 0))), (n3, .inl (J.2.2.1, 10, .inr (.inl (fun _ => 0)))), (n4, .inl (J.2.2.1, 10, .inr (.inl (fun _ => 0)))), (n5, .inl (J.2.1, 4, .inl (fun _ => 0))), (n6, .inl (J.2.1, 4, .inl (fun _ => 0)))] H := hP
  have hD : va_D A [(cn, .inr (1, [.ref w, .ref lk, .ref n1, .ref n2, .ref n3, .ref n4, .long 0, .long 0, .long 0, .ref n5, .ref n6, .long 0, .int 0, .int (-1)])), (n1, .inl (J.2.1, 10, .inl (fun _ => 0))), (n3, .inl (J.2.2.1, 10, .inr (.inl (fun _ => 0)))), (n4, .inl (J.2.2.1, 10, .inr (.inl (fun _ => 0)))), (n5, .inl (J.2.1, 4, .inl (fun _ => 0))), (n6, .inl (J.2.1, 4, .inl (fun _ => 0)))] := hD
  refine W.widen (k := 10) (n := 82) (Nat.le_of_ble_eq_true rfl) (Nat.le_of_ble_eq_true rfl) ?_
  exact wz_v (fun k => [n1, n2, n3, n4, n5, n6].getD k 0) hx hb hr hlk trivial (hP.sub (ws' := [(cn, .inr (1, [.ref w, .ref lk, .ref n1, .ref n2, .ref n3, .ref n4, .long 0, .long 0, .long 0, .ref n5, .ref n6, .long 0, .int 0, .int (-1)]))]) [0] rfl) (hD.sub (ws' := [(cn, .inr (1, [.ref w, .ref lk, .ref n1, .ref n2, .ref n3, .ref n4, .long 0, .long 0, .long 0, .ref n5, .ref n6, .long 0, .int 0, .int (-1)]))]) [0] (by decide) rfl) hS dX1_init_68
theorem dX4_init_0 : decode cX4_init 0 = .ok (.aload_n 0, 1) := by decide +kernel
theorem q_366 : Cond.methodLink RX4 3 ⟨"java/lang/Object", "<init>", "()V"⟩ ∈ lw_g := mem_q 366 (by decide +kernel) rfl
theorem dX4_init_1 : decode cX4_init 1 = .ok (.invokespecial 3, 3) := by decide +kernel
theorem dX4_init_4 : decode cX4_init 4 = .ok (.aload_n 0, 1) := by decide +kernel
theorem dX4_init_5 : decode cX4_init 5 = .ok (.aload_n 1, 1) := by decide +kernel
theorem q_367 : Cond.fieldLink RX4 9 RX4 "warren" "LFoxHoles$Warren;" ∈ lw_g := mem_q 367 (by decide +kernel) rfl
theorem dX4_init_6 : decode cX4_init 6 = .ok (.putfield 9, 3) := by decide +kernel
theorem dX4_init_9 : decode cX4_init 9 = .ok (.return_, 1) := by decide +kernel
set_option maxHeartbeats 4000000 in
set_option maxRecDepth 100000 in
theorem n_Dice (l : Launch) (J : va_J9) (sz : Nat) (d : Nat) (w : Nat) : WC l J yX4_init cX4_init 2 none ({ frames := 1, cells := 0, slots := 0, locals := 24 }) [.ref d, .ref w] [(d, .inr (4, [.null, .int 0]))] sz (Qv J (fun (u : Nat → Nat) => True) (fun (u : Nat → Nat) => [(d, .inr (4, [.ref w, .int 0]))])) 0 0 := by
  refine wc_of (by decide) (Nat.le_of_ble_eq_true rfl) ?_
  intro p e s m below meth c ls A hE hl hP hK hD hS hA
  obtain ⟨hx, hb, hr, hml, hown, hts, hlk, hin⟩ := hE
  have hown : s.vm.findClass RX4 = some m.cls := hown
  have hl : lv_has ls 2 [(0, .ref d), (1, .ref w)] := hl
  have hin : meth.name = "<init>" := hin
  refine lv_aload_n hx hb dX4_init_0 rfl (lv_at hl 0 rfl) ?_
  refine W.objInit hx hb hown (hts _ q_366) (hts _ q_125) (hts _ q_126) rfl (by rw [hml]; exact hl.1) rfl dX4_init_1 (Nat.le_of_ble_eq_true rfl) (Nat.le_of_ble_eq_true rfl) ?_
  refine W.eq (g2 := F0 m 4 ls []) rfl ?_
  refine lv_aload_n hx hb dX4_init_4 rfl (lv_at hl 0 rfl) ?_
  refine lv_aload_n hx hb dX4_init_5 rfl (lv_at hl 1 rfl) ?_
  refine va_putF (D := J.1) (ci := 4) (v := .ref w) (ty := (.object "FoxHoles$Warren")) (C := RX4) (T := TX4) (N := 2) hx hb hts inX4 tyX4 tyX4_ok nmX4 hown hK.1 hP hD hS 0 rfl rfl 0 (by decide) (hts _ q_367) (fun _ h9 => h9) rfl hin rfl (by decide +kernel) rfl rfl (Nat.le_of_ble_eq_true rfl) dX4_init_6 (fun H locs hP hD hS => ?_)
  have hP : va_P J.1 cls [(d, .inr (4, [.ref w, .int 0]))] H := hP
  have hD : va_D A [(d, .inr (4, [.ref w, .int 0]))] := hD
  refine W.widen (k := 0) (n := 0) (Nat.le_of_ble_eq_true rfl) (Nat.le_of_ble_eq_true rfl) ?_
  exact wz_v (fun k => [].getD k 0) hx hb hr hlk trivial hP hD hS dX4_init_9
theorem dX3_init_0 : decode cX3_init 0 = .ok (.aload_n 0, 1) := by decide +kernel
theorem q_380 : Cond.methodLink RX3 3 ⟨"java/lang/Object", "<init>", "()V"⟩ ∈ lw_g := mem_q 380 (by decide +kernel) rfl
theorem dX3_init_1 : decode cX3_init 1 = .ok (.invokespecial 3, 3) := by decide +kernel
theorem dX3_init_4 : decode cX3_init 4 = .ok (.aload_n 0, 1) := by decide +kernel
theorem dX3_init_5 : decode cX3_init 5 = .ok (.bipush 10, 2) := by decide +kernel
theorem dX3_init_7 : decode cX3_init 7 = .ok (.newarray .int, 2) := by decide +kernel
theorem dX3_init_9 : decode cX3_init 9 = .ok (.putfield 9, 3) := by decide +kernel
theorem dX3_init_12 : decode cX3_init 12 = .ok (.aload_n 0, 1) := by decide +kernel
theorem dX3_init_13 : decode cX3_init 13 = .ok (.aload_n 1, 1) := by decide +kernel
theorem q_383 : Cond.fieldLink RX3 15 RX3 "warren" "LFoxHoles$Warren;" ∈ lw_g := mem_q 383 (by decide +kernel) rfl
theorem dX3_init_14 : decode cX3_init 14 = .ok (.putfield 15, 3) := by decide +kernel
theorem dX3_init_17 : decode cX3_init 17 = .ok (.aload_n 0, 1) := by decide +kernel
theorem q_381 : Cond.classLink RX3 19 RX4 ∈ lw_g := mem_q 381 (by decide +kernel) rfl
theorem q_362 : Cond.instantiable RX4 2 ∈ lw_g := mem_q 362 (by decide +kernel) rfl
theorem dX3_init_18 : decode cX3_init 18 = .ok (.new 19, 3) := by decide +kernel
theorem dX3_init_21 : decode cX3_init 21 = .ok (.dup, 1) := by decide +kernel
theorem dX3_init_22 : decode cX3_init 22 = .ok (.aload_n 1, 1) := by decide +kernel
theorem q_382 : Cond.methodLink RX3 21 yX4_init ∈ lw_g := mem_q 382 (by decide +kernel) rfl
theorem q_364 : Cond.instanceMethod yX4_init ∈ lw_g := mem_q 364 (by decide +kernel) rfl
theorem q_365 : Cond.code yX4_init cX4_init 2 none ∈ lw_g := mem_q 365 (by decide +kernel) rfl
theorem kI_RX3_21 : CN RX3 21 yX4_init cX4_init 2 1 := cn_of q_382 q_364 q_111 q_365 rfl (by decide +kernel)
theorem dX3_init_23 : decode cX3_init 23 = .ok (.invokespecial 21, 3) := by decide +kernel
theorem dX3_init_26 : decode cX3_init 26 = .ok (.putfield 24, 3) := by decide +kernel
theorem dX3_init_29 : decode cX3_init 29 = .ok (.return_, 1) := by decide +kernel
set_option maxHeartbeats 4000000 in
set_option maxRecDepth 100000 in
theorem n_Deed (l : Launch) (J : va_J9) (sz : Nat) (ed : Nat) (w : Nat) : WC l J yX3_init cX3_init 2 none ({ frames := 2, cells := 2, slots := 12, locals := 45 }) [.ref ed, .ref w] [(ed, .inr (3, [.null, .null, .null, .int 0, .int 0, .int 0, .int 0, .int 0]))] sz (Qv J (fun (u : Nat → Nat) => True) (fun (u : Nat → Nat) => [(ed, .inr (3, [.ref w, .ref (u 0), .ref (u 1), .int 0, .int 0, .int 0, .int 0, .int 0])), ((u 0), .inr (4, [.ref w, .int 0])), ((u 1), .inl (J.2.1, 10, .inl (fun _ => 0)))])) 2 12 := by
  refine wc_of (by decide) (Nat.le_of_ble_eq_true rfl) ?_
  intro p e s m below meth c ls A hE hl hP hK hD hS hA
  obtain ⟨hx, hb, hr, hml, hown, hts, hlk, hin⟩ := hE
  have hown : s.vm.findClass RX3 = some m.cls := hown
  have hl : lv_has ls 2 [(0, .ref ed), (1, .ref w)] := hl
  have hin : meth.name = "<init>" := hin
  refine lv_aload_n hx hb dX3_init_0 rfl (lv_at hl 0 rfl) ?_
  refine W.objInit hx hb hown (hts _ q_380) (hts _ q_125) (hts _ q_126) rfl (by rw [hml]; exact hl.1) rfl dX3_init_1 (Nat.le_of_ble_eq_true rfl) (Nat.le_of_ble_eq_true rfl) ?_
  refine W.eq (g2 := F0 m 4 ls []) rfl ?_
  refine lv_aload_n hx hb dX3_init_4 rfl (lv_at hl 0 rfl) ?_
  refine lv_bipush (v := 10) hx hb dX3_init_5 (by decide) ?_
  refine na_i (a0 := (0, .inl (fun _ => 0))) (N' := 10) hx hb hts q_165 hK hP hD hS hA (by decide) (by decide) (by decide) (Nat.le_of_ble_eq_true rfl) (Nat.le_of_ble_eq_true rfl) dX3_init_7 (fun n1 H hP hD hS => ?_)
  have hP : va_P J.1 cls [(ed, .inr (3, [.null, .null, .null, .int 0, .int 0, .int 0, .int 0, .int 0])), (n1, .inl (J.2.1, 10, .inl (fun _ => 0)))] H := hP
  have hD : va_D A [(ed, .inr (3, [.null, .null, .null, .int 0, .int 0, .int 0, .int 0, .int 0])), (n1, .inl (J.2.1, 10, .inl (fun _ => 0)))] := hD
  refine W.widen (k := 1) (n := 10) (Nat.le_of_ble_eq_true rfl) (Nat.le_of_ble_eq_true rfl) ?_
  refine va_putF (D := J.1) (ci := 3) (v := .ref n1) (ty := (.array .int)) (C := RX3) (T := TX3) (N := 8) hx hb hts inX3 tyX3 tyX3_ok nmX3 hown hK.1 hP hD hS 0 rfl rfl 2 (by decide) (hts _ q_385) (fun _ h9 => h9) rfl hin rfl (by decide +kernel) rfl rfl (Nat.le_of_ble_eq_true rfl) dX3_init_9 (fun H locs hP hD hS => ?_)
  have hP : va_P J.1 cls [(ed, .inr (3, [.null, .null, .ref n1, .int 0, .int 0, .int 0, .int 0, .int 0])), (n1, .inl (J.2.1, 10, .inl (fun _ => 0)))] H := hP
  have hD : va_D A [(ed, .inr (3, [.null, .null, .ref n1, .int 0, .int 0, .int 0, .int 0, .int 0])), (n1, .inl (J.2.1, 10, .inl (fun _ => 0)))] := hD
  refine lv_aload_n hx hb dX3_init_12 rfl (lv_at hl 0 rfl) ?_
  refine lv_aload_n hx hb dX3_init_13 rfl (lv_at hl 1 rfl) ?_
  refine va_putF (D := J.1) (ci := 3) (v := .ref w) (ty := (.object "FoxHoles$Warren")) (C := RX3) (T := TX3) (N := 8) hx hb hts inX3 tyX3 tyX3_ok nmX3 hown hK.1 hP hD hS 0 rfl rfl 0 (by decide) (hts _ q_383) (fun _ h9 => h9) rfl hin rfl (by decide +kernel) rfl rfl (Nat.le_of_ble_eq_true rfl) dX3_init_14 (fun H locs hP hD hS => ?_)
  have hP : va_P J.1 cls [(ed, .inr (3, [.ref w, .null, .ref n1, .int 0, .int 0, .int 0, .int 0, .int 0])), (n1, .inl (J.2.1, 10, .inl (fun _ => 0)))] H := hP
  have hD : va_D A [(ed, .inr (3, [.ref w, .null, .ref n1, .int 0, .int 0, .int 0, .int 0, .int 0])), (n1, .inl (J.2.1, 10, .inl (fun _ => 0)))] := hD
  refine lv_aload_n hx hb dX3_init_17 rfl (lv_at hl 0 rfl) ?_
  refine va_new (D := J.1) (ci := 4) (fs := [.null, .int 0]) (C := RX4) (T := TX4) (N := 2) hx hb hts inX4 tyX4 tyX4_ok hown (hts _ q_381) (hts _ q_362) (hts _ q_111) hK.1 hP hD hS hA rfl (fun j hj => by rcases (show j = 0 ∨ j = 1 by omega) with rfl | rfl <;> rfl) (Nat.le_of_ble_eq_true rfl) (Nat.le_of_ble_eq_true rfl) dX3_init_18 (fun n2 H hP hD hS => ?_)
  have hP : va_P J.1 cls [(ed, .inr (3, [.ref w, .null, .ref n1, .int 0, .int 0, .int 0, .int 0, .int 0])), (n1, .inl (J.2.1, 10, .inl (fun _ => 0))), (n2, .inr (4, [.null, .int 0]))] H := hP
  have hD : va_D A [(ed, .inr (3, [.ref w, .null, .ref n1, .int 0, .int 0, .int 0, .int 0, .int 0])), (n1, .inl (J.2.1, 10, .inl (fun _ => 0))), (n2, .inr (4, [.null, .int 0]))] := hD
  refine W.widen (k := 2) (n := 12) (Nat.le_of_ble_eq_true rfl) (Nat.le_of_ble_eq_true rfl) ?_
  refine lv_dup hx hb dX3_init_21 rfl ?_
  refine lv_aload_n hx hb dX3_init_22 rfl (lv_at hl 1 rfl) ?_
  refine gw_v (wc := [(n2, .inr (4, [.null, .int 0]))]) (wr := [(ed, .inr (3, [.ref w, .null, .ref n1, .int 0, .int 0, .int 0, .int 0, .int 0])), (n1, .inl (J.2.1, 10, .inl (fun _ => 0)))]) hP hD hS hA [2] [0, 1] rfl rfl (by decide) (by decide) (wn_I (As := [.ref w]) (rest := [.ref n2, .ref ed]) hx hb hml hown hts hK (n_Dice l J _ n2 w) kI_RX3_21 (hP.sub (ws' := [(n2, .inr (4, [.null, .int 0]))]) [2] rfl) ((hD.sub (ws' := [(n2, .inr (4, [.null, .int 0]))]) [2] (by decide) rfl).weaken (fun _ _ _ _ => trivial)) ⟨Nat.le_of_ble_eq_true rfl, Nat.le_of_ble_eq_true rfl⟩ rfl rfl rfl hl.1 rfl (Nat.le_of_ble_eq_true rfl) ⟨Nat.le_of_ble_eq_true rfl, Nat.le_of_ble_eq_true rfl⟩ dX3_init_23) (fun u3 H locs hw hP hD hS => ?_)
  have hP : va_P J.1 cls [(ed, .inr (3, [.ref w, .null, .ref n1, .int 0, .int 0, .int 0, .int 0, .int 0])), (n1, .inl (J.2.1, 10, .inl (fun _ => 0))), (n2, .inr (4, [.ref w, .int 0]))] H := hP
  have hD : va_D A [(ed, .inr (3, [.ref w, .null, .ref n1, .int 0, .int 0, .int 0, .int 0, .int 0])), (n1, .inl (J.2.1, 10, .inl (fun _ => 0))), (n2, .inr (4, [.ref w, .int 0]))] := hD
  refine W.widen (k := 2) (n := 12) (Nat.le_of_ble_eq_true rfl) (Nat.le_of_ble_eq_true rfl) ?_
  refine va_putF (D := J.1) (ci := 3) (v := .ref n2) (ty := (.object "FoxHoles$Dice")) (C := RX3) (T := TX3) (N := 8) hx hb hts inX3 tyX3 tyX3_ok nmX3 hown hK.1 hP hD hS 0 rfl rfl 1 (by decide) (hts _ q_384) (fun _ h9 => h9) rfl hin rfl (by decide +kernel) rfl rfl (Nat.le_of_ble_eq_true rfl) dX3_init_26 (fun H locs hP hD hS => ?_)
  have hP : va_P J.1 cls [(ed, .inr (3, [.ref w, .ref n2, .ref n1, .int 0, .int 0, .int 0, .int 0, .int 0])), (n1, .inl (J.2.1, 10, .inl (fun _ => 0))), (n2, .inr (4, [.ref w, .int 0]))] H := hP
  have hD : va_D A [(ed, .inr (3, [.ref w, .ref n2, .ref n1, .int 0, .int 0, .int 0, .int 0, .int 0])), (n1, .inl (J.2.1, 10, .inl (fun _ => 0))), (n2, .inr (4, [.ref w, .int 0]))] := hD
  refine W.widen (k := 2) (n := 12) (Nat.le_of_ble_eq_true rfl) (Nat.le_of_ble_eq_true rfl) ?_
  exact wz_v (fun k => [n2, n1].getD k 0) hx hb hr hlk trivial (hP.sub (ws' := [(ed, .inr (3, [.ref w, .ref n2, .ref n1, .int 0, .int 0, .int 0, .int 0, .int 0])), (n2, .inr (4, [.ref w, .int 0])), (n1, .inl (J.2.1, 10, .inl (fun _ => 0)))]) [0, 2, 1] rfl) (hD.sub (ws' := [(ed, .inr (3, [.ref w, .ref n2, .ref n1, .int 0, .int 0, .int 0, .int 0, .int 0])), (n2, .inr (4, [.ref w, .int 0])), (n1, .inl (J.2.1, 10, .inl (fun _ => 0)))]) [0, 2, 1] (by decide) rfl) hS dX3_init_29
theorem dX0_init_0 : decode cX0_init 0 = .ok (.aload_n 0, 1) := by decide +kernel
theorem q_417 : Cond.methodLink RX0 3 ⟨"java/lang/Object", "<init>", "()V"⟩ ∈ lw_g := mem_q 417 (by decide +kernel) rfl
theorem dX0_init_1 : decode cX0_init 1 = .ok (.invokespecial 3, 3) := by decide +kernel
theorem dX0_init_4 : decode cX0_init 4 = .ok (.aload_n 0, 1) := by decide +kernel
theorem dX0_init_5 : decode cX0_init 5 = .ok (.bipush 50, 2) := by decide +kernel
theorem dX0_init_7 : decode cX0_init 7 = .ok (.newarray .int, 2) := by decide +kernel
theorem dX0_init_9 : decode cX0_init 9 = .ok (.putfield 11, 3) := by decide +kernel
theorem dX0_init_12 : decode cX0_init 12 = .ok (.aload_n 0, 1) := by decide +kernel
theorem dX0_init_13 : decode cX0_init 13 = .ok (.bipush 24, 2) := by decide +kernel
theorem dX0_init_15 : decode cX0_init 15 = .ok (.newarray .int, 2) := by decide +kernel
theorem q_421 : Cond.fieldLink RX0 15 RX0 "ran" "[I" ∈ lw_g := mem_q 421 (by decide +kernel) rfl
theorem dX0_init_17 : decode cX0_init 17 = .ok (.putfield 15, 3) := by decide +kernel
theorem dX0_init_20 : decode cX0_init 20 = .ok (.return_, 1) := by decide +kernel
set_option maxHeartbeats 4000000 in
set_option maxRecDepth 100000 in
theorem n_Bodies (l : Launch) (J : va_J9) (sz : Nat) (b : Nat) : WC l J yX0_init cX0_init 1 none ({ frames := 1, cells := 2, slots := 74, locals := 24 }) [.ref b] [(b, .inr (0, [.null, .int 0, .null, .int 0]))] sz (Qv J (fun (u : Nat → Nat) => True) (fun (u : Nat → Nat) => [(b, .inr (0, [.ref (u 0), .int 0, .ref (u 1), .int 0])), ((u 0), .inl (J.2.1, 50, .inl (fun _ => 0)))])) 2 74 := by
  refine wc_of (by decide) (Nat.le_of_ble_eq_true rfl) ?_
  intro p e s m below meth c ls A hE hl hP hK hD hS hA
  obtain ⟨hx, hb, hr, hml, hown, hts, hlk, hin⟩ := hE
  have hown : s.vm.findClass RX0 = some m.cls := hown
  have hl : lv_has ls 1 [(0, .ref b)] := hl
  have hin : meth.name = "<init>" := hin
  refine lv_aload_n hx hb dX0_init_0 rfl (lv_at hl 0 rfl) ?_
  refine W.objInit hx hb hown (hts _ q_417) (hts _ q_125) (hts _ q_126) rfl (by rw [hml]; exact hl.1) rfl dX0_init_1 (Nat.le_of_ble_eq_true rfl) (Nat.le_of_ble_eq_true rfl) ?_
  refine W.eq (g2 := F0 m 4 ls []) rfl ?_
  refine lv_aload_n hx hb dX0_init_4 rfl (lv_at hl 0 rfl) ?_
  refine lv_bipush (v := 50) hx hb dX0_init_5 (by decide) ?_
  refine na_i (a0 := (0, .inl (fun _ => 0))) (N' := 50) hx hb hts q_165 hK hP hD hS hA (by decide) (by decide) (by decide) (Nat.le_of_ble_eq_true rfl) (Nat.le_of_ble_eq_true rfl) dX0_init_7 (fun n1 H hP hD hS => ?_)
  have hP : va_P J.1 cls [(b, .inr (0, [.null, .int 0, .null, .int 0])), (n1, .inl (J.2.1, 50, .inl (fun _ => 0)))] H := hP
  have hD : va_D A [(b, .inr (0, [.null, .int 0, .null, .int 0])), (n1, .inl (J.2.1, 50, .inl (fun _ => 0)))] := hD
  refine W.widen (k := 1) (n := 50) (Nat.le_of_ble_eq_true rfl) (Nat.le_of_ble_eq_true rfl) ?_
  refine va_putF (D := J.1) (ci := 0) (v := .ref n1) (ty := (.array .int)) (C := RX0) (T := TX0) (N := 4) hx hb hts inX0 tyX0 tyX0_ok nmX0 hown hK.1 hP hD hS 0 rfl rfl 0 (by decide) (hts _ q_418) (fun _ h9 => h9) rfl hin rfl (by decide +kernel) rfl rfl (Nat.le_of_ble_eq_true rfl) dX0_init_9 (fun H locs hP hD hS => ?_)
  have hP : va_P J.1 cls [(b, .inr (0, [.ref n1, .int 0, .null, .int 0])), (n1, .inl (J.2.1, 50, .inl (fun _ => 0)))] H := hP
  have hD : va_D A [(b, .inr (0, [.ref n1, .int 0, .null, .int 0])), (n1, .inl (J.2.1, 50, .inl (fun _ => 0)))] := hD
  refine lv_aload_n hx hb dX0_init_12 rfl (lv_at hl 0 rfl) ?_
  refine lv_bipush (v := 24) hx hb dX0_init_13 (by decide) ?_
  refine na_i (a0 := (0, .inl (fun _ => 0))) (N' := 24) hx hb hts q_165 hK hP hD hS hA (by decide) (by decide) (by decide) (Nat.le_of_ble_eq_true rfl) (Nat.le_of_ble_eq_true rfl) dX0_init_15 (fun n2 H hP hD hS => ?_)
  have hP : va_P J.1 cls [(b, .inr (0, [.ref n1, .int 0, .null, .int 0])), (n1, .inl (J.2.1, 50, .inl (fun _ => 0))), (n2, .inl (J.2.1, 24, .inl (fun _ => 0)))] H := hP
  have hD : va_D A [(b, .inr (0, [.ref n1, .int 0, .null, .int 0])), (n1, .inl (J.2.1, 50, .inl (fun _ => 0))), (n2, .inl (J.2.1, 24, .inl (fun _ => 0)))] := hD
  refine W.widen (k := 2) (n := 74) (Nat.le_of_ble_eq_true rfl) (Nat.le_of_ble_eq_true rfl) ?_
  refine va_putF (D := J.1) (ci := 0) (v := .ref n2) (ty := (.array .int)) (C := RX0) (T := TX0) (N := 4) hx hb hts inX0 tyX0 tyX0_ok nmX0 hown hK.1 hP hD hS 0 rfl rfl 2 (by decide) (hts _ q_421) (fun _ h9 => h9) rfl hin rfl (by decide +kernel) rfl rfl (Nat.le_of_ble_eq_true rfl) dX0_init_17 (fun H locs hP hD hS => ?_)
  have hP : va_P J.1 cls [(b, .inr (0, [.ref n1, .int 0, .ref n2, .int 0])), (n1, .inl (J.2.1, 50, .inl (fun _ => 0))), (n2, .inl (J.2.1, 24, .inl (fun _ => 0)))] H := hP
  have hD : va_D A [(b, .inr (0, [.ref n1, .int 0, .ref n2, .int 0])), (n1, .inl (J.2.1, 50, .inl (fun _ => 0))), (n2, .inl (J.2.1, 24, .inl (fun _ => 0)))] := hD
  refine W.widen (k := 2) (n := 74) (Nat.le_of_ble_eq_true rfl) (Nat.le_of_ble_eq_true rfl) ?_
  exact wz_v (fun k => [n1, n2].getD k 0) hx hb hr hlk trivial (hP.sub (ws' := [(b, .inr (0, [.ref n1, .int 0, .ref n2, .int 0])), (n1, .inl (J.2.1, 50, .inl (fun _ => 0)))]) [0, 1] rfl) (hD.sub (ws' := [(b, .inr (0, [.ref n1, .int 0, .ref n2, .int 0])), (n1, .inl (J.2.1, 50, .inl (fun _ => 0)))]) [0, 1] (by decide) rfl) hS dX0_init_20
theorem dX9_init_0 : decode cX9_init 0 = .ok (.aload_n 0, 1) := by decide +kernel
theorem q_439 : Cond.methodLink RX9 3 ⟨"java/lang/Object", "<init>", "()V"⟩ ∈ lw_g := mem_q 439 (by decide +kernel) rfl
theorem dX9_init_1 : decode cX9_init 1 = .ok (.invokespecial 3, 3) := by decide +kernel
theorem dX9_init_4 : decode cX9_init 4 = .ok (.aload_n 0, 1) := by decide +kernel
theorem dX9_init_5 : decode cX9_init 5 = .ok (.bipush 60, 2) := by decide +kernel
theorem dX9_init_7 : decode cX9_init 7 = .ok (.newarray .long, 2) := by decide +kernel
theorem dX9_init_9 : decode cX9_init 9 = .ok (.putfield 9, 3) := by decide +kernel
theorem dX9_init_12 : decode cX9_init 12 = .ok (.return_, 1) := by decide +kernel
set_option maxHeartbeats 4000000 in
set_option maxRecDepth 100000 in
theorem n_Shelf (l : Launch) (J : va_J9) (sz : Nat) (sh : Nat) : WC l J yX9_init cX9_init 1 none ({ frames := 1, cells := 1, slots := 60, locals := 24 }) [.ref sh] [(sh, .inr (9, [.null, .int 0, .int 0, .int 0, .int 0]))] sz (Qv J (fun (u : Nat → Nat) => True) (fun (u : Nat → Nat) => [(sh, .inr (9, [.ref (u 0), .int 0, .int 0, .int 0, .int 0])), ((u 0), .inl (J.2.2.1, 60, .inr (.inl (fun _ => 0))))])) 1 60 := by
  refine wc_of (by decide) (Nat.le_of_ble_eq_true rfl) ?_
  intro p e s m below meth c ls A hE hl hP hK hD hS hA
  obtain ⟨hx, hb, hr, hml, hown, hts, hlk, hin⟩ := hE
  have hown : s.vm.findClass RX9 = some m.cls := hown
  have hl : lv_has ls 1 [(0, .ref sh)] := hl
  have hin : meth.name = "<init>" := hin
  refine lv_aload_n hx hb dX9_init_0 rfl (lv_at hl 0 rfl) ?_
  refine W.objInit hx hb hown (hts _ q_439) (hts _ q_125) (hts _ q_126) rfl (by rw [hml]; exact hl.1) rfl dX9_init_1 (Nat.le_of_ble_eq_true rfl) (Nat.le_of_ble_eq_true rfl) ?_
  refine W.eq (g2 := F0 m 4 ls []) rfl ?_
  refine lv_aload_n hx hb dX9_init_4 rfl (lv_at hl 0 rfl) ?_
  refine lv_bipush (v := 60) hx hb dX9_init_5 (by decide) ?_
  refine na_l (a0 := (0, .inl (fun _ => 0))) (N' := 60) hx hb hts q_360 hK hP hD hS hA (by decide) (by decide) (by decide) (Nat.le_of_ble_eq_true rfl) (Nat.le_of_ble_eq_true rfl) dX9_init_7 (fun n1 H hP hD hS => ?_)
  have hP : va_P J.1 cls [(sh, .inr (9, [.null, .int 0, .int 0, .int 0, .int 0])), (n1, .inl (J.2.2.1, 60, .inr (.inl (fun _ => 0))))] H := hP
  have hD : va_D A [(sh, .inr (9, [.null, .int 0, .int 0, .int 0, .int 0])), (n1, .inl (J.2.2.1, 60, .inr (.inl (fun _ => 0))))] := hD
  refine W.widen (k := 1) (n := 60) (Nat.le_of_ble_eq_true rfl) (Nat.le_of_ble_eq_true rfl) ?_
  refine va_putF (D := J.1) (ci := 9) (v := .ref n1) (ty := (.array .long)) (C := RX9) (T := TX9) (N := 5) hx hb hts inX9 tyX9 tyX9_ok nmX9 hown hK.1 hP hD hS 0 rfl rfl 0 (by decide) (hts _ q_440) (fun _ h9 => h9) rfl hin rfl (by decide +kernel) rfl rfl (Nat.le_of_ble_eq_true rfl) dX9_init_9 (fun H locs hP hD hS => ?_)
  have hP : va_P J.1 cls [(sh, .inr (9, [.ref n1, .int 0, .int 0, .int 0, .int 0])), (n1, .inl (J.2.2.1, 60, .inr (.inl (fun _ => 0))))] H := hP
  have hD : va_D A [(sh, .inr (9, [.ref n1, .int 0, .int 0, .int 0, .int 0])), (n1, .inl (J.2.2.1, 60, .inr (.inl (fun _ => 0))))] := hD
  refine W.widen (k := 1) (n := 60) (Nat.le_of_ble_eq_true rfl) (Nat.le_of_ble_eq_true rfl) ?_
  exact wz_v (fun k => [n1].getD k 0) hx hb hr hlk trivial hP hD hS dX9_init_12
end
