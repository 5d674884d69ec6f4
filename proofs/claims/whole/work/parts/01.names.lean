/-- a private method of a class that the tables say can be made, by its rows of tables_1 -/
def lw_okq (q : MethodName × Nat) : Prop := (q.1.cls ≠ "java/lang/invoke/MethodHandle" ∧ q.1.cls ≠ "java/lang/invoke/VarHandle") ∧ Cond.instantiable q.1.cls q.2 ∈ tables_1 ∧ Cond.privateMethod q.1 ∈ tables_1 ∧ Cond.instanceMethod q.1 ∈ tables_1
theorem lw_p0 : lw_okq (⟨"ComplaintBooks", "placeAt", "(I)LComplaintBooks$Place;"⟩, 19) := ⟨⟨by decide +kernel, by decide +kernel⟩, List.mem_of_getElem? (i := 22) (by decide +kernel), List.mem_of_getElem? (i := 283) (by decide +kernel), List.mem_of_getElem? (i := 284) (by decide +kernel)⟩
theorem lw_p1 : lw_okq (⟨"ComplaintBooks", "refuse", "(I)I"⟩, 19) := ⟨⟨by decide +kernel, by decide +kernel⟩, List.mem_of_getElem? (i := 22) (by decide +kernel), List.mem_of_getElem? (i := 290) (by decide +kernel), List.mem_of_getElem? (i := 291) (by decide +kernel)⟩
theorem lw_p2 : lw_okq (⟨"ComplaintBooks", "settle", "(LComplaintBooks$Place;III)I"⟩, 19) := ⟨⟨by decide +kernel, by decide +kernel⟩, List.mem_of_getElem? (i := 22) (by decide +kernel), List.mem_of_getElem? (i := 294) (by decide +kernel), List.mem_of_getElem? (i := 295) (by decide +kernel)⟩
theorem lw_p3 : lw_okq (⟨"ComplaintBooks", "sizeOfBook", "(LComplaintBooks$Place;)I"⟩, 19) := ⟨⟨by decide +kernel, by decide +kernel⟩, List.mem_of_getElem? (i := 22) (by decide +kernel), List.mem_of_getElem? (i := 317) (by decide +kernel), List.mem_of_getElem? (i := 318) (by decide +kernel)⟩
theorem lw_p4 : lw_okq (⟨"ComplaintBooks", "shelfAt", "(I)LComplaintBooks$Shelf;"⟩, 19) := ⟨⟨by decide +kernel, by decide +kernel⟩, List.mem_of_getElem? (i := 22) (by decide +kernel), List.mem_of_getElem? (i := 328) (by decide +kernel), List.mem_of_getElem? (i := 329) (by decide +kernel)⟩
theorem lw_p5 : lw_okq (⟨"ComplaintBooks$Shelf", "takeRow", "(II)V"⟩, 4) := ⟨⟨by decide +kernel, by decide +kernel⟩, List.mem_of_getElem? (i := 149) (by decide +kernel), List.mem_of_getElem? (i := 332) (by decide +kernel), List.mem_of_getElem? (i := 333) (by decide +kernel)⟩
theorem lw_p6 : lw_okq (⟨"ComplaintBooks$Shelf", "hasRow", "()Z"⟩, 4) := ⟨⟨by decide +kernel, by decide +kernel⟩, List.mem_of_getElem? (i := 149) (by decide +kernel), List.mem_of_getElem? (i := 346) (by decide +kernel), List.mem_of_getElem? (i := 347) (by decide +kernel)⟩
theorem lw_p7 : lw_okq (⟨"ComplaintBooks", "askAt", "(I)LComplaintBooks$Ask;"⟩, 19) := ⟨⟨by decide +kernel, by decide +kernel⟩, List.mem_of_getElem? (i := 22) (by decide +kernel), List.mem_of_getElem? (i := 368) (by decide +kernel), List.mem_of_getElem? (i := 369) (by decide +kernel)⟩
theorem lw_p8 : lw_okq (⟨"ComplaintBooks$Shelf", "takeAsk", "(LComplaintBooks$Ask;)V"⟩, 4) := ⟨⟨by decide +kernel, by decide +kernel⟩, List.mem_of_getElem? (i := 149) (by decide +kernel), List.mem_of_getElem? (i := 372) (by decide +kernel), List.mem_of_getElem? (i := 373) (by decide +kernel)⟩
theorem lw_p9 : lw_okq (⟨"ComplaintBooks$Ask", "isOf", "(I)Z"⟩, 19) := ⟨⟨by decide +kernel, by decide +kernel⟩, List.mem_of_getElem? (i := 386) (by decide +kernel), List.mem_of_getElem? (i := 384) (by decide +kernel), List.mem_of_getElem? (i := 385) (by decide +kernel)⟩
theorem lw_p10 : lw_okq (⟨"ComplaintBooks$Ask", "partCount", "()I"⟩, 19) := ⟨⟨by decide +kernel, by decide +kernel⟩, List.mem_of_getElem? (i := 386) (by decide +kernel), List.mem_of_getElem? (i := 389) (by decide +kernel), List.mem_of_getElem? (i := 390) (by decide +kernel)⟩
theorem lw_p11 : lw_okq (⟨"ComplaintBooks$Shelf", "rowCopy", "()[J"⟩, 4) := ⟨⟨by decide +kernel, by decide +kernel⟩, List.mem_of_getElem? (i := 149) (by decide +kernel), List.mem_of_getElem? (i := 398) (by decide +kernel), List.mem_of_getElem? (i := 399) (by decide +kernel)⟩
theorem lw_p12 : lw_okq (⟨"ComplaintBooks", "modelAt", "(I)LComplaintBooks$Model;"⟩, 19) := ⟨⟨by decide +kernel, by decide +kernel⟩, List.mem_of_getElem? (i := 22) (by decide +kernel), List.mem_of_getElem? (i := 445) (by decide +kernel), List.mem_of_getElem? (i := 446) (by decide +kernel)⟩
theorem lw_p13 : lw_okq (⟨"ComplaintBooks", "likeOnes", "([J[J)I"⟩, 19) := ⟨⟨by decide +kernel, by decide +kernel⟩, List.mem_of_getElem? (i := 22) (by decide +kernel), List.mem_of_getElem? (i := 456) (by decide +kernel), List.mem_of_getElem? (i := 457) (by decide +kernel)⟩
theorem lw_p14 : lw_okq (⟨"ComplaintBooks", "mayWrite", "(LComplaintBooks$Place;II)Z"⟩, 19) := ⟨⟨by decide +kernel, by decide +kernel⟩, List.mem_of_getElem? (i := 22) (by decide +kernel), List.mem_of_getElem? (i := 478) (by decide +kernel), List.mem_of_getElem? (i := 479) (by decide +kernel)⟩
theorem lw_p15 : lw_okq (⟨"ComplaintBooks$Ask", "stands", "()Z"⟩, 19) := ⟨⟨by decide +kernel, by decide +kernel⟩, List.mem_of_getElem? (i := 386) (by decide +kernel), List.mem_of_getElem? (i := 482) (by decide +kernel), List.mem_of_getElem? (i := 483) (by decide +kernel)⟩
def lw_privs_1 : List (MethodName × Nat) := [(⟨"ComplaintBooks", "placeAt", "(I)LComplaintBooks$Place;"⟩, 19), (⟨"ComplaintBooks", "refuse", "(I)I"⟩, 19), (⟨"ComplaintBooks", "settle", "(LComplaintBooks$Place;III)I"⟩, 19), (⟨"ComplaintBooks", "sizeOfBook", "(LComplaintBooks$Place;)I"⟩, 19), (⟨"ComplaintBooks", "shelfAt", "(I)LComplaintBooks$Shelf;"⟩, 19), (⟨"ComplaintBooks$Shelf", "takeRow", "(II)V"⟩, 4), (⟨"ComplaintBooks$Shelf", "hasRow", "()Z"⟩, 4), (⟨"ComplaintBooks", "askAt", "(I)LComplaintBooks$Ask;"⟩, 19), (⟨"ComplaintBooks$Shelf", "takeAsk", "(LComplaintBooks$Ask;)V"⟩, 4), (⟨"ComplaintBooks$Ask", "isOf", "(I)Z"⟩, 19), (⟨"ComplaintBooks$Ask", "partCount", "()I"⟩, 19), (⟨"ComplaintBooks$Shelf", "rowCopy", "()[J"⟩, 4), (⟨"ComplaintBooks", "modelAt", "(I)LComplaintBooks$Model;"⟩, 19), (⟨"ComplaintBooks", "likeOnes", "([J[J)I"⟩, 19), (⟨"ComplaintBooks", "mayWrite", "(LComplaintBooks$Place;II)Z"⟩, 19), (⟨"ComplaintBooks$Ask", "stands", "()Z"⟩, 19)]
theorem lw_r1 : ∀ q ∈ lw_privs_1, lw_okq q := List.forall_mem_cons.mpr ⟨lw_p0, List.forall_mem_cons.mpr ⟨lw_p1, List.forall_mem_cons.mpr ⟨lw_p2, List.forall_mem_cons.mpr ⟨lw_p3, List.forall_mem_cons.mpr ⟨lw_p4, List.forall_mem_cons.mpr ⟨lw_p5, List.forall_mem_cons.mpr ⟨lw_p6, List.forall_mem_cons.mpr ⟨lw_p7, List.forall_mem_cons.mpr ⟨lw_p8, List.forall_mem_cons.mpr ⟨lw_p9, List.forall_mem_cons.mpr ⟨lw_p10, List.forall_mem_cons.mpr ⟨lw_p11, List.forall_mem_cons.mpr ⟨lw_p12, List.forall_mem_cons.mpr ⟨lw_p13, List.forall_mem_cons.mpr ⟨lw_p14, List.forall_mem_cons.mpr ⟨lw_p15, fun _ h => absurd h List.not_mem_nil⟩⟩⟩⟩⟩⟩⟩⟩⟩⟩⟩⟩⟩⟩⟩⟩
theorem lw_p16 : lw_okq (⟨"ComplaintBooks$Ask", "isFor", "(II)Z"⟩, 19) := ⟨⟨by decide +kernel, by decide +kernel⟩, List.mem_of_getElem? (i := 386) (by decide +kernel), List.mem_of_getElem? (i := 486) (by decide +kernel), List.mem_of_getElem? (i := 487) (by decide +kernel)⟩
theorem lw_p17 : lw_okq (⟨"ComplaintBooks", "borrow", "(LComplaintBooks$Ask;)V"⟩, 19) := ⟨⟨by decide +kernel, by decide +kernel⟩, List.mem_of_getElem? (i := 22) (by decide +kernel), List.mem_of_getElem? (i := 570) (by decide +kernel), List.mem_of_getElem? (i := 571) (by decide +kernel)⟩
theorem lw_p18 : lw_okq (⟨"ComplaintBooks", "enter", "(LComplaintBooks$Ask;)I"⟩, 19) := ⟨⟨by decide +kernel, by decide +kernel⟩, List.mem_of_getElem? (i := 22) (by decide +kernel), List.mem_of_getElem? (i := 574) (by decide +kernel), List.mem_of_getElem? (i := 575) (by decide +kernel)⟩
theorem lw_p19 : lw_okq (⟨"ComplaintBooks$RuleReader", "takeLetters", "([JI)V"⟩, 7) := ⟨⟨by decide +kernel, by decide +kernel⟩, List.mem_of_getElem? (i := 42) (by decide +kernel), List.mem_of_getElem? (i := 617) (by decide +kernel), List.mem_of_getElem? (i := 618) (by decide +kernel)⟩
theorem lw_p20 : lw_okq (⟨"ComplaintBooks$RuleReader", "readRule", "()V"⟩, 7) := ⟨⟨by decide +kernel, by decide +kernel⟩, List.mem_of_getElem? (i := 42) (by decide +kernel), List.mem_of_getElem? (i := 622) (by decide +kernel), List.mem_of_getElem? (i := 623) (by decide +kernel)⟩
theorem lw_p21 : lw_okq (⟨"ComplaintBooks$RuleReader", "want", "(I)V"⟩, 7) := ⟨⟨by decide +kernel, by decide +kernel⟩, List.mem_of_getElem? (i := 42) (by decide +kernel), List.mem_of_getElem? (i := 626) (by decide +kernel), List.mem_of_getElem? (i := 627) (by decide +kernel)⟩
theorem lw_p22 : lw_okq (⟨"ComplaintBooks$RuleReader", "next", "()I"⟩, 7) := ⟨⟨by decide +kernel, by decide +kernel⟩, List.mem_of_getElem? (i := 42) (by decide +kernel), List.mem_of_getElem? (i := 630) (by decide +kernel), List.mem_of_getElem? (i := 631) (by decide +kernel)⟩
theorem lw_p23 : lw_okq (⟨"ComplaintBooks$RuleReader", "pass", "(Z)V"⟩, 7) := ⟨⟨by decide +kernel, by decide +kernel⟩, List.mem_of_getElem? (i := 42) (by decide +kernel), List.mem_of_getElem? (i := 634) (by decide +kernel), List.mem_of_getElem? (i := 635) (by decide +kernel)⟩
theorem lw_p24 : lw_okq (⟨"ComplaintBooks$RuleReader", "fail", "()V"⟩, 7) := ⟨⟨by decide +kernel, by decide +kernel⟩, List.mem_of_getElem? (i := 42) (by decide +kernel), List.mem_of_getElem? (i := 638) (by decide +kernel), List.mem_of_getElem? (i := 639) (by decide +kernel)⟩
theorem lw_p25 : lw_okq (⟨"ComplaintBooks$RuleReader", "readAny", "(I)Z"⟩, 7) := ⟨⟨by decide +kernel, by decide +kernel⟩, List.mem_of_getElem? (i := 42) (by decide +kernel), List.mem_of_getElem? (i := 642) (by decide +kernel), List.mem_of_getElem? (i := 643) (by decide +kernel)⟩
theorem lw_p26 : lw_okq (⟨"ComplaintBooks$RuleReader", "readAll", "(I)Z"⟩, 7) := ⟨⟨by decide +kernel, by decide +kernel⟩, List.mem_of_getElem? (i := 42) (by decide +kernel), List.mem_of_getElem? (i := 646) (by decide +kernel), List.mem_of_getElem? (i := 647) (by decide +kernel)⟩
theorem lw_p27 : lw_okq (⟨"ComplaintBooks$RuleReader", "readOne", "(I)Z"⟩, 7) := ⟨⟨by decide +kernel, by decide +kernel⟩, List.mem_of_getElem? (i := 42) (by decide +kernel), List.mem_of_getElem? (i := 650) (by decide +kernel), List.mem_of_getElem? (i := 651) (by decide +kernel)⟩
theorem lw_p28 : lw_okq (⟨"ComplaintBooks$RuleReader", "readTest", "()Z"⟩, 7) := ⟨⟨by decide +kernel, by decide +kernel⟩, List.mem_of_getElem? (i := 42) (by decide +kernel), List.mem_of_getElem? (i := 654) (by decide +kernel), List.mem_of_getElem? (i := 655) (by decide +kernel)⟩
theorem lw_p29 : lw_okq (⟨"ComplaintBooks$RuleReader", "readSide", "()J"⟩, 7) := ⟨⟨by decide +kernel, by decide +kernel⟩, List.mem_of_getElem? (i := 42) (by decide +kernel), List.mem_of_getElem? (i := 658) (by decide +kernel), List.mem_of_getElem? (i := 659) (by decide +kernel)⟩
theorem lw_p30 : lw_okq (⟨"ComplaintBooks$RuleReader", "readField", "()I"⟩, 7) := ⟨⟨by decide +kernel, by decide +kernel⟩, List.mem_of_getElem? (i := 42) (by decide +kernel), List.mem_of_getElem? (i := 665) (by decide +kernel), List.mem_of_getElem? (i := 666) (by decide +kernel)⟩
theorem lw_p31 : lw_okq (⟨"ComplaintBooks", "ruleInForce", "(II)LComplaintBooks$Rule;"⟩, 19) := ⟨⟨by decide +kernel, by decide +kernel⟩, List.mem_of_getElem? (i := 22) (by decide +kernel), List.mem_of_getElem? (i := 747) (by decide +kernel), List.mem_of_getElem? (i := 748) (by decide +kernel)⟩
def lw_privs_2 : List (MethodName × Nat) := [(⟨"ComplaintBooks$Ask", "isFor", "(II)Z"⟩, 19), (⟨"ComplaintBooks", "borrow", "(LComplaintBooks$Ask;)V"⟩, 19), (⟨"ComplaintBooks", "enter", "(LComplaintBooks$Ask;)I"⟩, 19), (⟨"ComplaintBooks$RuleReader", "takeLetters", "([JI)V"⟩, 7), (⟨"ComplaintBooks$RuleReader", "readRule", "()V"⟩, 7), (⟨"ComplaintBooks$RuleReader", "want", "(I)V"⟩, 7), (⟨"ComplaintBooks$RuleReader", "next", "()I"⟩, 7), (⟨"ComplaintBooks$RuleReader", "pass", "(Z)V"⟩, 7), (⟨"ComplaintBooks$RuleReader", "fail", "()V"⟩, 7), (⟨"ComplaintBooks$RuleReader", "readAny", "(I)Z"⟩, 7), (⟨"ComplaintBooks$RuleReader", "readAll", "(I)Z"⟩, 7), (⟨"ComplaintBooks$RuleReader", "readOne", "(I)Z"⟩, 7), (⟨"ComplaintBooks$RuleReader", "readTest", "()Z"⟩, 7), (⟨"ComplaintBooks$RuleReader", "readSide", "()J"⟩, 7), (⟨"ComplaintBooks$RuleReader", "readField", "()I"⟩, 7), (⟨"ComplaintBooks", "ruleInForce", "(II)LComplaintBooks$Rule;"⟩, 19)]
theorem lw_r2 : ∀ q ∈ lw_privs_2, lw_okq q := List.forall_mem_cons.mpr ⟨lw_p16, List.forall_mem_cons.mpr ⟨lw_p17, List.forall_mem_cons.mpr ⟨lw_p18, List.forall_mem_cons.mpr ⟨lw_p19, List.forall_mem_cons.mpr ⟨lw_p20, List.forall_mem_cons.mpr ⟨lw_p21, List.forall_mem_cons.mpr ⟨lw_p22, List.forall_mem_cons.mpr ⟨lw_p23, List.forall_mem_cons.mpr ⟨lw_p24, List.forall_mem_cons.mpr ⟨lw_p25, List.forall_mem_cons.mpr ⟨lw_p26, List.forall_mem_cons.mpr ⟨lw_p27, List.forall_mem_cons.mpr ⟨lw_p28, List.forall_mem_cons.mpr ⟨lw_p29, List.forall_mem_cons.mpr ⟨lw_p30, List.forall_mem_cons.mpr ⟨lw_p31, fun _ h => absurd h List.not_mem_nil⟩⟩⟩⟩⟩⟩⟩⟩⟩⟩⟩⟩⟩⟩⟩⟩
theorem lw_p32 : lw_okq (⟨"ComplaintBooks", "gather", "(LComplaintBooks$Place;)V"⟩, 19) := ⟨⟨by decide +kernel, by decide +kernel⟩, List.mem_of_getElem? (i := 22) (by decide +kernel), List.mem_of_getElem? (i := 759) (by decide +kernel), List.mem_of_getElem? (i := 760) (by decide +kernel)⟩
theorem lw_p33 : lw_okq (⟨"ComplaintBooks$Groups", "clear", "()V"⟩, 5) := ⟨⟨by decide +kernel, by decide +kernel⟩, List.mem_of_getElem? (i := 87) (by decide +kernel), List.mem_of_getElem? (i := 763) (by decide +kernel), List.mem_of_getElem? (i := 764) (by decide +kernel)⟩
theorem lw_p34 : lw_okq (⟨"ComplaintBooks$Groups", "add", "(LComplaintBooks$Ask;)V"⟩, 5) := ⟨⟨by decide +kernel, by decide +kernel⟩, List.mem_of_getElem? (i := 87) (by decide +kernel), List.mem_of_getElem? (i := 767) (by decide +kernel), List.mem_of_getElem? (i := 768) (by decide +kernel)⟩
theorem lw_p35 : lw_okq (⟨"ComplaintBooks$Ask", "comesAfter", "(LComplaintBooks$Ask;)Z"⟩, 19) := ⟨⟨by decide +kernel, by decide +kernel⟩, List.mem_of_getElem? (i := 386) (by decide +kernel), List.mem_of_getElem? (i := 771) (by decide +kernel), List.mem_of_getElem? (i := 772) (by decide +kernel)⟩
theorem lw_p36 : lw_okq (⟨"ComplaintBooks$Groups", "findStarts", "()V"⟩, 5) := ⟨⟨by decide +kernel, by decide +kernel⟩, List.mem_of_getElem? (i := 87) (by decide +kernel), List.mem_of_getElem? (i := 775) (by decide +kernel), List.mem_of_getElem? (i := 776) (by decide +kernel)⟩
theorem lw_p37 : lw_okq (⟨"ComplaintBooks", "sift", "(LComplaintBooks$Place;)I"⟩, 19) := ⟨⟨by decide +kernel, by decide +kernel⟩, List.mem_of_getElem? (i := 22) (by decide +kernel), List.mem_of_getElem? (i := 780) (by decide +kernel), List.mem_of_getElem? (i := 781) (by decide +kernel)⟩
theorem lw_p38 : lw_okq (⟨"ComplaintBooks", "tellFields", "(LComplaintBooks$Place;I)V"⟩, 19) := ⟨⟨by decide +kernel, by decide +kernel⟩, List.mem_of_getElem? (i := 22) (by decide +kernel), List.mem_of_getElem? (i := 784) (by decide +kernel), List.mem_of_getElem? (i := 785) (by decide +kernel)⟩
theorem lw_p39 : lw_okq (⟨"ComplaintBooks$Groups", "firstOf", "(I)LComplaintBooks$Ask;"⟩, 5) := ⟨⟨by decide +kernel, by decide +kernel⟩, List.mem_of_getElem? (i := 87) (by decide +kernel), List.mem_of_getElem? (i := 788) (by decide +kernel), List.mem_of_getElem? (i := 789) (by decide +kernel)⟩
theorem lw_p40 : lw_okq (⟨"ComplaintBooks$Groups", "sizeOf", "(I)I"⟩, 5) := ⟨⟨by decide +kernel, by decide +kernel⟩, List.mem_of_getElem? (i := 87) (by decide +kernel), List.mem_of_getElem? (i := 792) (by decide +kernel), List.mem_of_getElem? (i := 793) (by decide +kernel)⟩
theorem lw_p41 : lw_okq (⟨"ComplaintBooks$Groups", "hearthsOf", "(I)I"⟩, 5) := ⟨⟨by decide +kernel, by decide +kernel⟩, List.mem_of_getElem? (i := 87) (by decide +kernel), List.mem_of_getElem? (i := 796) (by decide +kernel), List.mem_of_getElem? (i := 797) (by decide +kernel)⟩
theorem lw_p42 : lw_okq (⟨"ComplaintBooks$Groups", "joined", "(II)I"⟩, 5) := ⟨⟨by decide +kernel, by decide +kernel⟩, List.mem_of_getElem? (i := 87) (by decide +kernel), List.mem_of_getElem? (i := 800) (by decide +kernel), List.mem_of_getElem? (i := 801) (by decide +kernel)⟩
theorem lw_p43 : lw_okq (⟨"ComplaintBooks$Groups", "muchAt", "(II)I"⟩, 5) := ⟨⟨by decide +kernel, by decide +kernel⟩, List.mem_of_getElem? (i := 87) (by decide +kernel), List.mem_of_getElem? (i := 805) (by decide +kernel), List.mem_of_getElem? (i := 806) (by decide +kernel)⟩
theorem lw_p44 : lw_okq (⟨"ComplaintBooks$Groups", "dropAt", "(ILComplaintBooks$Place;)V"⟩, 5) := ⟨⟨by decide +kernel, by decide +kernel⟩, List.mem_of_getElem? (i := 87) (by decide +kernel), List.mem_of_getElem? (i := 810) (by decide +kernel), List.mem_of_getElem? (i := 811) (by decide +kernel)⟩
theorem lw_p45 : lw_okq (⟨"ComplaintBooks", "merge", "(ILComplaintBooks$Place;)V"⟩, 19) := ⟨⟨by decide +kernel, by decide +kernel⟩, List.mem_of_getElem? (i := 22) (by decide +kernel), List.mem_of_getElem? (i := 814) (by decide +kernel), List.mem_of_getElem? (i := 815) (by decide +kernel)⟩
theorem lw_p46 : lw_okq (⟨"ComplaintBooks$Groups", "partsInto", "(ILComplaintBooks$Ask;)[LComplaintBooks$Ask;"⟩, 5) := ⟨⟨by decide +kernel, by decide +kernel⟩, List.mem_of_getElem? (i := 87) (by decide +kernel), List.mem_of_getElem? (i := 818) (by decide +kernel), List.mem_of_getElem? (i := 819) (by decide +kernel)⟩
theorem lw_p47 : lw_okq (⟨"ComplaintBooks$Ask", "saysAt", "(I)I"⟩, 19) := ⟨⟨by decide +kernel, by decide +kernel⟩, List.mem_of_getElem? (i := 386) (by decide +kernel), List.mem_of_getElem? (i := 827) (by decide +kernel), List.mem_of_getElem? (i := 828) (by decide +kernel)⟩
def lw_privs_3 : List (MethodName × Nat) := [(⟨"ComplaintBooks", "gather", "(LComplaintBooks$Place;)V"⟩, 19), (⟨"ComplaintBooks$Groups", "clear", "()V"⟩, 5), (⟨"ComplaintBooks$Groups", "add", "(LComplaintBooks$Ask;)V"⟩, 5), (⟨"ComplaintBooks$Ask", "comesAfter", "(LComplaintBooks$Ask;)Z"⟩, 19), (⟨"ComplaintBooks$Groups", "findStarts", "()V"⟩, 5), (⟨"ComplaintBooks", "sift", "(LComplaintBooks$Place;)I"⟩, 19), (⟨"ComplaintBooks", "tellFields", "(LComplaintBooks$Place;I)V"⟩, 19), (⟨"ComplaintBooks$Groups", "firstOf", "(I)LComplaintBooks$Ask;"⟩, 5), (⟨"ComplaintBooks$Groups", "sizeOf", "(I)I"⟩, 5), (⟨"ComplaintBooks$Groups", "hearthsOf", "(I)I"⟩, 5), (⟨"ComplaintBooks$Groups", "joined", "(II)I"⟩, 5), (⟨"ComplaintBooks$Groups", "muchAt", "(II)I"⟩, 5), (⟨"ComplaintBooks$Groups", "dropAt", "(ILComplaintBooks$Place;)V"⟩, 5), (⟨"ComplaintBooks", "merge", "(ILComplaintBooks$Place;)V"⟩, 19), (⟨"ComplaintBooks$Groups", "partsInto", "(ILComplaintBooks$Ask;)[LComplaintBooks$Ask;"⟩, 5), (⟨"ComplaintBooks$Ask", "saysAt", "(I)I"⟩, 19)]
theorem lw_r3 : ∀ q ∈ lw_privs_3, lw_okq q := List.forall_mem_cons.mpr ⟨lw_p32, List.forall_mem_cons.mpr ⟨lw_p33, List.forall_mem_cons.mpr ⟨lw_p34, List.forall_mem_cons.mpr ⟨lw_p35, List.forall_mem_cons.mpr ⟨lw_p36, List.forall_mem_cons.mpr ⟨lw_p37, List.forall_mem_cons.mpr ⟨lw_p38, List.forall_mem_cons.mpr ⟨lw_p39, List.forall_mem_cons.mpr ⟨lw_p40, List.forall_mem_cons.mpr ⟨lw_p41, List.forall_mem_cons.mpr ⟨lw_p42, List.forall_mem_cons.mpr ⟨lw_p43, List.forall_mem_cons.mpr ⟨lw_p44, List.forall_mem_cons.mpr ⟨lw_p45, List.forall_mem_cons.mpr ⟨lw_p46, List.forall_mem_cons.mpr ⟨lw_p47, fun _ h => absurd h List.not_mem_nil⟩⟩⟩⟩⟩⟩⟩⟩⟩⟩⟩⟩⟩⟩⟩⟩
theorem lw_p48 : lw_okq (⟨"ComplaintBooks", "askersOf", "(II)I"⟩, 19) := ⟨⟨by decide +kernel, by decide +kernel⟩, List.mem_of_getElem? (i := 22) (by decide +kernel), List.mem_of_getElem? (i := 838) (by decide +kernel), List.mem_of_getElem? (i := 839) (by decide +kernel)⟩
theorem lw_p49 : lw_okq (⟨"ComplaintBooks", "comesToTheTop", "(III)Z"⟩, 19) := ⟨⟨by decide +kernel, by decide +kernel⟩, List.mem_of_getElem? (i := 22) (by decide +kernel), List.mem_of_getElem? (i := 859) (by decide +kernel), List.mem_of_getElem? (i := 860) (by decide +kernel)⟩
theorem lw_p50 : lw_okq (⟨"ComplaintBooks", "askedByMostHearths", "(I)Z"⟩, 19) := ⟨⟨by decide +kernel, by decide +kernel⟩, List.mem_of_getElem? (i := 22) (by decide +kernel), List.mem_of_getElem? (i := 863) (by decide +kernel), List.mem_of_getElem? (i := 864) (by decide +kernel)⟩
theorem lw_p51 : lw_okq (⟨"ComplaintBooks", "askedByMostOrders", "(I)Z"⟩, 19) := ⟨⟨by decide +kernel, by decide +kernel⟩, List.mem_of_getElem? (i := 22) (by decide +kernel), List.mem_of_getElem? (i := 867) (by decide +kernel), List.mem_of_getElem? (i := 868) (by decide +kernel)⟩
theorem lw_p52 : lw_okq (⟨"ComplaintBooks", "standsAtTheTop", "(II)Z"⟩, 19) := ⟨⟨by decide +kernel, by decide +kernel⟩, List.mem_of_getElem? (i := 22) (by decide +kernel), List.mem_of_getElem? (i := 871) (by decide +kernel), List.mem_of_getElem? (i := 872) (by decide +kernel)⟩
theorem lw_p53 : lw_okq (⟨"ComplaintBooks", "candidatesOf", "(LComplaintBooks$Place;)I"⟩, 19) := ⟨⟨by decide +kernel, by decide +kernel⟩, List.mem_of_getElem? (i := 22) (by decide +kernel), List.mem_of_getElem? (i := 901) (by decide +kernel), List.mem_of_getElem? (i := 902) (by decide +kernel)⟩
theorem lw_p54 : lw_okq (⟨"ComplaintBooks", "isCandidate", "(LComplaintBooks$Person;LComplaintBooks$Place;)Z"⟩, 19) := ⟨⟨by decide +kernel, by decide +kernel⟩, List.mem_of_getElem? (i := 22) (by decide +kernel), List.mem_of_getElem? (i := 905) (by decide +kernel), List.mem_of_getElem? (i := 906) (by decide +kernel)⟩
theorem lw_p55 : lw_okq (⟨"ComplaintBooks", "mostVoted", "(LComplaintBooks$Place;LComplaintBooks$Shelf;I)LComplaintBooks$Person;"⟩, 19) := ⟨⟨by decide +kernel, by decide +kernel⟩, List.mem_of_getElem? (i := 22) (by decide +kernel), List.mem_of_getElem? (i := 909) (by decide +kernel), List.mem_of_getElem? (i := 910) (by decide +kernel)⟩
theorem lw_p56 : lw_okq (⟨"ComplaintBooks$Shelf", "votesFor", "(II)I"⟩, 4) := ⟨⟨by decide +kernel, by decide +kernel⟩, List.mem_of_getElem? (i := 149) (by decide +kernel), List.mem_of_getElem? (i := 913) (by decide +kernel), List.mem_of_getElem? (i := 914) (by decide +kernel)⟩
theorem lw_p57 : lw_okq (⟨"ComplaintBooks$Ask", "isBoundStill", "(I)Z"⟩, 19) := ⟨⟨by decide +kernel, by decide +kernel⟩, List.mem_of_getElem? (i := 386) (by decide +kernel), List.mem_of_getElem? (i := 934) (by decide +kernel), List.mem_of_getElem? (i := 935) (by decide +kernel)⟩
theorem lw_p58 : lw_okq (⟨"ComplaintBooks$Quarrel", "tell", "(IIZ)Z"⟩, 4) := ⟨⟨by decide +kernel, by decide +kernel⟩, List.mem_of_getElem? (i := 112) (by decide +kernel), List.mem_of_getElem? (i := 942) (by decide +kernel), List.mem_of_getElem? (i := 943) (by decide +kernel)⟩
theorem lw_p59 : lw_okq (⟨"ComplaintBooks", "standingIn", "(LComplaintBooks$Place;)I"⟩, 19) := ⟨⟨by decide +kernel, by decide +kernel⟩, List.mem_of_getElem? (i := 22) (by decide +kernel), List.mem_of_getElem? (i := 951) (by decide +kernel), List.mem_of_getElem? (i := 952) (by decide +kernel)⟩
theorem lw_p60 : lw_okq (⟨"ComplaintBooks", "bringToQuarrel", "(LComplaintBooks$Place;)V"⟩, 19) := ⟨⟨by decide +kernel, by decide +kernel⟩, List.mem_of_getElem? (i := 22) (by decide +kernel), List.mem_of_getElem? (i := 955) (by decide +kernel), List.mem_of_getElem? (i := 956) (by decide +kernel)⟩
theorem lw_p61 : lw_okq (⟨"ComplaintBooks$Quarrel", "clear", "()V"⟩, 4) := ⟨⟨by decide +kernel, by decide +kernel⟩, List.mem_of_getElem? (i := 112) (by decide +kernel), List.mem_of_getElem? (i := 959) (by decide +kernel), List.mem_of_getElem? (i := 960) (by decide +kernel)⟩
theorem lw_p62 : lw_okq (⟨"ComplaintBooks$Quarrel", "add", "(I)V"⟩, 4) := ⟨⟨by decide +kernel, by decide +kernel⟩, List.mem_of_getElem? (i := 112) (by decide +kernel), List.mem_of_getElem? (i := 963) (by decide +kernel), List.mem_of_getElem? (i := 964) (by decide +kernel)⟩
theorem lw_p63 : lw_okq (⟨"ComplaintBooks$Quarrel", "fewestToLeave", "()I"⟩, 4) := ⟨⟨by decide +kernel, by decide +kernel⟩, List.mem_of_getElem? (i := 112) (by decide +kernel), List.mem_of_getElem? (i := 967) (by decide +kernel), List.mem_of_getElem? (i := 968) (by decide +kernel)⟩
def lw_privs_4 : List (MethodName × Nat) := [(⟨"ComplaintBooks", "askersOf", "(II)I"⟩, 19), (⟨"ComplaintBooks", "comesToTheTop", "(III)Z"⟩, 19), (⟨"ComplaintBooks", "askedByMostHearths", "(I)Z"⟩, 19), (⟨"ComplaintBooks", "askedByMostOrders", "(I)Z"⟩, 19), (⟨"ComplaintBooks", "standsAtTheTop", "(II)Z"⟩, 19), (⟨"ComplaintBooks", "candidatesOf", "(LComplaintBooks$Place;)I"⟩, 19), (⟨"ComplaintBooks", "isCandidate", "(LComplaintBooks$Person;LComplaintBooks$Place;)Z"⟩, 19), (⟨"ComplaintBooks", "mostVoted", "(LComplaintBooks$Place;LComplaintBooks$Shelf;I)LComplaintBooks$Person;"⟩, 19), (⟨"ComplaintBooks$Shelf", "votesFor", "(II)I"⟩, 4), (⟨"ComplaintBooks$Ask", "isBoundStill", "(I)Z"⟩, 19), (⟨"ComplaintBooks$Quarrel", "tell", "(IIZ)Z"⟩, 4), (⟨"ComplaintBooks", "standingIn", "(LComplaintBooks$Place;)I"⟩, 19), (⟨"ComplaintBooks", "bringToQuarrel", "(LComplaintBooks$Place;)V"⟩, 19), (⟨"ComplaintBooks$Quarrel", "clear", "()V"⟩, 4), (⟨"ComplaintBooks$Quarrel", "add", "(I)V"⟩, 4), (⟨"ComplaintBooks$Quarrel", "fewestToLeave", "()I"⟩, 4)]
theorem lw_r4 : ∀ q ∈ lw_privs_4, lw_okq q := List.forall_mem_cons.mpr ⟨lw_p48, List.forall_mem_cons.mpr ⟨lw_p49, List.forall_mem_cons.mpr ⟨lw_p50, List.forall_mem_cons.mpr ⟨lw_p51, List.forall_mem_cons.mpr ⟨lw_p52, List.forall_mem_cons.mpr ⟨lw_p53, List.forall_mem_cons.mpr ⟨lw_p54, List.forall_mem_cons.mpr ⟨lw_p55, List.forall_mem_cons.mpr ⟨lw_p56, List.forall_mem_cons.mpr ⟨lw_p57, List.forall_mem_cons.mpr ⟨lw_p58, List.forall_mem_cons.mpr ⟨lw_p59, List.forall_mem_cons.mpr ⟨lw_p60, List.forall_mem_cons.mpr ⟨lw_p61, List.forall_mem_cons.mpr ⟨lw_p62, List.forall_mem_cons.mpr ⟨lw_p63, fun _ h => absurd h List.not_mem_nil⟩⟩⟩⟩⟩⟩⟩⟩⟩⟩⟩⟩⟩⟩⟩⟩
theorem lw_p64 : lw_okq (⟨"ComplaintBooks$Quarrel", "all", "()I"⟩, 4) := ⟨⟨by decide +kernel, by decide +kernel⟩, List.mem_of_getElem? (i := 112) (by decide +kernel), List.mem_of_getElem? (i := 971) (by decide +kernel), List.mem_of_getElem? (i := 972) (by decide +kernel)⟩
theorem lw_p65 : lw_okq (⟨"ComplaintBooks$Quarrel", "isPeaceful", "(I)Z"⟩, 4) := ⟨⟨by decide +kernel, by decide +kernel⟩, List.mem_of_getElem? (i := 112) (by decide +kernel), List.mem_of_getElem? (i := 976) (by decide +kernel), List.mem_of_getElem? (i := 977) (by decide +kernel)⟩
theorem lw_p66 : lw_okq (⟨"ComplaintBooks$Shelf", "allIntsBelow", "(I)Z"⟩, 4) := ⟨⟨by decide +kernel, by decide +kernel⟩, List.mem_of_getElem? (i := 149) (by decide +kernel), List.mem_of_getElem? (i := 984) (by decide +kernel), List.mem_of_getElem? (i := 985) (by decide +kernel)⟩
theorem lw_p67 : lw_okq (⟨"ComplaintBooks$Shelf", "bitsOfInts", "()I"⟩, 4) := ⟨⟨by decide +kernel, by decide +kernel⟩, List.mem_of_getElem? (i := 149) (by decide +kernel), List.mem_of_getElem? (i := 990) (by decide +kernel), List.mem_of_getElem? (i := 991) (by decide +kernel)⟩
theorem lw_p68 : lw_okq (⟨"ComplaintBooks$BestBook", "takeGroup", "(ILComplaintBooks$Groups;)V"⟩, 4) := ⟨⟨by decide +kernel, by decide +kernel⟩, List.mem_of_getElem? (i := 131) (by decide +kernel), List.mem_of_getElem? (i := 999) (by decide +kernel), List.mem_of_getElem? (i := 1000) (by decide +kernel)⟩
theorem lw_p69 : lw_okq (⟨"ComplaintBooks$Groups", "saidBy", "(II)I"⟩, 5) := ⟨⟨by decide +kernel, by decide +kernel⟩, List.mem_of_getElem? (i := 87) (by decide +kernel), List.mem_of_getElem? (i := 1005) (by decide +kernel), List.mem_of_getElem? (i := 1006) (by decide +kernel)⟩
theorem lw_p70 : lw_okq (⟨"ComplaintBooks$BestBook", "find", "(IILComplaintBooks$Quarrel;)I"⟩, 4) := ⟨⟨by decide +kernel, by decide +kernel⟩, List.mem_of_getElem? (i := 131) (by decide +kernel), List.mem_of_getElem? (i := 1011) (by decide +kernel), List.mem_of_getElem? (i := 1012) (by decide +kernel)⟩
theorem lw_p71 : lw_okq (⟨"ComplaintBooks$BestBook", "saidTogether", "(I)I"⟩, 4) := ⟨⟨by decide +kernel, by decide +kernel⟩, List.mem_of_getElem? (i := 131) (by decide +kernel), List.mem_of_getElem? (i := 1017) (by decide +kernel), List.mem_of_getElem? (i := 1018) (by decide +kernel)⟩
theorem lw_p72 : lw_okq (⟨"ComplaintBooks$BestBook", "joinOf", "(I)I"⟩, 4) := ⟨⟨by decide +kernel, by decide +kernel⟩, List.mem_of_getElem? (i := 131) (by decide +kernel), List.mem_of_getElem? (i := 1026) (by decide +kernel), List.mem_of_getElem? (i := 1027) (by decide +kernel)⟩
theorem lw_p73 : lw_okq (⟨"ComplaintBooks", "booksMade", "()I"⟩, 19) := ⟨⟨by decide +kernel, by decide +kernel⟩, List.mem_of_getElem? (i := 22) (by decide +kernel), List.mem_of_getElem? (i := 1035) (by decide +kernel), List.mem_of_getElem? (i := 1036) (by decide +kernel)⟩
theorem lw_p74 : lw_okq (⟨"ComplaintBooks", "asksWith", "(I)I"⟩, 19) := ⟨⟨by decide +kernel, by decide +kernel⟩, List.mem_of_getElem? (i := 22) (by decide +kernel), List.mem_of_getElem? (i := 1039) (by decide +kernel), List.mem_of_getElem? (i := 1040) (by decide +kernel)⟩
theorem lw_p75 : lw_okq (⟨"ComplaintBooksModel", "isPlace", "(I)Z"⟩, 79) := ⟨⟨by decide +kernel, by decide +kernel⟩, List.mem_of_getElem? (i := 1043) (by decide +kernel), List.mem_of_getElem? (i := 1292) (by decide +kernel), List.mem_of_getElem? (i := 1293) (by decide +kernel)⟩
theorem lw_p76 : lw_okq (⟨"ComplaintBooksModel", "no", "(I)I"⟩, 79) := ⟨⟨by decide +kernel, by decide +kernel⟩, List.mem_of_getElem? (i := 1043) (by decide +kernel), List.mem_of_getElem? (i := 1296) (by decide +kernel), List.mem_of_getElem? (i := 1297) (by decide +kernel)⟩
theorem lw_p77 : lw_okq (⟨"ComplaintBooksModel", "puts", "(IIIII)I"⟩, 79) := ⟨⟨by decide +kernel, by decide +kernel⟩, List.mem_of_getElem? (i := 1043) (by decide +kernel), List.mem_of_getElem? (i := 1300) (by decide +kernel), List.mem_of_getElem? (i := 1301) (by decide +kernel)⟩
theorem lw_p78 : lw_okq (⟨"ComplaintBooksModel", "pathOf", "(II)I"⟩, 79) := ⟨⟨by decide +kernel, by decide +kernel⟩, List.mem_of_getElem? (i := 1043) (by decide +kernel), List.mem_of_getElem? (i := 1312) (by decide +kernel), List.mem_of_getElem? (i := 1313) (by decide +kernel)⟩
theorem lw_p79 : lw_okq (⟨"ComplaintBooksModel", "hearthsOf", "(I)I"⟩, 79) := ⟨⟨by decide +kernel, by decide +kernel⟩, List.mem_of_getElem? (i := 1043) (by decide +kernel), List.mem_of_getElem? (i := 1324) (by decide +kernel), List.mem_of_getElem? (i := 1325) (by decide +kernel)⟩
def lw_privs_5 : List (MethodName × Nat) := [(⟨"ComplaintBooks$Quarrel", "all", "()I"⟩, 4), (⟨"ComplaintBooks$Quarrel", "isPeaceful", "(I)Z"⟩, 4), (⟨"ComplaintBooks$Shelf", "allIntsBelow", "(I)Z"⟩, 4), (⟨"ComplaintBooks$Shelf", "bitsOfInts", "()I"⟩, 4), (⟨"ComplaintBooks$BestBook", "takeGroup", "(ILComplaintBooks$Groups;)V"⟩, 4), (⟨"ComplaintBooks$Groups", "saidBy", "(II)I"⟩, 5), (⟨"ComplaintBooks$BestBook", "find", "(IILComplaintBooks$Quarrel;)I"⟩, 4), (⟨"ComplaintBooks$BestBook", "saidTogether", "(I)I"⟩, 4), (⟨"ComplaintBooks$BestBook", "joinOf", "(I)I"⟩, 4), (⟨"ComplaintBooks", "booksMade", "()I"⟩, 19), (⟨"ComplaintBooks", "asksWith", "(I)I"⟩, 19), (⟨"ComplaintBooksModel", "isPlace", "(I)Z"⟩, 79), (⟨"ComplaintBooksModel", "no", "(I)I"⟩, 79), (⟨"ComplaintBooksModel", "puts", "(IIIII)I"⟩, 79), (⟨"ComplaintBooksModel", "pathOf", "(II)I"⟩, 79), (⟨"ComplaintBooksModel", "hearthsOf", "(I)I"⟩, 79)]
theorem lw_r5 : ∀ q ∈ lw_privs_5, lw_okq q := List.forall_mem_cons.mpr ⟨lw_p64, List.forall_mem_cons.mpr ⟨lw_p65, List.forall_mem_cons.mpr ⟨lw_p66, List.forall_mem_cons.mpr ⟨lw_p67, List.forall_mem_cons.mpr ⟨lw_p68, List.forall_mem_cons.mpr ⟨lw_p69, List.forall_mem_cons.mpr ⟨lw_p70, List.forall_mem_cons.mpr ⟨lw_p71, List.forall_mem_cons.mpr ⟨lw_p72, List.forall_mem_cons.mpr ⟨lw_p73, List.forall_mem_cons.mpr ⟨lw_p74, List.forall_mem_cons.mpr ⟨lw_p75, List.forall_mem_cons.mpr ⟨lw_p76, List.forall_mem_cons.mpr ⟨lw_p77, List.forall_mem_cons.mpr ⟨lw_p78, List.forall_mem_cons.mpr ⟨lw_p79, fun _ h => absurd h List.not_mem_nil⟩⟩⟩⟩⟩⟩⟩⟩⟩⟩⟩⟩⟩⟩⟩⟩
theorem lw_p80 : lw_okq (⟨"ComplaintBooksModel", "isBelow", "(II)Z"⟩, 79) := ⟨⟨by decide +kernel, by decide +kernel⟩, List.mem_of_getElem? (i := 1043) (by decide +kernel), List.mem_of_getElem? (i := 1328) (by decide +kernel), List.mem_of_getElem? (i := 1329) (by decide +kernel)⟩
theorem lw_p81 : lw_okq (⟨"ComplaintBooksModel", "bookSize", "(I)I"⟩, 79) := ⟨⟨by decide +kernel, by decide +kernel⟩, List.mem_of_getElem? (i := 1043) (by decide +kernel), List.mem_of_getElem? (i := 1332) (by decide +kernel), List.mem_of_getElem? (i := 1333) (by decide +kernel)⟩
theorem lw_p82 : lw_okq (⟨"ComplaintBooksModel", "isAsk", "(I)Z"⟩, 79) := ⟨⟨by decide +kernel, by decide +kernel⟩, List.mem_of_getElem? (i := 1043) (by decide +kernel), List.mem_of_getElem? (i := 1359) (by decide +kernel), List.mem_of_getElem? (i := 1360) (by decide +kernel)⟩
theorem lw_p83 : lw_okq (⟨"ComplaintBooksModel", "likenessOf", "(II)I"⟩, 79) := ⟨⟨by decide +kernel, by decide +kernel⟩, List.mem_of_getElem? (i := 1043) (by decide +kernel), List.mem_of_getElem? (i := 1371) (by decide +kernel), List.mem_of_getElem? (i := 1372) (by decide +kernel)⟩
theorem lw_p84 : lw_okq (⟨"ComplaintBooksModel", "partsOf", "(I)I"⟩, 79) := ⟨⟨by decide +kernel, by decide +kernel⟩, List.mem_of_getElem? (i := 1043) (by decide +kernel), List.mem_of_getElem? (i := 1375) (by decide +kernel), List.mem_of_getElem? (i := 1376) (by decide +kernel)⟩
theorem lw_p85 : lw_okq (⟨"ComplaintBooksModel", "wants", "(I)I"⟩, 79) := ⟨⟨by decide +kernel, by decide +kernel⟩, List.mem_of_getElem? (i := 1043) (by decide +kernel), List.mem_of_getElem? (i := 1383) (by decide +kernel), List.mem_of_getElem? (i := 1384) (by decide +kernel)⟩
theorem lw_p86 : lw_okq (⟨"ComplaintBooksModel", "reached", "(II)I"⟩, 79) := ⟨⟨by decide +kernel, by decide +kernel⟩, List.mem_of_getElem? (i := 1043) (by decide +kernel), List.mem_of_getElem? (i := 1391) (by decide +kernel), List.mem_of_getElem? (i := 1392) (by decide +kernel)⟩
theorem lw_p87 : lw_okq (⟨"ComplaintBooksModel", "puts", "(IIIIIZ)I"⟩, 79) := ⟨⟨by decide +kernel, by decide +kernel⟩, List.mem_of_getElem? (i := 1043) (by decide +kernel), List.mem_of_getElem? (i := 1402) (by decide +kernel), List.mem_of_getElem? (i := 1403) (by decide +kernel)⟩
theorem lw_p88 : lw_okq (⟨"ComplaintBooksModel", "hearthsBehind", "(I)I"⟩, 79) := ⟨⟨by decide +kernel, by decide +kernel⟩, List.mem_of_getElem? (i := 1043) (by decide +kernel), List.mem_of_getElem? (i := 1418) (by decide +kernel), List.mem_of_getElem? (i := 1419) (by decide +kernel)⟩
theorem lw_p89 : lw_okq (⟨"ComplaintBooksModel", "endOf", "(I)I"⟩, 79) := ⟨⟨by decide +kernel, by decide +kernel⟩, List.mem_of_getElem? (i := 1043) (by decide +kernel), List.mem_of_getElem? (i := 1442) (by decide +kernel), List.mem_of_getElem? (i := 1443) (by decide +kernel)⟩
theorem lw_p90 : lw_okq (⟨"ComplaintBooksModel", "compiles", "(II)I"⟩, 79) := ⟨⟨by decide +kernel, by decide +kernel⟩, List.mem_of_getElem? (i := 1043) (by decide +kernel), List.mem_of_getElem? (i := 1458) (by decide +kernel), List.mem_of_getElem? (i := 1459) (by decide +kernel)⟩
theorem lw_p91 : lw_okq (⟨"ComplaintBooksModel", "is", "(I)Z"⟩, 79) := ⟨⟨by decide +kernel, by decide +kernel⟩, List.mem_of_getElem? (i := 1043) (by decide +kernel), List.mem_of_getElem? (i := 1462) (by decide +kernel), List.mem_of_getElem? (i := 1463) (by decide +kernel)⟩
theorem lw_p92 : lw_okq (⟨"ComplaintBooksModel", "letter", "()I"⟩, 79) := ⟨⟨by decide +kernel, by decide +kernel⟩, List.mem_of_getElem? (i := 1043) (by decide +kernel), List.mem_of_getElem? (i := 1466) (by decide +kernel), List.mem_of_getElem? (i := 1467) (by decide +kernel)⟩
theorem lw_p93 : lw_okq (⟨"ComplaintBooksModel", "reads", "(I)Z"⟩, 79) := ⟨⟨by decide +kernel, by decide +kernel⟩, List.mem_of_getElem? (i := 1043) (by decide +kernel), List.mem_of_getElem? (i := 1470) (by decide +kernel), List.mem_of_getElem? (i := 1471) (by decide +kernel)⟩
theorem lw_p94 : lw_okq (⟨"ComplaintBooksModel", "isSide", "()Z"⟩, 79) := ⟨⟨by decide +kernel, by decide +kernel⟩, List.mem_of_getElem? (i := 1043) (by decide +kernel), List.mem_of_getElem? (i := 1474) (by decide +kernel), List.mem_of_getElem? (i := 1475) (by decide +kernel)⟩
theorem lw_p95 : lw_okq (⟨"ComplaintBooksModel", "isField", "()Z"⟩, 79) := ⟨⟨by decide +kernel, by decide +kernel⟩, List.mem_of_getElem? (i := 1043) (by decide +kernel), List.mem_of_getElem? (i := 1478) (by decide +kernel), List.mem_of_getElem? (i := 1479) (by decide +kernel)⟩
def lw_privs_6 : List (MethodName × Nat) := [(⟨"ComplaintBooksModel", "isBelow", "(II)Z"⟩, 79), (⟨"ComplaintBooksModel", "bookSize", "(I)I"⟩, 79), (⟨"ComplaintBooksModel", "isAsk", "(I)Z"⟩, 79), (⟨"ComplaintBooksModel", "likenessOf", "(II)I"⟩, 79), (⟨"ComplaintBooksModel", "partsOf", "(I)I"⟩, 79), (⟨"ComplaintBooksModel", "wants", "(I)I"⟩, 79), (⟨"ComplaintBooksModel", "reached", "(II)I"⟩, 79), (⟨"ComplaintBooksModel", "puts", "(IIIIIZ)I"⟩, 79), (⟨"ComplaintBooksModel", "hearthsBehind", "(I)I"⟩, 79), (⟨"ComplaintBooksModel", "endOf", "(I)I"⟩, 79), (⟨"ComplaintBooksModel", "compiles", "(II)I"⟩, 79), (⟨"ComplaintBooksModel", "is", "(I)Z"⟩, 79), (⟨"ComplaintBooksModel", "letter", "()I"⟩, 79), (⟨"ComplaintBooksModel", "reads", "(I)Z"⟩, 79), (⟨"ComplaintBooksModel", "isSide", "()Z"⟩, 79), (⟨"ComplaintBooksModel", "isField", "()Z"⟩, 79)]
theorem lw_r6 : ∀ q ∈ lw_privs_6, lw_okq q := List.forall_mem_cons.mpr ⟨lw_p80, List.forall_mem_cons.mpr ⟨lw_p81, List.forall_mem_cons.mpr ⟨lw_p82, List.forall_mem_cons.mpr ⟨lw_p83, List.forall_mem_cons.mpr ⟨lw_p84, List.forall_mem_cons.mpr ⟨lw_p85, List.forall_mem_cons.mpr ⟨lw_p86, List.forall_mem_cons.mpr ⟨lw_p87, List.forall_mem_cons.mpr ⟨lw_p88, List.forall_mem_cons.mpr ⟨lw_p89, List.forall_mem_cons.mpr ⟨lw_p90, List.forall_mem_cons.mpr ⟨lw_p91, List.forall_mem_cons.mpr ⟨lw_p92, List.forall_mem_cons.mpr ⟨lw_p93, List.forall_mem_cons.mpr ⟨lw_p94, List.forall_mem_cons.mpr ⟨lw_p95, fun _ h => absurd h List.not_mem_nil⟩⟩⟩⟩⟩⟩⟩⟩⟩⟩⟩⟩⟩⟩⟩⟩
theorem lw_p96 : lw_okq (⟨"ComplaintBooksModel", "isDigit", "()Z"⟩, 79) := ⟨⟨by decide +kernel, by decide +kernel⟩, List.mem_of_getElem? (i := 1043) (by decide +kernel), List.mem_of_getElem? (i := 1482) (by decide +kernel), List.mem_of_getElem? (i := 1483) (by decide +kernel)⟩
theorem lw_p97 : lw_okq (⟨"ComplaintBooksModel", "emits", "(II)V"⟩, 79) := ⟨⟨by decide +kernel, by decide +kernel⟩, List.mem_of_getElem? (i := 1043) (by decide +kernel), List.mem_of_getElem? (i := 1486) (by decide +kernel), List.mem_of_getElem? (i := 1487) (by decide +kernel)⟩
theorem lw_p98 : lw_okq (⟨"ComplaintBooksModel", "closes", "(I)V"⟩, 79) := ⟨⟨by decide +kernel, by decide +kernel⟩, List.mem_of_getElem? (i := 1043) (by decide +kernel), List.mem_of_getElem? (i := 1490) (by decide +kernel), List.mem_of_getElem? (i := 1491) (by decide +kernel)⟩
theorem lw_p99 : lw_okq (⟨"ComplaintBooksModel", "pops", "(IZ)V"⟩, 79) := ⟨⟨by decide +kernel, by decide +kernel⟩, List.mem_of_getElem? (i := 1043) (by decide +kernel), List.mem_of_getElem? (i := 1494) (by decide +kernel), List.mem_of_getElem? (i := 1495) (by decide +kernel)⟩
theorem lw_p100 : lw_okq (⟨"ComplaintBooksModel", "gathers", "(II)I"⟩, 79) := ⟨⟨by decide +kernel, by decide +kernel⟩, List.mem_of_getElem? (i := 1043) (by decide +kernel), List.mem_of_getElem? (i := 1519) (by decide +kernel), List.mem_of_getElem? (i := 1520) (by decide +kernel)⟩
theorem lw_p101 : lw_okq (⟨"ComplaintBooksModel", "stands", "(I)Z"⟩, 79) := ⟨⟨by decide +kernel, by decide +kernel⟩, List.mem_of_getElem? (i := 1043) (by decide +kernel), List.mem_of_getElem? (i := 1523) (by decide +kernel), List.mem_of_getElem? (i := 1524) (by decide +kernel)⟩
theorem lw_p102 : lw_okq (⟨"ComplaintBooksModel", "keeps", "(III)Z"⟩, 79) := ⟨⟨by decide +kernel, by decide +kernel⟩, List.mem_of_getElem? (i := 1043) (by decide +kernel), List.mem_of_getElem? (i := 1527) (by decide +kernel), List.mem_of_getElem? (i := 1528) (by decide +kernel)⟩
theorem lw_p103 : lw_okq (⟨"ComplaintBooksModel", "valueOf", "(IIII)J"⟩, 79) := ⟨⟨by decide +kernel, by decide +kernel⟩, List.mem_of_getElem? (i := 1043) (by decide +kernel), List.mem_of_getElem? (i := 1531) (by decide +kernel), List.mem_of_getElem? (i := 1532) (by decide +kernel)⟩
theorem lw_p104 : lw_okq (⟨"ComplaintBooksModel", "placesUnder", "(I)I"⟩, 79) := ⟨⟨by decide +kernel, by decide +kernel⟩, List.mem_of_getElem? (i := 1043) (by decide +kernel), List.mem_of_getElem? (i := 1535) (by decide +kernel), List.mem_of_getElem? (i := 1536) (by decide +kernel)⟩
theorem lw_p105 : lw_okq (⟨"ComplaintBooksModel", "joined", "(I)I"⟩, 79) := ⟨⟨by decide +kernel, by decide +kernel⟩, List.mem_of_getElem? (i := 1043) (by decide +kernel), List.mem_of_getElem? (i := 1539) (by decide +kernel), List.mem_of_getElem? (i := 1540) (by decide +kernel)⟩
theorem lw_p106 : lw_okq (⟨"ComplaintBooksModel", "asksNow", "(II)Z"⟩, 79) := ⟨⟨by decide +kernel, by decide +kernel⟩, List.mem_of_getElem? (i := 1043) (by decide +kernel), List.mem_of_getElem? (i := 1547) (by decide +kernel), List.mem_of_getElem? (i := 1548) (by decide +kernel)⟩
theorem lw_p107 : lw_okq (⟨"ComplaintBooksModel", "isCandidate", "(II)Z"⟩, 79) := ⟨⟨by decide +kernel, by decide +kernel⟩, List.mem_of_getElem? (i := 1043) (by decide +kernel), List.mem_of_getElem? (i := 1563) (by decide +kernel), List.mem_of_getElem? (i := 1564) (by decide +kernel)⟩
theorem lw_p108 : lw_okq (⟨"ComplaintBooksModel", "standing", "(I)I"⟩, 79) := ⟨⟨by decide +kernel, by decide +kernel⟩, List.mem_of_getElem? (i := 1043) (by decide +kernel), List.mem_of_getElem? (i := 1591) (by decide +kernel), List.mem_of_getElem? (i := 1592) (by decide +kernel)⟩
theorem lw_p109 : lw_okq (⟨"ComplaintBooksModel", "isFree", "(II)Z"⟩, 79) := ⟨⟨by decide +kernel, by decide +kernel⟩, List.mem_of_getElem? (i := 1043) (by decide +kernel), List.mem_of_getElem? (i := 1595) (by decide +kernel), List.mem_of_getElem? (i := 1596) (by decide +kernel)⟩
theorem lw_p110 : lw_okq (⟨"ComplaintBooksModel", "saidAt", "(I)I"⟩, 79) := ⟨⟨by decide +kernel, by decide +kernel⟩, List.mem_of_getElem? (i := 1043) (by decide +kernel), List.mem_of_getElem? (i := 1610) (by decide +kernel), List.mem_of_getElem? (i := 1611) (by decide +kernel)⟩
theorem lw_p111 : lw_okq (⟨"ComplaintBooksModel", "comes", "(II)Z"⟩, 79) := ⟨⟨by decide +kernel, by decide +kernel⟩, List.mem_of_getElem? (i := 1043) (by decide +kernel), List.mem_of_getElem? (i := 1626) (by decide +kernel), List.mem_of_getElem? (i := 1627) (by decide +kernel)⟩
def lw_privs_7 : List (MethodName × Nat) := [(⟨"ComplaintBooksModel", "isDigit", "()Z"⟩, 79), (⟨"ComplaintBooksModel", "emits", "(II)V"⟩, 79), (⟨"ComplaintBooksModel", "closes", "(I)V"⟩, 79), (⟨"ComplaintBooksModel", "pops", "(IZ)V"⟩, 79), (⟨"ComplaintBooksModel", "gathers", "(II)I"⟩, 79), (⟨"ComplaintBooksModel", "stands", "(I)Z"⟩, 79), (⟨"ComplaintBooksModel", "keeps", "(III)Z"⟩, 79), (⟨"ComplaintBooksModel", "valueOf", "(IIII)J"⟩, 79), (⟨"ComplaintBooksModel", "placesUnder", "(I)I"⟩, 79), (⟨"ComplaintBooksModel", "joined", "(I)I"⟩, 79), (⟨"ComplaintBooksModel", "asksNow", "(II)Z"⟩, 79), (⟨"ComplaintBooksModel", "isCandidate", "(II)Z"⟩, 79), (⟨"ComplaintBooksModel", "standing", "(I)I"⟩, 79), (⟨"ComplaintBooksModel", "isFree", "(II)Z"⟩, 79), (⟨"ComplaintBooksModel", "saidAt", "(I)I"⟩, 79), (⟨"ComplaintBooksModel", "comes", "(II)Z"⟩, 79)]
theorem lw_r7 : ∀ q ∈ lw_privs_7, lw_okq q := List.forall_mem_cons.mpr ⟨lw_p96, List.forall_mem_cons.mpr ⟨lw_p97, List.forall_mem_cons.mpr ⟨lw_p98, List.forall_mem_cons.mpr ⟨lw_p99, List.forall_mem_cons.mpr ⟨lw_p100, List.forall_mem_cons.mpr ⟨lw_p101, List.forall_mem_cons.mpr ⟨lw_p102, List.forall_mem_cons.mpr ⟨lw_p103, List.forall_mem_cons.mpr ⟨lw_p104, List.forall_mem_cons.mpr ⟨lw_p105, List.forall_mem_cons.mpr ⟨lw_p106, List.forall_mem_cons.mpr ⟨lw_p107, List.forall_mem_cons.mpr ⟨lw_p108, List.forall_mem_cons.mpr ⟨lw_p109, List.forall_mem_cons.mpr ⟨lw_p110, List.forall_mem_cons.mpr ⟨lw_p111, fun _ h => absurd h List.not_mem_nil⟩⟩⟩⟩⟩⟩⟩⟩⟩⟩⟩⟩⟩⟩⟩⟩
def lw_privs : List (MethodName × Nat) := lw_privs_1 ++ (lw_privs_2 ++ (lw_privs_3 ++ (lw_privs_4 ++ (lw_privs_5 ++ (lw_privs_6 ++ (lw_privs_7))))))
def lw_tbl : List Cond := k2_sels lw_privs ++ tables_1
theorem lw_privs_ok : ∀ q ∈ lw_privs, lw_okq q := by
  show ∀ q ∈ lw_privs_1 ++ (lw_privs_2 ++ (lw_privs_3 ++ (lw_privs_4 ++ (lw_privs_5 ++ (lw_privs_6 ++ (lw_privs_7)))))), lw_okq q
  exact List.forall_mem_append.mpr ⟨lw_r1, List.forall_mem_append.mpr ⟨lw_r2, List.forall_mem_append.mpr ⟨lw_r3, List.forall_mem_append.mpr ⟨lw_r4, List.forall_mem_append.mpr ⟨lw_r5, List.forall_mem_append.mpr ⟨lw_r6, lw_r7⟩⟩⟩⟩⟩⟩
def RX0 : String := "ComplaintBooks$Ask"
def TX0 : u_T := fun k => match k with
  | 0 => ("ComplaintBooks$Ask", "number", "I", true)
  | 1 => ("ComplaintBooks$Ask", "place", "LComplaintBooks$Place;", true)
  | 2 => ("ComplaintBooks$Ask", "what", "I", true)
  | 3 => ("ComplaintBooks$Ask", "whom", "I", true)
  | 4 => ("ComplaintBooks$Ask", "much", "I", true)
  | 5 => ("ComplaintBooks$Ask", "day", "I", true)
  | 6 => ("ComplaintBooks$Ask", "kind", "I", false)
  | 7 => ("ComplaintBooks$Ask", "hearths", "I", false)
  | 8 => ("ComplaintBooks$Ask", "words", "[J", false)
  | 9 => ("ComplaintBooks$Ask", "parts", "[LComplaintBooks$Ask;", false)
  | 10 => ("ComplaintBooks$Ask", "model", "LComplaintBooks$Model;", false)
  | 11 => ("ComplaintBooks$Ask", "likeness", "I", false)
  | 12 => ("ComplaintBooks$Ask", "late", "Z", false)
  | 13 => ("ComplaintBooks$Ask", "gap", "Z", false)
  | 14 => ("ComplaintBooks$Ask", "withdrawn", "I", false)
  | 15 => ("ComplaintBooks$Ask", "into", "LComplaintBooks$Ask;", false)
  | 16 => ("ComplaintBooks$Ask", "dropped", "LComplaintBooks$Place;", false)
  | 17 => ("ComplaintBooks$Ask", "yielded", "Z", false)
  | _ => ("ComplaintBooks$Ask", "freeFrom", "I", false)
def tyX0 : Nat → FieldType := fun k => match k with
  | 0 => .int
  | 1 => .object "ComplaintBooks$Place"
  | 2 => .int
  | 3 => .int
  | 4 => .int
  | 5 => .int
  | 6 => .int
  | 7 => .int
  | 8 => .array .long
  | 9 => .array (.object "ComplaintBooks$Ask")
  | 10 => .object "ComplaintBooks$Model"
  | 11 => .int
  | 12 => .boolean
  | 13 => .boolean
  | 14 => .int
  | 15 => .object "ComplaintBooks$Ask"
  | 16 => .object "ComplaintBooks$Place"
  | 17 => .boolean
  | _ => .int
theorem nmX0 : ∀ a, a < 19 → ∀ b, b < 19 → a ≠ b → (TX0 a).2.1 ≠ (TX0 b).2.1 := by decide +kernel
theorem tyX0_ok : ∀ k, k < 19 → parseFieldDescriptor (TX0 k).2.2.1 = some (tyX0 k) := by decide +kernel
abbrev cX0_init : ByteArray := prog_2_method_1_code
def yX0_init : MethodName := ⟨RX0, "<init>", "(IILComplaintBooks$Place;IIII)V"⟩
abbrev cX0_isOf : ByteArray := prog_2_method_2_code
def yX0_isOf : MethodName := ⟨RX0, "isOf", "(I)Z"⟩
abbrev cX0_isFor : ByteArray := prog_2_method_3_code
def yX0_isFor : MethodName := ⟨RX0, "isFor", "(II)Z"⟩
abbrev cX0_stands : ByteArray := prog_2_method_4_code
def yX0_stands : MethodName := ⟨RX0, "stands", "()Z"⟩
abbrev cX0_isBoundStill : ByteArray := prog_2_method_5_code
def yX0_isBoundStill : MethodName := ⟨RX0, "isBoundStill", "(I)Z"⟩
abbrev cX0_partCount : ByteArray := prog_2_method_6_code
def yX0_partCount : MethodName := ⟨RX0, "partCount", "()I"⟩
abbrev cX0_saysAt : ByteArray := prog_2_method_7_code
def yX0_saysAt : MethodName := ⟨RX0, "saysAt", "(I)I"⟩
abbrev cX0_comesAfter : ByteArray := prog_2_method_8_code
def yX0_comesAfter : MethodName := ⟨RX0, "comesAfter", "(LComplaintBooks$Ask;)Z"⟩
def RX1 : String := "ComplaintBooks$BestBook"
def TX1 : u_T := fun k => match k with
  | 0 => ("ComplaintBooks$BestBook", "saids", "[I", true)
  | 1 => ("ComplaintBooks$BestBook", "joins", "[I", true)
  | 2 => ("ComplaintBooks$BestBook", "size", "I", false)
  | _ => ("ComplaintBooks$BestBook", "members", "I", false)
def tyX1 : Nat → FieldType := fun k => match k with
  | 0 => .array .int
  | 1 => .array .int
  | 2 => .int
  | _ => .int
theorem nmX1 : ∀ a, a < 4 → ∀ b, b < 4 → a ≠ b → (TX1 a).2.1 ≠ (TX1 b).2.1 := by decide +kernel
theorem tyX1_ok : ∀ k, k < 4 → parseFieldDescriptor (TX1 k).2.2.1 = some (tyX1 k) := by decide +kernel
abbrev cX1_init : ByteArray := prog_3_method_1_code
def yX1_init : MethodName := ⟨RX1, "<init>", "()V"⟩
abbrev cX1_takeGroup : ByteArray := prog_3_method_2_code
def yX1_takeGroup : MethodName := ⟨RX1, "takeGroup", "(ILComplaintBooks$Groups;)V"⟩
abbrev cX1_find : ByteArray := prog_3_method_3_code
def yX1_find : MethodName := ⟨RX1, "find", "(IILComplaintBooks$Quarrel;)I"⟩
abbrev cX1_saidTogether : ByteArray := prog_3_method_4_code
def yX1_saidTogether : MethodName := ⟨RX1, "saidTogether", "(I)I"⟩
abbrev cX1_joinOf : ByteArray := prog_3_method_5_code
def yX1_joinOf : MethodName := ⟨RX1, "joinOf", "(I)I"⟩
def RX2 : String := "ComplaintBooks$Groups"
def TX2 : u_T := fun k => match k with
  | 0 => ("ComplaintBooks$Groups", "parts", "[LComplaintBooks$Ask;", true)
  | 1 => ("ComplaintBooks$Groups", "starts", "[I", true)
  | 2 => ("ComplaintBooks$Groups", "joins", "[I", true)
  | 3 => ("ComplaintBooks$Groups", "size", "I", false)
  | _ => ("ComplaintBooks$Groups", "number", "I", false)
def tyX2 : Nat → FieldType := fun k => match k with
  | 0 => .array (.object "ComplaintBooks$Ask")
  | 1 => .array .int
  | 2 => .array .int
  | 3 => .int
  | _ => .int
theorem nmX2 : ∀ a, a < 5 → ∀ b, b < 5 → a ≠ b → (TX2 a).2.1 ≠ (TX2 b).2.1 := by decide +kernel
theorem tyX2_ok : ∀ k, k < 5 → parseFieldDescriptor (TX2 k).2.2.1 = some (tyX2 k) := by decide +kernel
abbrev cX2_init : ByteArray := prog_4_method_1_code
def yX2_init : MethodName := ⟨RX2, "<init>", "()V"⟩
abbrev cX2_clear : ByteArray := prog_4_method_2_code
def yX2_clear : MethodName := ⟨RX2, "clear", "()V"⟩
abbrev cX2_add : ByteArray := prog_4_method_3_code
def yX2_add : MethodName := ⟨RX2, "add", "(LComplaintBooks$Ask;)V"⟩
abbrev cX2_findStarts : ByteArray := prog_4_method_4_code
def yX2_findStarts : MethodName := ⟨RX2, "findStarts", "()V"⟩
abbrev cX2_firstOf : ByteArray := prog_4_method_5_code
def yX2_firstOf : MethodName := ⟨RX2, "firstOf", "(I)LComplaintBooks$Ask;"⟩
abbrev cX2_sizeOf : ByteArray := prog_4_method_6_code
def yX2_sizeOf : MethodName := ⟨RX2, "sizeOf", "(I)I"⟩
abbrev cX2_hearthsOf : ByteArray := prog_4_method_7_code
def yX2_hearthsOf : MethodName := ⟨RX2, "hearthsOf", "(I)I"⟩
abbrev cX2_joined : ByteArray := prog_4_method_8_code
def yX2_joined : MethodName := ⟨RX2, "joined", "(II)I"⟩
abbrev cX2_muchAt : ByteArray := prog_4_method_9_code
def yX2_muchAt : MethodName := ⟨RX2, "muchAt", "(II)I"⟩
abbrev cX2_saidBy : ByteArray := prog_4_method_10_code
def yX2_saidBy : MethodName := ⟨RX2, "saidBy", "(II)I"⟩
abbrev cX2_dropAt : ByteArray := prog_4_method_11_code
def yX2_dropAt : MethodName := ⟨RX2, "dropAt", "(ILComplaintBooks$Place;)V"⟩
abbrev cX2_partsInto : ByteArray := prog_4_method_12_code
def yX2_partsInto : MethodName := ⟨RX2, "partsInto", "(ILComplaintBooks$Ask;)[LComplaintBooks$Ask;"⟩
def RX3 : String := "ComplaintBooks$Model"
def TX3 : u_T := fun k => match k with
  | 0 => ("ComplaintBooks$Model", "number", "I", true)
  | 1 => ("ComplaintBooks$Model", "what", "I", true)
  | 2 => ("ComplaintBooks$Model", "place", "LComplaintBooks$Place;", true)
  | 3 => ("ComplaintBooks$Model", "day", "I", true)
  | _ => ("ComplaintBooks$Model", "words", "[J", true)
def tyX3 : Nat → FieldType := fun k => match k with
  | 0 => .int
  | 1 => .int
  | 2 => .object "ComplaintBooks$Place"
  | 3 => .int
  | _ => .array .long
theorem nmX3 : ∀ a, a < 5 → ∀ b, b < 5 → a ≠ b → (TX3 a).2.1 ≠ (TX3 b).2.1 := by decide +kernel
theorem tyX3_ok : ∀ k, k < 5 → parseFieldDescriptor (TX3 k).2.2.1 = some (tyX3 k) := by decide +kernel
abbrev cX3_init : ByteArray := prog_5_method_1_code
def yX3_init : MethodName := ⟨RX3, "<init>", "(IILComplaintBooks$Place;I[J)V"⟩
def RX4 : String := "ComplaintBooks$Person"
def TX4 : u_T := fun k => match k with
  | 0 => ("ComplaintBooks$Person", "number", "I", true)
  | 1 => ("ComplaintBooks$Person", "place", "LComplaintBooks$Place;", true)
  | _ => ("ComplaintBooks$Person", "born", "I", true)
def tyX4 : Nat → FieldType := fun k => match k with
  | 0 => .int
  | 1 => .object "ComplaintBooks$Place"
  | _ => .int
theorem nmX4 : ∀ a, a < 3 → ∀ b, b < 3 → a ≠ b → (TX4 a).2.1 ≠ (TX4 b).2.1 := by decide +kernel
theorem tyX4_ok : ∀ k, k < 3 → parseFieldDescriptor (TX4 k).2.2.1 = some (tyX4 k) := by decide +kernel
abbrev cX4_init : ByteArray := prog_6_method_1_code
def yX4_init : MethodName := ⟨RX4, "<init>", "(ILComplaintBooks$Place;I)V"⟩
def RX5 : String := "ComplaintBooks$Place"
def TX5 : u_T := fun k => match k with
  | 0 => ("ComplaintBooks$Place", "number", "I", true)
  | 1 => ("ComplaintBooks$Place", "level", "I", true)
  | 2 => ("ComplaintBooks$Place", "under", "LComplaintBooks$Place;", true)
  | 3 => ("ComplaintBooks$Place", "way", "I", true)
  | 4 => ("ComplaintBooks$Place", "order", "I", true)
  | 5 => ("ComplaintBooks$Place", "yes", "[I", true)
  | 6 => ("ComplaintBooks$Place", "hearths", "I", false)
  | 7 => ("ComplaintBooks$Place", "below", "I", false)
  | 8 => ("ComplaintBooks$Place", "made", "Z", false)
  | 9 => ("ComplaintBooks$Place", "torn", "I", false)
  | _ => ("ComplaintBooks$Place", "choice", "LComplaintBooks$Person;", false)
def tyX5 : Nat → FieldType := fun k => match k with
  | 0 => .int
  | 1 => .int
  | 2 => .object "ComplaintBooks$Place"
  | 3 => .int
  | 4 => .int
  | 5 => .array .int
  | 6 => .int
  | 7 => .int
  | 8 => .boolean
  | 9 => .int
  | _ => .object "ComplaintBooks$Person"
theorem nmX5 : ∀ a, a < 11 → ∀ b, b < 11 → a ≠ b → (TX5 a).2.1 ≠ (TX5 b).2.1 := by decide +kernel
theorem tyX5_ok : ∀ k, k < 11 → parseFieldDescriptor (TX5 k).2.2.1 = some (tyX5 k) := by decide +kernel
abbrev cX5_init : ByteArray := prog_7_method_1_code
def yX5_init : MethodName := ⟨RX5, "<init>", "(ILComplaintBooks$Place;III)V"⟩
def RX6 : String := "ComplaintBooks$Quarrel"
def TX6 : u_T := fun k => match k with
  | 0 => ("ComplaintBooks$Quarrel", "told", "[I", true)
  | 1 => ("ComplaintBooks$Quarrel", "whats", "[I", true)
  | 2 => ("ComplaintBooks$Quarrel", "foes", "[I", true)
  | _ => ("ComplaintBooks$Quarrel", "size", "I", false)
def tyX6 : Nat → FieldType := fun k => match k with
  | 0 => .array .int
  | 1 => .array .int
  | 2 => .array .int
  | _ => .int
theorem nmX6 : ∀ a, a < 4 → ∀ b, b < 4 → a ≠ b → (TX6 a).2.1 ≠ (TX6 b).2.1 := by decide +kernel
theorem tyX6_ok : ∀ k, k < 4 → parseFieldDescriptor (TX6 k).2.2.1 = some (tyX6 k) := by decide +kernel
abbrev cX6_init : ByteArray := prog_8_method_1_code
def yX6_init : MethodName := ⟨RX6, "<init>", "()V"⟩
abbrev cX6_tell : ByteArray := prog_8_method_2_code
def yX6_tell : MethodName := ⟨RX6, "tell", "(IIZ)Z"⟩
abbrev cX6_clear : ByteArray := prog_8_method_3_code
def yX6_clear : MethodName := ⟨RX6, "clear", "()V"⟩
abbrev cX6_add : ByteArray := prog_8_method_4_code
def yX6_add : MethodName := ⟨RX6, "add", "(I)V"⟩
abbrev cX6_all : ByteArray := prog_8_method_5_code
def yX6_all : MethodName := ⟨RX6, "all", "()I"⟩
abbrev cX6_isPeaceful : ByteArray := prog_8_method_6_code
def yX6_isPeaceful : MethodName := ⟨RX6, "isPeaceful", "(I)Z"⟩
abbrev cX6_fewestToLeave : ByteArray := prog_8_method_7_code
def yX6_fewestToLeave : MethodName := ⟨RX6, "fewestToLeave", "()I"⟩
def RX7 : String := "ComplaintBooks$Rule"
def TX7 : u_T := fun k => match k with
  | 0 => ("ComplaintBooks$Rule", "number", "I", true)
  | 1 => ("ComplaintBooks$Rule", "level", "I", true)
  | 2 => ("ComplaintBooks$Rule", "day", "I", true)
  | 3 => ("ComplaintBooks$Rule", "letters", "[J", true)
  | _ => ("ComplaintBooks$Rule", "struck", "I", false)
def tyX7 : Nat → FieldType := fun k => match k with
  | 0 => .int
  | 1 => .int
  | 2 => .int
  | 3 => .array .long
  | _ => .int
theorem nmX7 : ∀ a, a < 5 → ∀ b, b < 5 → a ≠ b → (TX7 a).2.1 ≠ (TX7 b).2.1 := by decide +kernel
theorem tyX7_ok : ∀ k, k < 5 → parseFieldDescriptor (TX7 k).2.2.1 = some (tyX7 k) := by decide +kernel
abbrev cX7_init : ByteArray := prog_9_method_1_code
def yX7_init : MethodName := ⟨RX7, "<init>", "(III[J)V"⟩
def RX8 : String := "ComplaintBooks$RuleReader"
def TX8 : u_T := fun k => match k with
  | 0 => ("ComplaintBooks$RuleReader", "letters", "[I", true)
  | 1 => ("ComplaintBooks$RuleReader", "values", "[I", true)
  | 2 => ("ComplaintBooks$RuleReader", "size", "I", false)
  | 3 => ("ComplaintBooks$RuleReader", "at", "I", false)
  | 4 => ("ComplaintBooks$RuleReader", "faultAt", "I", false)
  | 5 => ("ComplaintBooks$RuleReader", "keeps", "Z", false)
  | _ => ("ComplaintBooks$RuleReader", "join", "I", false)
def tyX8 : Nat → FieldType := fun k => match k with
  | 0 => .array .int
  | 1 => .array .int
  | 2 => .int
  | 3 => .int
  | 4 => .int
  | 5 => .boolean
  | _ => .int
theorem nmX8 : ∀ a, a < 7 → ∀ b, b < 7 → a ≠ b → (TX8 a).2.1 ≠ (TX8 b).2.1 := by decide +kernel
theorem tyX8_ok : ∀ k, k < 7 → parseFieldDescriptor (TX8 k).2.2.1 = some (tyX8 k) := by decide +kernel
abbrev cX8_init : ByteArray := prog_10_method_1_code
def yX8_init : MethodName := ⟨RX8, "<init>", "()V"⟩
abbrev cX8_takeLetters : ByteArray := prog_10_method_2_code
def yX8_takeLetters : MethodName := ⟨RX8, "takeLetters", "([JI)V"⟩
abbrev cX8_readRule : ByteArray := prog_10_method_3_code
def yX8_readRule : MethodName := ⟨RX8, "readRule", "()V"⟩
abbrev cX8_readAny : ByteArray := prog_10_method_4_code
def yX8_readAny : MethodName := ⟨RX8, "readAny", "(I)Z"⟩
abbrev cX8_readAll : ByteArray := prog_10_method_5_code
def yX8_readAll : MethodName := ⟨RX8, "readAll", "(I)Z"⟩
abbrev cX8_readOne : ByteArray := prog_10_method_6_code
def yX8_readOne : MethodName := ⟨RX8, "readOne", "(I)Z"⟩
abbrev cX8_readTest : ByteArray := prog_10_method_7_code
def yX8_readTest : MethodName := ⟨RX8, "readTest", "()Z"⟩
abbrev cX8_readSide : ByteArray := prog_10_method_8_code
def yX8_readSide : MethodName := ⟨RX8, "readSide", "()J"⟩
abbrev cX8_readField : ByteArray := prog_10_method_9_code
def yX8_readField : MethodName := ⟨RX8, "readField", "()I"⟩
abbrev cX8_want : ByteArray := prog_10_method_10_code
def yX8_want : MethodName := ⟨RX8, "want", "(I)V"⟩
abbrev cX8_pass : ByteArray := prog_10_method_11_code
def yX8_pass : MethodName := ⟨RX8, "pass", "(Z)V"⟩
abbrev cX8_fail : ByteArray := prog_10_method_12_code
def yX8_fail : MethodName := ⟨RX8, "fail", "()V"⟩
abbrev cX8_next : ByteArray := prog_10_method_13_code
def yX8_next : MethodName := ⟨RX8, "next", "()I"⟩
abbrev cX8_isDigit : ByteArray := prog_10_method_14_code
def yX8_isDigit : MethodName := ⟨RX8, "isDigit", "(I)Z"⟩
def RX9 : String := "ComplaintBooks$Shelf"
def TX9 : u_T := fun k => match k with
  | 0 => ("ComplaintBooks$Shelf", "elements", "[J", true)
  | 1 => ("ComplaintBooks$Shelf", "sort", "I", false)
  | 2 => ("ComplaintBooks$Shelf", "size", "I", false)
  | _ => ("ComplaintBooks$Shelf", "ask", "LComplaintBooks$Ask;", false)
def tyX9 : Nat → FieldType := fun k => match k with
  | 0 => .array .long
  | 1 => .int
  | 2 => .int
  | _ => .object "ComplaintBooks$Ask"
theorem nmX9 : ∀ a, a < 4 → ∀ b, b < 4 → a ≠ b → (TX9 a).2.1 ≠ (TX9 b).2.1 := by decide +kernel
theorem tyX9_ok : ∀ k, k < 4 → parseFieldDescriptor (TX9 k).2.2.1 = some (tyX9 k) := by decide +kernel
abbrev cX9_init : ByteArray := prog_11_method_1_code
def yX9_init : MethodName := ⟨RX9, "<init>", "()V"⟩
abbrev cX9_hasRow : ByteArray := prog_11_method_2_code
def yX9_hasRow : MethodName := ⟨RX9, "hasRow", "()Z"⟩
abbrev cX9_takeRow : ByteArray := prog_11_method_3_code
def yX9_takeRow : MethodName := ⟨RX9, "takeRow", "(II)V"⟩
abbrev cX9_takeAsk : ByteArray := prog_11_method_4_code
def yX9_takeAsk : MethodName := ⟨RX9, "takeAsk", "(LComplaintBooks$Ask;)V"⟩
abbrev cX9_rowCopy : ByteArray := prog_11_method_5_code
def yX9_rowCopy : MethodName := ⟨RX9, "rowCopy", "()[J"⟩
abbrev cX9_votesFor : ByteArray := prog_11_method_6_code
def yX9_votesFor : MethodName := ⟨RX9, "votesFor", "(II)I"⟩
abbrev cX9_allIntsBelow : ByteArray := prog_11_method_7_code
def yX9_allIntsBelow : MethodName := ⟨RX9, "allIntsBelow", "(I)Z"⟩
abbrev cX9_bitsOfInts : ByteArray := prog_11_method_8_code
def yX9_bitsOfInts : MethodName := ⟨RX9, "bitsOfInts", "()I"⟩
def RX10 : String := "ComplaintBooks"
def TX10 : u_T := fun k => match k with
  | 0 => ("ComplaintBooks", "places", "[LComplaintBooks$Place;", true)
  | 1 => ("ComplaintBooks", "shelves", "[LComplaintBooks$Shelf;", true)
  | 2 => ("ComplaintBooks", "asks", "[LComplaintBooks$Ask;", true)
  | 3 => ("ComplaintBooks", "models", "[LComplaintBooks$Model;", true)
  | 4 => ("ComplaintBooks", "rules", "[LComplaintBooks$Rule;", true)
  | 5 => ("ComplaintBooks", "persons", "[LComplaintBooks$Person;", true)
  | 6 => ("ComplaintBooks", "refusals", "[I", true)
  | 7 => ("ComplaintBooks", "likenessLine", "[I", true)
  | 8 => ("ComplaintBooks", "reader", "LComplaintBooks$RuleReader;", true)
  | 9 => ("ComplaintBooks", "groups", "LComplaintBooks$Groups;", true)
  | 10 => ("ComplaintBooks", "quarrel", "LComplaintBooks$Quarrel;", true)
  | 11 => ("ComplaintBooks", "bestBook", "LComplaintBooks$BestBook;", true)
  | 12 => ("ComplaintBooks", "placeCount", "I", false)
  | 13 => ("ComplaintBooks", "askCount", "I", false)
  | 14 => ("ComplaintBooks", "modelCount", "I", false)
  | 15 => ("ComplaintBooks", "ruleCount", "I", false)
  | 16 => ("ComplaintBooks", "personCount", "I", false)
  | 17 => ("ComplaintBooks", "now", "I", false)
  | _ => ("ComplaintBooks", "latestFault", "I", false)
def tyX10 : Nat → FieldType := fun k => match k with
  | 0 => .array (.object "ComplaintBooks$Place")
  | 1 => .array (.object "ComplaintBooks$Shelf")
  | 2 => .array (.object "ComplaintBooks$Ask")
  | 3 => .array (.object "ComplaintBooks$Model")
  | 4 => .array (.object "ComplaintBooks$Rule")
  | 5 => .array (.object "ComplaintBooks$Person")
  | 6 => .array .int
  | 7 => .array .int
  | 8 => .object "ComplaintBooks$RuleReader"
  | 9 => .object "ComplaintBooks$Groups"
  | 10 => .object "ComplaintBooks$Quarrel"
  | 11 => .object "ComplaintBooks$BestBook"
  | 12 => .int
  | 13 => .int
  | 14 => .int
  | 15 => .int
  | 16 => .int
  | 17 => .int
  | _ => .int
theorem nmX10 : ∀ a, a < 19 → ∀ b, b < 19 → a ≠ b → (TX10 a).2.1 ≠ (TX10 b).2.1 := by decide +kernel
theorem tyX10_ok : ∀ k, k < 19 → parseFieldDescriptor (TX10 k).2.2.1 = some (tyX10 k) := by decide +kernel
abbrev cX10_init : ByteArray := prog_1_method_1_code
def yX10_init : MethodName := ⟨RX10, "<init>", "()V"⟩
abbrev cX10_place : ByteArray := prog_1_method_2_code
def yX10_place : MethodName := ⟨RX10, "place", "(II)I"⟩
abbrev cX10_parish : ByteArray := prog_1_method_3_code
def yX10_parish : MethodName := ⟨RX10, "parish", "(IIII)I"⟩
abbrev cX10_path : ByteArray := prog_1_method_4_code
def yX10_path : MethodName := ⟨RX10, "path", "(II)I"⟩
abbrev cX10_days : ByteArray := prog_1_method_5_code
def yX10_days : MethodName := ⟨RX10, "days", "(I)I"⟩
abbrev cX10_about : ByteArray := prog_1_method_6_code
def yX10_about : MethodName := ⟨RX10, "about", "(II)I"⟩
abbrev cX10_settle : ByteArray := prog_1_method_7_code
def yX10_settle : MethodName := ⟨RX10, "settle", "(LComplaintBooks$Place;III)I"⟩
abbrev cX10_wayBetween : ByteArray := prog_1_method_8_code
def yX10_wayBetween : MethodName := ⟨RX10, "wayBetween", "(LComplaintBooks$Place;LComplaintBooks$Place;)I"⟩
abbrev cX10_row : ByteArray := prog_1_method_9_code
def yX10_row : MethodName := ⟨RX10, "row", "(III)I"⟩
abbrev cX10_set : ByteArray := prog_1_method_10_code
def yX10_set : MethodName := ⟨RX10, "set", "(IIJ)I"⟩
abbrev cX10_copy : ByteArray := prog_1_method_11_code
def yX10_copy : MethodName := ⟨RX10, "copy", "(IIIII)I"⟩
abbrev cX10_element : ByteArray := prog_1_method_12_code
def yX10_element : MethodName := ⟨RX10, "element", "(II)J"⟩
abbrev cX10_show : ByteArray := prog_1_method_13_code
def yX10_show : MethodName := ⟨RX10, "show", "(II)I"⟩
abbrev cX10_holds : ByteArray := prog_1_method_14_code
def yX10_holds : MethodName := ⟨RX10, "holds", "(I)I"⟩
abbrev cX10_says : ByteArray := prog_1_method_15_code
def yX10_says : MethodName := ⟨RX10, "says", "(II)I"⟩
abbrev cX10_rowTrouble : ByteArray := prog_1_method_16_code
def yX10_rowTrouble : MethodName := ⟨RX10, "rowTrouble", "(LComplaintBooks$Shelf;)I"⟩
abbrev cX10_narrowed : ByteArray := prog_1_method_17_code
def yX10_narrowed : MethodName := ⟨RX10, "narrowed", "(IJ)J"⟩
abbrev cX10_model : ByteArray := prog_1_method_18_code
def yX10_model : MethodName := ⟨RX10, "model", "(III)I"⟩
abbrev cX10_reaches : ByteArray := prog_1_method_19_code
def yX10_reaches : MethodName := ⟨RX10, "reaches", "(II)I"⟩
abbrev cX10_likeness : ByteArray := prog_1_method_20_code
def yX10_likeness : MethodName := ⟨RX10, "likeness", "(II)I"⟩
abbrev cX10_chance : ByteArray := prog_1_method_21_code
def yX10_chance : MethodName := ⟨RX10, "chance", "(IZ)I"⟩
abbrev cX10_dayOfReach : ByteArray := prog_1_method_22_code
def yX10_dayOfReach : MethodName := ⟨RX10, "dayOfReach", "(LComplaintBooks$Model;LComplaintBooks$Place;)I"⟩
abbrev cX10_likeOnes : ByteArray := prog_1_method_23_code
def yX10_likeOnes : MethodName := ⟨RX10, "likeOnes", "([J[J)I"⟩
abbrev cX10_write : ByteArray := prog_1_method_24_code
def yX10_write : MethodName := ⟨RX10, "write", "(IIIII)I"⟩
abbrev cX10_withdraw : ByteArray := prog_1_method_25_code
def yX10_withdraw : MethodName := ⟨RX10, "withdraw", "(I)I"⟩
abbrev cX10_tear : ByteArray := prog_1_method_26_code
def yX10_tear : MethodName := ⟨RX10, "tear", "(II)I"⟩
abbrev cX10_ask : ByteArray := prog_1_method_27_code
def yX10_ask : MethodName := ⟨RX10, "ask", "(II)I"⟩
abbrev cX10_less : ByteArray := prog_1_method_28_code
def yX10_less : MethodName := ⟨RX10, "less", "(I)I"⟩
abbrev cX10_part : ByteArray := prog_1_method_29_code
def yX10_part : MethodName := ⟨RX10, "part", "(II)I"⟩
abbrev cX10_end : ByteArray := prog_1_method_30_code
def yX10_end : MethodName := ⟨RX10, "end", "(I)I"⟩
abbrev cX10_lost : ByteArray := prog_1_method_31_code
def yX10_lost : MethodName := ⟨RX10, "lost", "(I)I"⟩
abbrev cX10_book : ByteArray := prog_1_method_32_code
def yX10_book : MethodName := ⟨RX10, "book", "(II)I"⟩
abbrev cX10_mayWrite : ByteArray := prog_1_method_33_code
def yX10_mayWrite : MethodName := ⟨RX10, "mayWrite", "(LComplaintBooks$Place;II)Z"⟩
abbrev cX10_borrow : ByteArray := prog_1_method_34_code
def yX10_borrow : MethodName := ⟨RX10, "borrow", "(LComplaintBooks$Ask;)V"⟩
abbrev cX10_enter : ByteArray := prog_1_method_35_code
def yX10_enter : MethodName := ⟨RX10, "enter", "(LComplaintBooks$Ask;)I"⟩
abbrev cX10_lastOf : ByteArray := prog_1_method_36_code
def yX10_lastOf : MethodName := ⟨RX10, "lastOf", "(LComplaintBooks$Ask;)LComplaintBooks$Ask;"⟩
abbrev cX10_sizeOfBook : ByteArray := prog_1_method_37_code
def yX10_sizeOfBook : MethodName := ⟨RX10, "sizeOfBook", "(LComplaintBooks$Place;)I"⟩
abbrev cX10_standingIn : ByteArray := prog_1_method_38_code
def yX10_standingIn : MethodName := ⟨RX10, "standingIn", "(LComplaintBooks$Place;)I"⟩
abbrev cX10_rule : ByteArray := prog_1_method_39_code
def yX10_rule : MethodName := ⟨RX10, "rule", "(III)I"⟩
abbrev cX10_fault : ByteArray := prog_1_method_40_code
def yX10_fault : MethodName := ⟨RX10, "fault", "()I"⟩
abbrev cX10_strike : ByteArray := prog_1_method_41_code
def yX10_strike : MethodName := ⟨RX10, "strike", "(I)I"⟩
abbrev cX10_force : ByteArray := prog_1_method_42_code
def yX10_force : MethodName := ⟨RX10, "force", "(II)I"⟩
abbrev cX10_vote : ByteArray := prog_1_method_43_code
def yX10_vote : MethodName := ⟨RX10, "vote", "(III)I"⟩
abbrev cX10_make : ByteArray := prog_1_method_44_code
def yX10_make : MethodName := ⟨RX10, "make", "(I)I"⟩
abbrev cX10_said : ByteArray := prog_1_method_45_code
def yX10_said : MethodName := ⟨RX10, "said", "(I)I"⟩
abbrev cX10_ruleInForce : ByteArray := prog_1_method_46_code
def yX10_ruleInForce : MethodName := ⟨RX10, "ruleInForce", "(II)LComplaintBooks$Rule;"⟩
abbrev cX10_gather : ByteArray := prog_1_method_47_code
def yX10_gather : MethodName := ⟨RX10, "gather", "(LComplaintBooks$Place;)V"⟩
abbrev cX10_sift : ByteArray := prog_1_method_48_code
def yX10_sift : MethodName := ⟨RX10, "sift", "(LComplaintBooks$Place;)I"⟩
abbrev cX10_tellFields : ByteArray := prog_1_method_49_code
def yX10_tellFields : MethodName := ⟨RX10, "tellFields", "(LComplaintBooks$Place;I)V"⟩
abbrev cX10_merge : ByteArray := prog_1_method_50_code
def yX10_merge : MethodName := ⟨RX10, "merge", "(ILComplaintBooks$Place;)V"⟩
abbrev cX10_count : ByteArray := prog_1_method_51_code
def yX10_count : MethodName := ⟨RX10, "count", "(IIIZ)I"⟩
abbrev cX10_asked : ByteArray := prog_1_method_52_code
def yX10_asked : MethodName := ⟨RX10, "asked", "(IIIII)I"⟩
abbrev cX10_other : ByteArray := prog_1_method_53_code
def yX10_other : MethodName := ⟨RX10, "other", "(II)I"⟩
abbrev cX10_askersOf : ByteArray := prog_1_method_54_code
def yX10_askersOf : MethodName := ⟨RX10, "askersOf", "(II)I"⟩
abbrev cX10_comesToTheTop : ByteArray := prog_1_method_55_code
def yX10_comesToTheTop : MethodName := ⟨RX10, "comesToTheTop", "(III)Z"⟩
abbrev cX10_askedByMostHearths : ByteArray := prog_1_method_56_code
def yX10_askedByMostHearths : MethodName := ⟨RX10, "askedByMostHearths", "(I)Z"⟩
abbrev cX10_askedByMostOrders : ByteArray := prog_1_method_57_code
def yX10_askedByMostOrders : MethodName := ⟨RX10, "askedByMostOrders", "(I)Z"⟩
abbrev cX10_standsAtTheTop : ByteArray := prog_1_method_58_code
def yX10_standsAtTheTop : MethodName := ⟨RX10, "standsAtTheTop", "(II)Z"⟩
abbrev cX10_person : ByteArray := prog_1_method_59_code
def yX10_person : MethodName := ⟨RX10, "person", "(II)I"⟩
abbrev cX10_choose : ByteArray := prog_1_method_60_code
def yX10_choose : MethodName := ⟨RX10, "choose", "(II)I"⟩
abbrev cX10_unchoose : ByteArray := prog_1_method_61_code
def yX10_unchoose : MethodName := ⟨RX10, "unchoose", "(I)I"⟩
abbrev cX10_bind : ByteArray := prog_1_method_62_code
def yX10_bind : MethodName := ⟨RX10, "bind", "(I)I"⟩
abbrev cX10_unbind : ByteArray := prog_1_method_63_code
def yX10_unbind : MethodName := ⟨RX10, "unbind", "(I)I"⟩
abbrev cX10_give : ByteArray := prog_1_method_64_code
def yX10_give : MethodName := ⟨RX10, "give", "(I)I"⟩
abbrev cX10_isCandidate : ByteArray := prog_1_method_65_code
def yX10_isCandidate : MethodName := ⟨RX10, "isCandidate", "(LComplaintBooks$Person;LComplaintBooks$Place;)Z"⟩
abbrev cX10_candidatesOf : ByteArray := prog_1_method_66_code
def yX10_candidatesOf : MethodName := ⟨RX10, "candidatesOf", "(LComplaintBooks$Place;)I"⟩
abbrev cX10_mostVoted : ByteArray := prog_1_method_67_code
def yX10_mostVoted : MethodName := ⟨RX10, "mostVoted", "(LComplaintBooks$Place;LComplaintBooks$Shelf;I)LComplaintBooks$Person;"⟩
abbrev cX10_clash : ByteArray := prog_1_method_68_code
def yX10_clash : MethodName := ⟨RX10, "clash", "(IIZ)I"⟩
abbrev cX10_leave : ByteArray := prog_1_method_69_code
def yX10_leave : MethodName := ⟨RX10, "leave", "(I)I"⟩
abbrev cX10_judge : ByteArray := prog_1_method_70_code
def yX10_judge : MethodName := ⟨RX10, "judge", "(II)I"⟩
abbrev cX10_best : ByteArray := prog_1_method_71_code
def yX10_best : MethodName := ⟨RX10, "best", "(II)I"⟩
abbrev cX10_bestOf : ByteArray := prog_1_method_72_code
def yX10_bestOf : MethodName := ⟨RX10, "bestOf", "(I)I"⟩
abbrev cX10_bringToQuarrel : ByteArray := prog_1_method_73_code
def yX10_bringToQuarrel : MethodName := ⟨RX10, "bringToQuarrel", "(LComplaintBooks$Place;)V"⟩
abbrev cX10_status : ByteArray := prog_1_method_74_code
def yX10_status : MethodName := ⟨RX10, "status", "(I)I"⟩
abbrev cX10_booksMade : ByteArray := prog_1_method_75_code
def yX10_booksMade : MethodName := ⟨RX10, "booksMade", "()I"⟩
abbrev cX10_asksWith : ByteArray := prog_1_method_76_code
def yX10_asksWith : MethodName := ⟨RX10, "asksWith", "(I)I"⟩
abbrev cX10_refuse : ByteArray := prog_1_method_77_code
def yX10_refuse : MethodName := ⟨RX10, "refuse", "(I)I"⟩
abbrev cX10_placeAt : ByteArray := prog_1_method_78_code
def yX10_placeAt : MethodName := ⟨RX10, "placeAt", "(I)LComplaintBooks$Place;"⟩
abbrev cX10_shelfAt : ByteArray := prog_1_method_79_code
def yX10_shelfAt : MethodName := ⟨RX10, "shelfAt", "(I)LComplaintBooks$Shelf;"⟩
abbrev cX10_askAt : ByteArray := prog_1_method_80_code
def yX10_askAt : MethodName := ⟨RX10, "askAt", "(I)LComplaintBooks$Ask;"⟩
abbrev cX10_modelAt : ByteArray := prog_1_method_81_code
def yX10_modelAt : MethodName := ⟨RX10, "modelAt", "(I)LComplaintBooks$Model;"⟩
abbrev cX10_isIn : ByteArray := prog_1_method_82_code
def yX10_isIn : MethodName := ⟨RX10, "isIn", "(III)Z"⟩
abbrev cX10_isGroup : ByteArray := prog_1_method_83_code
def yX10_isGroup : MethodName := ⟨RX10, "isGroup", "(II)Z"⟩
abbrev cX10_hasBit : ByteArray := prog_1_method_84_code
def yX10_hasBit : MethodName := ⟨RX10, "hasBit", "(II)Z"⟩
abbrev cX10_bit : ByteArray := prog_1_method_85_code
def yX10_bit : MethodName := ⟨RX10, "bit", "(Z)I"⟩
def RX11 : String := "ComplaintBooksModel"
def TX11 : u_T := fun k => match k with
  | 0 => ("ComplaintBooksModel", "now", "I", false)
  | 1 => ("ComplaintBooksModel", "places", "I", false)
  | 2 => ("ComplaintBooksModel", "asks", "I", false)
  | 3 => ("ComplaintBooksModel", "models", "I", false)
  | 4 => ("ComplaintBooksModel", "rules", "I", false)
  | 5 => ("ComplaintBooksModel", "persons", "I", false)
  | 6 => ("ComplaintBooksModel", "fault", "I", false)
  | 7 => ("ComplaintBooksModel", "level", "[I", true)
  | 8 => ("ComplaintBooksModel", "under", "[I", true)
  | 9 => ("ComplaintBooksModel", "way", "[I", true)
  | 10 => ("ComplaintBooksModel", "order", "[I", true)
  | 11 => ("ComplaintBooksModel", "hearths", "[I", true)
  | 12 => ("ComplaintBooksModel", "torn", "[I", true)
  | 13 => ("ComplaintBooksModel", "choice", "[I", true)
  | 14 => ("ComplaintBooksModel", "yes", "[I", true)
  | 15 => ("ComplaintBooksModel", "made", "[Z", true)
  | 16 => ("ComplaintBooksModel", "held", "[I", true)
  | 17 => ("ComplaintBooksModel", "sort", "[I", true)
  | 18 => ("ComplaintBooksModel", "size", "[I", true)
  | 19 => ("ComplaintBooksModel", "shown", "[I", true)
  | 20 => ("ComplaintBooksModel", "cells", "[J", true)
  | 21 => ("ComplaintBooksModel", "carried", "[J", true)
  | 22 => ("ComplaintBooksModel", "at", "[I", true)
  | 23 => ("ComplaintBooksModel", "what", "[I", true)
  | 24 => ("ComplaintBooksModel", "whom", "[I", true)
  | 25 => ("ComplaintBooksModel", "much", "[I", true)
  | 26 => ("ComplaintBooksModel", "written", "[I", true)
  | 27 => ("ComplaintBooksModel", "kind", "[I", true)
  | 28 => ("ComplaintBooksModel", "model", "[I", true)
  | 29 => ("ComplaintBooksModel", "into", "[I", true)
  | 30 => ("ComplaintBooksModel", "dropped", "[I", true)
  | 31 => ("ComplaintBooksModel", "gone", "[I", true)
  | 32 => ("ComplaintBooksModel", "word", "[I", true)
  | 33 => ("ComplaintBooksModel", "wordN", "[I", true)
  | 34 => ("ComplaintBooksModel", "late", "[Z", true)
  | 35 => ("ComplaintBooksModel", "gap", "[Z", true)
  | 36 => ("ComplaintBooksModel", "yielded", "[Z", true)
  | 37 => ("ComplaintBooksModel", "words", "[J", true)
  | 38 => ("ComplaintBooksModel", "mWhat", "[I", true)
  | 39 => ("ComplaintBooksModel", "mPlace", "[I", true)
  | 40 => ("ComplaintBooksModel", "mDay", "[I", true)
  | 41 => ("ComplaintBooksModel", "mN", "[I", true)
  | 42 => ("ComplaintBooksModel", "mWords", "[J", true)
  | 43 => ("ComplaintBooksModel", "rLevel", "[I", true)
  | 44 => ("ComplaintBooksModel", "rDay", "[I", true)
  | 45 => ("ComplaintBooksModel", "rStruck", "[I", true)
  | 46 => ("ComplaintBooksModel", "rCode", "[I", true)
  | 47 => ("ComplaintBooksModel", "rMode", "[I", true)
  | 48 => ("ComplaintBooksModel", "code", "[I", true)
  | 49 => ("ComplaintBooksModel", "leftBy", "[I", true)
  | 50 => ("ComplaintBooksModel", "leftField", "[I", true)
  | 51 => ("ComplaintBooksModel", "sign", "[I", true)
  | 52 => ("ComplaintBooksModel", "rightBy", "[I", true)
  | 53 => ("ComplaintBooksModel", "rightField", "[I", true)
  | 54 => ("ComplaintBooksModel", "pPlace", "[I", true)
  | 55 => ("ComplaintBooksModel", "pBorn", "[I", true)
  | 56 => ("ComplaintBooksModel", "clash", "[Z", true)
  | 57 => ("ComplaintBooksModel", "refused", "[I", true)
  | 58 => ("ComplaintBooksModel", "table", "[I", true)
  | 59 => ("ComplaintBooksModel", "ops", "[I", true)
  | 60 => ("ComplaintBooksModel", "on", "I", false)
  | 61 => ("ComplaintBooksModel", "end", "I", false)
  | 62 => ("ComplaintBooksModel", "base", "I", false)
  | 63 => ("ComplaintBooksModel", "codeN", "I", false)
  | 64 => ("ComplaintBooksModel", "tests", "I", false)
  | 65 => ("ComplaintBooksModel", "opsN", "I", false)
  | 66 => ("ComplaintBooksModel", "depth", "I", false)
  | 67 => ("ComplaintBooksModel", "by", "I", false)
  | 68 => ("ComplaintBooksModel", "field", "I", false)
  | 69 => ("ComplaintBooksModel", "some", "[I", true)
  | 70 => ("ComplaintBooksModel", "inOrder", "[I", true)
  | 71 => ("ComplaintBooksModel", "someN", "I", false)
  | 72 => ("ComplaintBooksModel", "worths", "[I", true)
  | 73 => ("ComplaintBooksModel", "row", "[I", true)
  | 74 => ("ComplaintBooksModel", "bestN", "I", false)
  | 75 => ("ComplaintBooksModel", "bestBy", "[I", true)
  | 76 => ("ComplaintBooksModel", "says", "[I", true)
  | 77 => ("ComplaintBooksModel", "mode", "[I", true)
  | _ => ("ComplaintBooksModel", "codes", "[I", true)
def tyX11 : Nat → FieldType := fun k => match k with
  | 0 => .int
  | 1 => .int
  | 2 => .int
  | 3 => .int
  | 4 => .int
  | 5 => .int
  | 6 => .int
  | 7 => .array .int
  | 8 => .array .int
  | 9 => .array .int
  | 10 => .array .int
  | 11 => .array .int
  | 12 => .array .int
  | 13 => .array .int
  | 14 => .array .int
  | 15 => .array .boolean
  | 16 => .array .int
  | 17 => .array .int
  | 18 => .array .int
  | 19 => .array .int
  | 20 => .array .long
  | 21 => .array .long
  | 22 => .array .int
  | 23 => .array .int
  | 24 => .array .int
  | 25 => .array .int
  | 26 => .array .int
  | 27 => .array .int
  | 28 => .array .int
  | 29 => .array .int
  | 30 => .array .int
  | 31 => .array .int
  | 32 => .array .int
  | 33 => .array .int
  | 34 => .array .boolean
  | 35 => .array .boolean
  | 36 => .array .boolean
  | 37 => .array .long
  | 38 => .array .int
  | 39 => .array .int
  | 40 => .array .int
  | 41 => .array .int
  | 42 => .array .long
  | 43 => .array .int
  | 44 => .array .int
  | 45 => .array .int
  | 46 => .array .int
  | 47 => .array .int
  | 48 => .array .int
  | 49 => .array .int
  | 50 => .array .int
  | 51 => .array .int
  | 52 => .array .int
  | 53 => .array .int
  | 54 => .array .int
  | 55 => .array .int
  | 56 => .array .boolean
  | 57 => .array .int
  | 58 => .array .int
  | 59 => .array .int
  | 60 => .int
  | 61 => .int
  | 62 => .int
  | 63 => .int
  | 64 => .int
  | 65 => .int
  | 66 => .int
  | 67 => .int
  | 68 => .int
  | 69 => .array .int
  | 70 => .array .int
  | 71 => .int
  | 72 => .array .int
  | 73 => .array .int
  | 74 => .int
  | 75 => .array .int
  | 76 => .array .int
  | 77 => .array .int
  | _ => .array .int
theorem nmX11 : ∀ a, a < 79 → ∀ b, b < 79 → a ≠ b → (TX11 a).2.1 ≠ (TX11 b).2.1 := by decide +kernel
theorem tyX11_ok : ∀ k, k < 79 → parseFieldDescriptor (TX11 k).2.2.1 = some (tyX11 k) := by decide +kernel
abbrev cX11_init : ByteArray := prog_13_method_1_code
def yX11_init : MethodName := ⟨RX11, "<init>", "()V"⟩
abbrev cX11_no : ByteArray := prog_13_method_2_code
def yX11_no : MethodName := ⟨RX11, "no", "(I)I"⟩
abbrev cX11_isPlace : ByteArray := prog_13_method_3_code
def yX11_isPlace : MethodName := ⟨RX11, "isPlace", "(I)Z"⟩
abbrev cX11_isAsk : ByteArray := prog_13_method_4_code
def yX11_isAsk : MethodName := ⟨RX11, "isAsk", "(I)Z"⟩
abbrev cX11_isShelf : ByteArray := prog_13_method_5_code
def yX11_isShelf : MethodName := ⟨RX11, "isShelf", "(I)Z"⟩
abbrev cX11_isAsked : ByteArray := prog_13_method_6_code
def yX11_isAsked : MethodName := ⟨RX11, "isAsked", "(II)Z"⟩
abbrev cX11_puts : ByteArray := prog_13_method_7_code
def yX11_puts : MethodName := ⟨RX11, "puts", "(IIIII)I"⟩
abbrev cX11_place : ByteArray := prog_13_method_8_code
def yX11_place : MethodName := ⟨RX11, "place", "(II)I"⟩
abbrev cX11_parish : ByteArray := prog_13_method_9_code
def yX11_parish : MethodName := ⟨RX11, "parish", "(IIII)I"⟩
abbrev cX11_pathOf : ByteArray := prog_13_method_10_code
def yX11_pathOf : MethodName := ⟨RX11, "pathOf", "(II)I"⟩
abbrev cX11_path : ByteArray := prog_13_method_11_code
def yX11_path : MethodName := ⟨RX11, "path", "(II)I"⟩
abbrev cX11_days : ByteArray := prog_13_method_12_code
def yX11_days : MethodName := ⟨RX11, "days", "(I)I"⟩
abbrev cX11_isBelow : ByteArray := prog_13_method_13_code
def yX11_isBelow : MethodName := ⟨RX11, "isBelow", "(II)Z"⟩
abbrev cX11_hearthsOf : ByteArray := prog_13_method_14_code
def yX11_hearthsOf : MethodName := ⟨RX11, "hearthsOf", "(I)I"⟩
abbrev cX11_bookSize : ByteArray := prog_13_method_15_code
def yX11_bookSize : MethodName := ⟨RX11, "bookSize", "(I)I"⟩
abbrev cX11_about : ByteArray := prog_13_method_16_code
def yX11_about : MethodName := ⟨RX11, "about", "(II)I"⟩
abbrev cX11_row : ByteArray := prog_13_method_17_code
def yX11_row : MethodName := ⟨RX11, "row", "(III)I"⟩
abbrev cX11_set : ByteArray := prog_13_method_18_code
def yX11_set : MethodName := ⟨RX11, "set", "(IIJ)I"⟩
abbrev cX11_copy : ByteArray := prog_13_method_19_code
def yX11_copy : MethodName := ⟨RX11, "copy", "(IIIII)I"⟩
abbrev cX11_element : ByteArray := prog_13_method_20_code
def yX11_element : MethodName := ⟨RX11, "element", "(II)J"⟩
abbrev cX11_show : ByteArray := prog_13_method_21_code
def yX11_show : MethodName := ⟨RX11, "show", "(II)I"⟩
abbrev cX11_holds : ByteArray := prog_13_method_22_code
def yX11_holds : MethodName := ⟨RX11, "holds", "(I)I"⟩
abbrev cX11_wants : ByteArray := prog_13_method_23_code
def yX11_wants : MethodName := ⟨RX11, "wants", "(I)I"⟩
abbrev cX11_partsOf : ByteArray := prog_13_method_24_code
def yX11_partsOf : MethodName := ⟨RX11, "partsOf", "(I)I"⟩
abbrev cX11_says : ByteArray := prog_13_method_25_code
def yX11_says : MethodName := ⟨RX11, "says", "(II)I"⟩
abbrev cX11_model : ByteArray := prog_13_method_26_code
def yX11_model : MethodName := ⟨RX11, "model", "(III)I"⟩
abbrev cX11_reached : ByteArray := prog_13_method_27_code
def yX11_reached : MethodName := ⟨RX11, "reached", "(II)I"⟩
abbrev cX11_reaches : ByteArray := prog_13_method_28_code
def yX11_reaches : MethodName := ⟨RX11, "reaches", "(II)I"⟩
abbrev cX11_likenessOf : ByteArray := prog_13_method_29_code
def yX11_likenessOf : MethodName := ⟨RX11, "likenessOf", "(II)I"⟩
abbrev cX11_write : ByteArray := prog_13_method_30_code
def yX11_write : MethodName := ⟨RX11, "write", "(IIIII)I"⟩
abbrev cX11_puts_ : ByteArray := prog_13_method_31_code
def yX11_puts_ : MethodName := ⟨RX11, "puts", "(IIIIIZ)I"⟩
abbrev cX11_withdraw : ByteArray := prog_13_method_32_code
def yX11_withdraw : MethodName := ⟨RX11, "withdraw", "(I)I"⟩
abbrev cX11_tear : ByteArray := prog_13_method_33_code
def yX11_tear : MethodName := ⟨RX11, "tear", "(II)I"⟩
abbrev cX11_hearthsBehind : ByteArray := prog_13_method_34_code
def yX11_hearthsBehind : MethodName := ⟨RX11, "hearthsBehind", "(I)I"⟩
abbrev cX11_ask : ByteArray := prog_13_method_35_code
def yX11_ask : MethodName := ⟨RX11, "ask", "(II)I"⟩
abbrev cX11_likeness : ByteArray := prog_13_method_36_code
def yX11_likeness : MethodName := ⟨RX11, "likeness", "(II)I"⟩
abbrev cX11_chance : ByteArray := prog_13_method_37_code
def yX11_chance : MethodName := ⟨RX11, "chance", "(IZ)I"⟩
abbrev cX11_less : ByteArray := prog_13_method_38_code
def yX11_less : MethodName := ⟨RX11, "less", "(I)I"⟩
abbrev cX11_part : ByteArray := prog_13_method_39_code
def yX11_part : MethodName := ⟨RX11, "part", "(II)I"⟩
abbrev cX11_endOf : ByteArray := prog_13_method_40_code
def yX11_endOf : MethodName := ⟨RX11, "endOf", "(I)I"⟩
abbrev cX11_end : ByteArray := prog_13_method_41_code
def yX11_end : MethodName := ⟨RX11, "end", "(I)I"⟩
abbrev cX11_lost : ByteArray := prog_13_method_42_code
def yX11_lost : MethodName := ⟨RX11, "lost", "(I)I"⟩
abbrev cX11_book : ByteArray := prog_13_method_43_code
def yX11_book : MethodName := ⟨RX11, "book", "(II)I"⟩
abbrev cX11_letter : ByteArray := prog_13_method_44_code
def yX11_letter : MethodName := ⟨RX11, "letter", "()I"⟩
abbrev cX11_is : ByteArray := prog_13_method_45_code
def yX11_is : MethodName := ⟨RX11, "is", "(I)Z"⟩
abbrev cX11_isDigit : ByteArray := prog_13_method_46_code
def yX11_isDigit : MethodName := ⟨RX11, "isDigit", "()Z"⟩
abbrev cX11_isField : ByteArray := prog_13_method_47_code
def yX11_isField : MethodName := ⟨RX11, "isField", "()Z"⟩
abbrev cX11_isSide : ByteArray := prog_13_method_48_code
def yX11_isSide : MethodName := ⟨RX11, "isSide", "()Z"⟩
abbrev cX11_reads : ByteArray := prog_13_method_49_code
def yX11_reads : MethodName := ⟨RX11, "reads", "(I)Z"⟩
abbrev cX11_emits : ByteArray := prog_13_method_50_code
def yX11_emits : MethodName := ⟨RX11, "emits", "(II)V"⟩
abbrev cX11_closes : ByteArray := prog_13_method_51_code
def yX11_closes : MethodName := ⟨RX11, "closes", "(I)V"⟩
abbrev cX11_pops : ByteArray := prog_13_method_52_code
def yX11_pops : MethodName := ⟨RX11, "pops", "(IZ)V"⟩
abbrev cX11_compiles : ByteArray := prog_13_method_53_code
def yX11_compiles : MethodName := ⟨RX11, "compiles", "(II)I"⟩
abbrev cX11_rule : ByteArray := prog_13_method_54_code
def yX11_rule : MethodName := ⟨RX11, "rule", "(III)I"⟩
abbrev cX11_fault : ByteArray := prog_13_method_55_code
def yX11_fault : MethodName := ⟨RX11, "fault", "()I"⟩
abbrev cX11_strike : ByteArray := prog_13_method_56_code
def yX11_strike : MethodName := ⟨RX11, "strike", "(I)I"⟩
abbrev cX11_force : ByteArray := prog_13_method_57_code
def yX11_force : MethodName := ⟨RX11, "force", "(II)I"⟩
abbrev cX11_vote : ByteArray := prog_13_method_58_code
def yX11_vote : MethodName := ⟨RX11, "vote", "(III)I"⟩
abbrev cX11_stands : ByteArray := prog_13_method_59_code
def yX11_stands : MethodName := ⟨RX11, "stands", "(I)Z"⟩
abbrev cX11_gathers : ByteArray := prog_13_method_60_code
def yX11_gathers : MethodName := ⟨RX11, "gathers", "(II)I"⟩
abbrev cX11_joined : ByteArray := prog_13_method_61_code
def yX11_joined : MethodName := ⟨RX11, "joined", "(I)I"⟩
abbrev cX11_placesUnder : ByteArray := prog_13_method_62_code
def yX11_placesUnder : MethodName := ⟨RX11, "placesUnder", "(I)I"⟩
abbrev cX11_valueOf : ByteArray := prog_13_method_63_code
def yX11_valueOf : MethodName := ⟨RX11, "valueOf", "(IIII)J"⟩
abbrev cX11_keeps : ByteArray := prog_13_method_64_code
def yX11_keeps : MethodName := ⟨RX11, "keeps", "(III)Z"⟩
abbrev cX11_make : ByteArray := prog_13_method_65_code
def yX11_make : MethodName := ⟨RX11, "make", "(I)I"⟩
abbrev cX11_asksNow : ByteArray := prog_13_method_66_code
def yX11_asksNow : MethodName := ⟨RX11, "asksNow", "(II)Z"⟩
abbrev cX11_count : ByteArray := prog_13_method_67_code
def yX11_count : MethodName := ⟨RX11, "count", "(IIIZ)I"⟩
abbrev cX11_asked : ByteArray := prog_13_method_68_code
def yX11_asked : MethodName := ⟨RX11, "asked", "(IIIII)I"⟩
abbrev cX11_person : ByteArray := prog_13_method_69_code
def yX11_person : MethodName := ⟨RX11, "person", "(II)I"⟩
abbrev cX11_isCandidate : ByteArray := prog_13_method_70_code
def yX11_isCandidate : MethodName := ⟨RX11, "isCandidate", "(II)Z"⟩
abbrev cX11_choose : ByteArray := prog_13_method_71_code
def yX11_choose : MethodName := ⟨RX11, "choose", "(II)I"⟩
abbrev cX11_unchoose : ByteArray := prog_13_method_72_code
def yX11_unchoose : MethodName := ⟨RX11, "unchoose", "(I)I"⟩
abbrev cX11_bind : ByteArray := prog_13_method_73_code
def yX11_bind : MethodName := ⟨RX11, "bind", "(I)I"⟩
abbrev cX11_unbind : ByteArray := prog_13_method_74_code
def yX11_unbind : MethodName := ⟨RX11, "unbind", "(I)I"⟩
abbrev cX11_give : ByteArray := prog_13_method_75_code
def yX11_give : MethodName := ⟨RX11, "give", "(I)I"⟩
abbrev cX11_clash : ByteArray := prog_13_method_76_code
def yX11_clash : MethodName := ⟨RX11, "clash", "(IIZ)I"⟩
abbrev cX11_standing : ByteArray := prog_13_method_77_code
def yX11_standing : MethodName := ⟨RX11, "standing", "(I)I"⟩
abbrev cX11_isFree : ByteArray := prog_13_method_78_code
def yX11_isFree : MethodName := ⟨RX11, "isFree", "(II)Z"⟩
abbrev cX11_bits : ByteArray := prog_13_method_79_code
def yX11_bits : MethodName := ⟨RX11, "bits", "(I)I"⟩
abbrev cX11_leave : ByteArray := prog_13_method_80_code
def yX11_leave : MethodName := ⟨RX11, "leave", "(I)I"⟩
abbrev cX11_judge : ByteArray := prog_13_method_81_code
def yX11_judge : MethodName := ⟨RX11, "judge", "(II)I"⟩
abbrev cX11_saidAt : ByteArray := prog_13_method_82_code
def yX11_saidAt : MethodName := ⟨RX11, "saidAt", "(I)I"⟩
abbrev cX11_best : ByteArray := prog_13_method_83_code
def yX11_best : MethodName := ⟨RX11, "best", "(II)I"⟩
abbrev cX11_bestOf : ByteArray := prog_13_method_84_code
def yX11_bestOf : MethodName := ⟨RX11, "bestOf", "(I)I"⟩
abbrev cX11_said : ByteArray := prog_13_method_85_code
def yX11_said : MethodName := ⟨RX11, "said", "(I)I"⟩
abbrev cX11_comes : ByteArray := prog_13_method_86_code
def yX11_comes : MethodName := ⟨RX11, "comes", "(II)Z"⟩
abbrev cX11_other : ByteArray := prog_13_method_87_code
def yX11_other : MethodName := ⟨RX11, "other", "(II)I"⟩
abbrev cX11_status : ByteArray := prog_13_method_88_code
def yX11_status : MethodName := ⟨RX11, "status", "(I)I"⟩
def RJx145de : String := "java/io/Serializable"
def RJx9f9b0 : String := "java/lang/CharSequence"
def RJx8e188 : String := "java/lang/Cloneable"
def RJxb160c : String := "java/lang/Comparable"
def RJ6 : String := "java/lang/Integer"
abbrev cJ6_bitCount_0f7a4 : ByteArray := prog_15_method_49_code
def yJ6_bitCount_0f7a4 : MethodName := ⟨RJ6, "bitCount", "(I)I"⟩
def RJ9 : String := "java/lang/Math"
abbrev cJ9_abs_0f7a4 : ByteArray := prog_16_method_59_code
def yJ9_abs_0f7a4 : MethodName := ⟨RJ9, "abs", "(I)I"⟩
abbrev cJ9_max_7cf53 : ByteArray := prog_16_method_65_code
def yJ9_max_7cf53 : MethodName := ⟨RJ9, "max", "(II)I"⟩
abbrev cJ9_min_7cf53 : ByteArray := prog_16_method_69_code
def yJ9_min_7cf53 : MethodName := ⟨RJ9, "min", "(II)I"⟩
def RJ0 : String := "java/lang/String"
abbrev cJ0_length_8abf5 : ByteArray := prog_17_method_54_code
def yJ0_length_8abf5 : MethodName := ⟨RJ0, "length", "()I"⟩
abbrev cJ0_charAt_5068e : ByteArray := prog_17_method_56_code
def yJ0_charAt_5068e : MethodName := ⟨RJ0, "charAt", "(I)C"⟩
abbrev cJ0_coder_7d493 : ByteArray := prog_17_method_152_code
def yJ0_coder_7d493 : MethodName := ⟨RJ0, "coder", "()B"⟩
abbrev cJ0_isLatin1_aae02 : ByteArray := prog_17_method_154_code
def yJ0_isLatin1_aae02 : MethodName := ⟨RJ0, "isLatin1", "()Z"⟩
abbrev cJ0_checkIndex_df160 : ByteArray := prog_17_method_155_code
def yJ0_checkIndex_df160 : MethodName := ⟨RJ0, "checkIndex", "(II)V"⟩
def RJ1 : String := "java/lang/StringLatin1"
abbrev cJ1_charAt_3b067 : ByteArray := prog_18_method_2_code
def yJ1_charAt_3b067 : MethodName := ⟨RJ1, "charAt", "([BI)C"⟩
def RJ2 : String := "java/lang/StringUTF16"
abbrev cJ2_getChar_3b067 : ByteArray := prog_19_method_5_code
def yJ2_getChar_3b067 : MethodName := ⟨RJ2, "getChar", "([BI)C"⟩
abbrev cJ2_length_9d52b : ByteArray := prog_19_method_6_code
def yJ2_length_9d52b : MethodName := ⟨RJ2, "length", "([B)I"⟩
abbrev cJ2_charAt_3b067 : ByteArray := prog_19_method_83_code
def yJ2_charAt_3b067 : MethodName := ⟨RJ2, "charAt", "([BI)C"⟩
abbrev cJ2_checkIndex_2214a : ByteArray := prog_19_method_91_code
def yJ2_checkIndex_2214a : MethodName := ⟨RJ2, "checkIndex", "(I[B)V"⟩
def RJ10 : String := "java/lang/System"
def RJxfd54e : String := "java/lang/constant/Constable"
def RJx3cf43 : String := "java/lang/constant/ConstantDesc"
def RJ7 : String := "java/util/Arrays"
abbrev cJ7_fill_d0a16 : ByteArray := prog_21_method_101_code
def yJ7_fill_d0a16 : MethodName := ⟨RJ7, "fill", "([JJ)V"⟩
abbrev cJ7_fill_53178 : ByteArray := prog_21_method_103_code
def yJ7_fill_53178 : MethodName := ⟨RJ7, "fill", "([II)V"⟩
abbrev cJ7_copyOf_c38d5 : ByteArray := prog_21_method_124_code
def yJ7_copyOf_c38d5 : MethodName := ⟨RJ7, "copyOf", "([JI)[J"⟩
def RJ3 : String := "jdk/internal/util/Preconditions"
abbrev cJ3_checkIndex_8e157 : ByteArray := prog_22_method_11_code
def yJ3_checkIndex_8e157 : MethodName := ⟨RJ3, "checkIndex", "(IILjava/util/function/BiFunction;)I"⟩
def RL : String := "ComplaintBooksLaw"
abbrev cL_law : ByteArray := code
def yL_law : MethodName := ⟨RL, "law", "([I)Z"⟩
