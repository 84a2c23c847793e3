-- ===== PART A: goes FIRST, ahead of the names: the tables' words, and 'selects' of the private methods out of them =====
/-- a private method of a class that the tables say can be made, by its rows of tables_1 -/
def lw_okq (q : MethodName × Nat) : Prop := (q.1.cls ≠ "java/lang/invoke/MethodHandle" ∧ q.1.cls ≠ "java/lang/invoke/VarHandle") ∧ Cond.instantiable q.1.cls q.2 ∈ tables_1 ∧ Cond.privateMethod q.1 ∈ tables_1 ∧ Cond.instanceMethod q.1 ∈ tables_1
theorem lw_p0 : lw_okq (⟨"JustFivePounds$Tape", "readToken", "()V"⟩, 6) := ⟨⟨by decide +kernel, by decide +kernel⟩, List.mem_of_getElem? (i := 104) (by decide +kernel), List.mem_of_getElem? (i := 294) (by decide +kernel), List.mem_of_getElem? (i := 295) (by decide +kernel)⟩
theorem lw_p1 : lw_okq (⟨"JustFivePounds$Tape", "byteAt", "(I)I"⟩, 6) := ⟨⟨by decide +kernel, by decide +kernel⟩, List.mem_of_getElem? (i := 104) (by decide +kernel), List.mem_of_getElem? (i := 298) (by decide +kernel), List.mem_of_getElem? (i := 299) (by decide +kernel)⟩
theorem lw_p2 : lw_okq (⟨"JustFivePounds$Tape", "readWord", "()V"⟩, 6) := ⟨⟨by decide +kernel, by decide +kernel⟩, List.mem_of_getElem? (i := 104) (by decide +kernel), List.mem_of_getElem? (i := 305) (by decide +kernel), List.mem_of_getElem? (i := 306) (by decide +kernel)⟩
theorem lw_p3 : lw_okq (⟨"JustFivePounds$Tape", "isWord", "(Ljava/lang/String;)Z"⟩, 6) := ⟨⟨by decide +kernel, by decide +kernel⟩, List.mem_of_getElem? (i := 104) (by decide +kernel), List.mem_of_getElem? (i := 310) (by decide +kernel), List.mem_of_getElem? (i := 311) (by decide +kernel)⟩
theorem lw_p4 : lw_okq (⟨"JustFivePounds$Tape", "readNumber", "()V"⟩, 6) := ⟨⟨by decide +kernel, by decide +kernel⟩, List.mem_of_getElem? (i := 104) (by decide +kernel), List.mem_of_getElem? (i := 330) (by decide +kernel), List.mem_of_getElem? (i := 331) (by decide +kernel)⟩
theorem lw_p5 : lw_okq (⟨"JustFivePounds$Tape", "readOr", "(LJustFivePounds$Text;I)Z"⟩, 6) := ⟨⟨by decide +kernel, by decide +kernel⟩, List.mem_of_getElem? (i := 104) (by decide +kernel), List.mem_of_getElem? (i := 337) (by decide +kernel), List.mem_of_getElem? (i := 338) (by decide +kernel)⟩
theorem lw_p6 : lw_okq (⟨"JustFivePounds$Tape", "readAnd", "(LJustFivePounds$Text;I)Z"⟩, 6) := ⟨⟨by decide +kernel, by decide +kernel⟩, List.mem_of_getElem? (i := 104) (by decide +kernel), List.mem_of_getElem? (i := 341) (by decide +kernel), List.mem_of_getElem? (i := 342) (by decide +kernel)⟩
theorem lw_p7 : lw_okq (⟨"JustFivePounds$Tape", "readNot", "(LJustFivePounds$Text;I)Z"⟩, 6) := ⟨⟨by decide +kernel, by decide +kernel⟩, List.mem_of_getElem? (i := 104) (by decide +kernel), List.mem_of_getElem? (i := 345) (by decide +kernel), List.mem_of_getElem? (i := 346) (by decide +kernel)⟩
theorem lw_p8 : lw_okq (⟨"JustFivePounds$Tape", "readSum", "(LJustFivePounds$Text;I)Z"⟩, 6) := ⟨⟨by decide +kernel, by decide +kernel⟩, List.mem_of_getElem? (i := 104) (by decide +kernel), List.mem_of_getElem? (i := 353) (by decide +kernel), List.mem_of_getElem? (i := 354) (by decide +kernel)⟩
theorem lw_p9 : lw_okq (⟨"JustFivePounds$Tape", "readTerm", "(LJustFivePounds$Text;I)Z"⟩, 6) := ⟨⟨by decide +kernel, by decide +kernel⟩, List.mem_of_getElem? (i := 104) (by decide +kernel), List.mem_of_getElem? (i := 357) (by decide +kernel), List.mem_of_getElem? (i := 358) (by decide +kernel)⟩
theorem lw_p10 : lw_okq (⟨"JustFivePounds$Tape", "readOne", "(LJustFivePounds$Text;I)Z"⟩, 6) := ⟨⟨by decide +kernel, by decide +kernel⟩, List.mem_of_getElem? (i := 104) (by decide +kernel), List.mem_of_getElem? (i := 361) (by decide +kernel), List.mem_of_getElem? (i := 362) (by decide +kernel)⟩
theorem lw_p11 : lw_okq (⟨"JustFivePounds$Tape", "readOpened", "(LJustFivePounds$Text;I)Z"⟩, 6) := ⟨⟨by decide +kernel, by decide +kernel⟩, List.mem_of_getElem? (i := 104) (by decide +kernel), List.mem_of_getElem? (i := 365) (by decide +kernel), List.mem_of_getElem? (i := 366) (by decide +kernel)⟩
theorem lw_p12 : lw_okq (⟨"JustFivePounds", "lawText", "()LJustFivePounds$Text;"⟩, 11) := ⟨⟨by decide +kernel, by decide +kernel⟩, List.mem_of_getElem? (i := 16) (by decide +kernel), List.mem_of_getElem? (i := 434) (by decide +kernel), List.mem_of_getElem? (i := 435) (by decide +kernel)⟩
theorem lw_p13 : lw_okq (⟨"JustFivePounds$Text", "run", "(II)V"⟩, 7) := ⟨⟨by decide +kernel, by decide +kernel⟩, List.mem_of_getElem? (i := 180) (by decide +kernel), List.mem_of_getElem? (i := 442) (by decide +kernel), List.mem_of_getElem? (i := 443) (by decide +kernel)⟩
theorem lw_p14 : lw_okq (⟨"JustFivePounds$Text", "named", "(I)I"⟩, 7) := ⟨⟨by decide +kernel, by decide +kernel⟩, List.mem_of_getElem? (i := 180) (by decide +kernel), List.mem_of_getElem? (i := 446) (by decide +kernel), List.mem_of_getElem? (i := 447) (by decide +kernel)⟩
theorem lw_p15 : lw_okq (⟨"JustFivePounds$Text", "push", "(I)V"⟩, 7) := ⟨⟨by decide +kernel, by decide +kernel⟩, List.mem_of_getElem? (i := 180) (by decide +kernel), List.mem_of_getElem? (i := 450) (by decide +kernel), List.mem_of_getElem? (i := 451) (by decide +kernel)⟩
def lw_privs_1 : List (MethodName × Nat) := [(⟨"JustFivePounds$Tape", "readToken", "()V"⟩, 6), (⟨"JustFivePounds$Tape", "byteAt", "(I)I"⟩, 6), (⟨"JustFivePounds$Tape", "readWord", "()V"⟩, 6), (⟨"JustFivePounds$Tape", "isWord", "(Ljava/lang/String;)Z"⟩, 6), (⟨"JustFivePounds$Tape", "readNumber", "()V"⟩, 6), (⟨"JustFivePounds$Tape", "readOr", "(LJustFivePounds$Text;I)Z"⟩, 6), (⟨"JustFivePounds$Tape", "readAnd", "(LJustFivePounds$Text;I)Z"⟩, 6), (⟨"JustFivePounds$Tape", "readNot", "(LJustFivePounds$Text;I)Z"⟩, 6), (⟨"JustFivePounds$Tape", "readSum", "(LJustFivePounds$Text;I)Z"⟩, 6), (⟨"JustFivePounds$Tape", "readTerm", "(LJustFivePounds$Text;I)Z"⟩, 6), (⟨"JustFivePounds$Tape", "readOne", "(LJustFivePounds$Text;I)Z"⟩, 6), (⟨"JustFivePounds$Tape", "readOpened", "(LJustFivePounds$Text;I)Z"⟩, 6), (⟨"JustFivePounds", "lawText", "()LJustFivePounds$Text;"⟩, 11), (⟨"JustFivePounds$Text", "run", "(II)V"⟩, 7), (⟨"JustFivePounds$Text", "named", "(I)I"⟩, 7), (⟨"JustFivePounds$Text", "push", "(I)V"⟩, 7)]
theorem lw_r1 : ∀ q ∈ lw_privs_1, lw_okq q := List.forall_mem_cons.mpr ⟨lw_p0, List.forall_mem_cons.mpr ⟨lw_p1, List.forall_mem_cons.mpr ⟨lw_p2, List.forall_mem_cons.mpr ⟨lw_p3, List.forall_mem_cons.mpr ⟨lw_p4, List.forall_mem_cons.mpr ⟨lw_p5, List.forall_mem_cons.mpr ⟨lw_p6, List.forall_mem_cons.mpr ⟨lw_p7, List.forall_mem_cons.mpr ⟨lw_p8, List.forall_mem_cons.mpr ⟨lw_p9, List.forall_mem_cons.mpr ⟨lw_p10, List.forall_mem_cons.mpr ⟨lw_p11, List.forall_mem_cons.mpr ⟨lw_p12, List.forall_mem_cons.mpr ⟨lw_p13, List.forall_mem_cons.mpr ⟨lw_p14, List.forall_mem_cons.mpr ⟨lw_p15, fun _ h => absurd h List.not_mem_nil⟩⟩⟩⟩⟩⟩⟩⟩⟩⟩⟩⟩⟩⟩⟩⟩
theorem lw_p16 : lw_okq (⟨"JustFivePounds$Text", "pop", "()I"⟩, 7) := ⟨⟨by decide +kernel, by decide +kernel⟩, List.mem_of_getElem? (i := 180) (by decide +kernel), List.mem_of_getElem? (i := 454) (by decide +kernel), List.mem_of_getElem? (i := 455) (by decide +kernel)⟩
theorem lw_p17 : lw_okq (⟨"JustFivePounds", "handAt", "(I)LJustFivePounds$Hand;"⟩, 11) := ⟨⟨by decide +kernel, by decide +kernel⟩, List.mem_of_getElem? (i := 16) (by decide +kernel), List.mem_of_getElem? (i := 483) (by decide +kernel), List.mem_of_getElem? (i := 484) (by decide +kernel)⟩
theorem lw_p18 : lw_okq (⟨"JustFivePounds", "think", "(LJustFivePounds$Hand;)V"⟩, 11) := ⟨⟨by decide +kernel, by decide +kernel⟩, List.mem_of_getElem? (i := 16) (by decide +kernel), List.mem_of_getElem? (i := 495) (by decide +kernel), List.mem_of_getElem? (i := 496) (by decide +kernel)⟩
theorem lw_p19 : lw_okq (⟨"JustFivePounds$Stop", "press", "(LJustFivePounds$Hand;LJustFivePounds$Text;LJustFivePounds$State;II)V"⟩, 7) := ⟨⟨by decide +kernel, by decide +kernel⟩, List.mem_of_getElem? (i := 133) (by decide +kernel), List.mem_of_getElem? (i := 503) (by decide +kernel), List.mem_of_getElem? (i := 504) (by decide +kernel)⟩
theorem lw_p20 : lw_okq (⟨"JustFivePounds$Stop", "touch", "(LJustFivePounds$Hand;LJustFivePounds$State;I)V"⟩, 7) := ⟨⟨by decide +kernel, by decide +kernel⟩, List.mem_of_getElem? (i := 133) (by decide +kernel), List.mem_of_getElem? (i := 530) (by decide +kernel), List.mem_of_getElem? (i := 531) (by decide +kernel)⟩
theorem lw_p21 : lw_okq (⟨"JustFivePounds", "costsOf", "(LJustFivePounds$Hand;I)J"⟩, 11) := ⟨⟨by decide +kernel, by decide +kernel⟩, List.mem_of_getElem? (i := 16) (by decide +kernel), List.mem_of_getElem? (i := 582) (by decide +kernel), List.mem_of_getElem? (i := 583) (by decide +kernel)⟩
theorem lw_p22 : lw_okq (⟨"JustFivePounds", "worth", "(LJustFivePounds$Hand;I)J"⟩, 11) := ⟨⟨by decide +kernel, by decide +kernel⟩, List.mem_of_getElem? (i := 16) (by decide +kernel), List.mem_of_getElem? (i := 618) (by decide +kernel), List.mem_of_getElem? (i := 619) (by decide +kernel)⟩
theorem lw_p23 : lw_okq (⟨"JustFivePounds", "sheetAt", "(I)LJustFivePounds$Sheet;"⟩, 11) := ⟨⟨by decide +kernel, by decide +kernel⟩, List.mem_of_getElem? (i := 16) (by decide +kernel), List.mem_of_getElem? (i := 675) (by decide +kernel), List.mem_of_getElem? (i := 676) (by decide +kernel)⟩
theorem lw_p24 : lw_okq (⟨"JustFivePounds", "firstUnlikely", "(LJustFivePounds$Sheet;LJustFivePounds$Hand;LJustFivePounds$Text;)I"⟩, 11) := ⟨⟨by decide +kernel, by decide +kernel⟩, List.mem_of_getElem? (i := 16) (by decide +kernel), List.mem_of_getElem? (i := 682) (by decide +kernel), List.mem_of_getElem? (i := 683) (by decide +kernel)⟩
theorem lw_p25 : lw_okq (⟨"JustFivePounds", "partsBy", "(LJustFivePounds$Sheet;LJustFivePounds$Hand;LJustFivePounds$Text;)J"⟩, 11) := ⟨⟨by decide +kernel, by decide +kernel⟩, List.mem_of_getElem? (i := 16) (by decide +kernel), List.mem_of_getElem? (i := 695) (by decide +kernel), List.mem_of_getElem? (i := 696) (by decide +kernel)⟩
theorem lw_p26 : lw_okq (⟨"JustFivePoundsModel", "goesNext", "()V"⟩, 36) := ⟨⟨by decide +kernel, by decide +kernel⟩, List.mem_of_getElem? (i := 810) (by decide +kernel), List.mem_of_getElem? (i := 820) (by decide +kernel), List.mem_of_getElem? (i := 821) (by decide +kernel)⟩
theorem lw_p27 : lw_okq (⟨"JustFivePoundsModel", "wordFrom", "(II)I"⟩, 36) := ⟨⟨by decide +kernel, by decide +kernel⟩, List.mem_of_getElem? (i := 810) (by decide +kernel), List.mem_of_getElem? (i := 827) (by decide +kernel), List.mem_of_getElem? (i := 828) (by decide +kernel)⟩
theorem lw_p28 : lw_okq (⟨"JustFivePoundsModel", "eRead", "()Z"⟩, 36) := ⟨⟨by decide +kernel, by decide +kernel⟩, List.mem_of_getElem? (i := 810) (by decide +kernel), List.mem_of_getElem? (i := 831) (by decide +kernel), List.mem_of_getElem? (i := 832) (by decide +kernel)⟩
theorem lw_p29 : lw_okq (⟨"JustFivePoundsModel", "puts", "(I)V"⟩, 36) := ⟨⟨by decide +kernel, by decide +kernel⟩, List.mem_of_getElem? (i := 810) (by decide +kernel), List.mem_of_getElem? (i := 836) (by decide +kernel), List.mem_of_getElem? (i := 837) (by decide +kernel)⟩
theorem lw_p30 : lw_okq (⟨"JustFivePoundsModel", "unwinds", "(I)V"⟩, 36) := ⟨⟨by decide +kernel, by decide +kernel⟩, List.mem_of_getElem? (i := 810) (by decide +kernel), List.mem_of_getElem? (i := 840) (by decide +kernel), List.mem_of_getElem? (i := 841) (by decide +kernel)⟩
theorem lw_p31 : lw_okq (⟨"JustFivePoundsModel", "opensOne", "(I)Z"⟩, 36) := ⟨⟨by decide +kernel, by decide +kernel⟩, List.mem_of_getElem? (i := 810) (by decide +kernel), List.mem_of_getElem? (i := 847) (by decide +kernel), List.mem_of_getElem? (i := 848) (by decide +kernel)⟩
def lw_privs_2 : List (MethodName × Nat) := [(⟨"JustFivePounds$Text", "pop", "()I"⟩, 7), (⟨"JustFivePounds", "handAt", "(I)LJustFivePounds$Hand;"⟩, 11), (⟨"JustFivePounds", "think", "(LJustFivePounds$Hand;)V"⟩, 11), (⟨"JustFivePounds$Stop", "press", "(LJustFivePounds$Hand;LJustFivePounds$Text;LJustFivePounds$State;II)V"⟩, 7), (⟨"JustFivePounds$Stop", "touch", "(LJustFivePounds$Hand;LJustFivePounds$State;I)V"⟩, 7), (⟨"JustFivePounds", "costsOf", "(LJustFivePounds$Hand;I)J"⟩, 11), (⟨"JustFivePounds", "worth", "(LJustFivePounds$Hand;I)J"⟩, 11), (⟨"JustFivePounds", "sheetAt", "(I)LJustFivePounds$Sheet;"⟩, 11), (⟨"JustFivePounds", "firstUnlikely", "(LJustFivePounds$Sheet;LJustFivePounds$Hand;LJustFivePounds$Text;)I"⟩, 11), (⟨"JustFivePounds", "partsBy", "(LJustFivePounds$Sheet;LJustFivePounds$Hand;LJustFivePounds$Text;)J"⟩, 11), (⟨"JustFivePoundsModel", "goesNext", "()V"⟩, 36), (⟨"JustFivePoundsModel", "wordFrom", "(II)I"⟩, 36), (⟨"JustFivePoundsModel", "eRead", "()Z"⟩, 36), (⟨"JustFivePoundsModel", "puts", "(I)V"⟩, 36), (⟨"JustFivePoundsModel", "unwinds", "(I)V"⟩, 36), (⟨"JustFivePoundsModel", "opensOne", "(I)Z"⟩, 36)]
theorem lw_r2 : ∀ q ∈ lw_privs_2, lw_okq q := List.forall_mem_cons.mpr ⟨lw_p16, List.forall_mem_cons.mpr ⟨lw_p17, List.forall_mem_cons.mpr ⟨lw_p18, List.forall_mem_cons.mpr ⟨lw_p19, List.forall_mem_cons.mpr ⟨lw_p20, List.forall_mem_cons.mpr ⟨lw_p21, List.forall_mem_cons.mpr ⟨lw_p22, List.forall_mem_cons.mpr ⟨lw_p23, List.forall_mem_cons.mpr ⟨lw_p24, List.forall_mem_cons.mpr ⟨lw_p25, List.forall_mem_cons.mpr ⟨lw_p26, List.forall_mem_cons.mpr ⟨lw_p27, List.forall_mem_cons.mpr ⟨lw_p28, List.forall_mem_cons.mpr ⟨lw_p29, List.forall_mem_cons.mpr ⟨lw_p30, List.forall_mem_cons.mpr ⟨lw_p31, fun _ h => absurd h List.not_mem_nil⟩⟩⟩⟩⟩⟩⟩⟩⟩⟩⟩⟩⟩⟩⟩⟩
theorem lw_p32 : lw_okq (⟨"JustFivePoundsModel", "holds", "(I)V"⟩, 36) := ⟨⟨by decide +kernel, by decide +kernel⟩, List.mem_of_getElem? (i := 810) (by decide +kernel), List.mem_of_getElem? (i := 851) (by decide +kernel), List.mem_of_getElem? (i := 852) (by decide +kernel)⟩
theorem lw_p33 : lw_okq (⟨"JustFivePoundsModel", "signOf", "()I"⟩, 36) := ⟨⟨by decide +kernel, by decide +kernel⟩, List.mem_of_getElem? (i := 810) (by decide +kernel), List.mem_of_getElem? (i := 855) (by decide +kernel), List.mem_of_getElem? (i := 856) (by decide +kernel)⟩
theorem lw_p34 : lw_okq (⟨"JustFivePoundsModel", "between", "(I)Z"⟩, 36) := ⟨⟨by decide +kernel, by decide +kernel⟩, List.mem_of_getElem? (i := 810) (by decide +kernel), List.mem_of_getElem? (i := 859) (by decide +kernel), List.mem_of_getElem? (i := 860) (by decide +kernel)⟩
theorem lw_p35 : lw_okq (⟨"JustFivePoundsModel", "asksOf", "(IIIIII)I"⟩, 36) := ⟨⟨by decide +kernel, by decide +kernel⟩, List.mem_of_getElem? (i := 810) (by decide +kernel), List.mem_of_getElem? (i := 996) (by decide +kernel), List.mem_of_getElem? (i := 997) (by decide +kernel)⟩
theorem lw_p36 : lw_okq (⟨"JustFivePoundsModel", "says", "(I)I"⟩, 36) := ⟨⟨by decide +kernel, by decide +kernel⟩, List.mem_of_getElem? (i := 810) (by decide +kernel), List.mem_of_getElem? (i := 1000) (by decide +kernel), List.mem_of_getElem? (i := 1001) (by decide +kernel)⟩
theorem lw_p37 : lw_okq (⟨"JustFivePoundsModel", "isHand", "(I)Z"⟩, 36) := ⟨⟨by decide +kernel, by decide +kernel⟩, List.mem_of_getElem? (i := 810) (by decide +kernel), List.mem_of_getElem? (i := 1018) (by decide +kernel), List.mem_of_getElem? (i := 1019) (by decide +kernel)⟩
theorem lw_p38 : lw_okq (⟨"JustFivePoundsModel", "goes", "(I)V"⟩, 36) := ⟨⟨by decide +kernel, by decide +kernel⟩, List.mem_of_getElem? (i := 810) (by decide +kernel), List.mem_of_getElem? (i := 1030) (by decide +kernel), List.mem_of_getElem? (i := 1031) (by decide +kernel)⟩
theorem lw_p39 : lw_okq (⟨"JustFivePoundsModel", "stopsFrom", "(III)V"⟩, 36) := ⟨⟨by decide +kernel, by decide +kernel⟩, List.mem_of_getElem? (i := 810) (by decide +kernel), List.mem_of_getElem? (i := 1034) (by decide +kernel), List.mem_of_getElem? (i := 1035) (by decide +kernel)⟩
theorem lw_p40 : lw_okq (⟨"JustFivePoundsModel", "fullAt", "(I)I"⟩, 36) := ⟨⟨by decide +kernel, by decide +kernel⟩, List.mem_of_getElem? (i := 810) (by decide +kernel), List.mem_of_getElem? (i := 1038) (by decide +kernel), List.mem_of_getElem? (i := 1039) (by decide +kernel)⟩
theorem lw_p41 : lw_okq (⟨"JustFivePoundsModel", "notchFor", "(II)I"⟩, 36) := ⟨⟨by decide +kernel, by decide +kernel⟩, List.mem_of_getElem? (i := 810) (by decide +kernel), List.mem_of_getElem? (i := 1042) (by decide +kernel), List.mem_of_getElem? (i := 1043) (by decide +kernel)⟩
theorem lw_p42 : lw_okq (⟨"JustFivePoundsModel", "runsBy", "(II)I"⟩, 36) := ⟨⟨by decide +kernel, by decide +kernel⟩, List.mem_of_getElem? (i := 810) (by decide +kernel), List.mem_of_getElem? (i := 1046) (by decide +kernel), List.mem_of_getElem? (i := 1047) (by decide +kernel)⟩
theorem lw_p43 : lw_okq (⟨"JustFivePoundsModel", "oftenOf", "(II)I"⟩, 36) := ⟨⟨by decide +kernel, by decide +kernel⟩, List.mem_of_getElem? (i := 810) (by decide +kernel), List.mem_of_getElem? (i := 1050) (by decide +kernel), List.mem_of_getElem? (i := 1051) (by decide +kernel)⟩
theorem lw_p44 : lw_okq (⟨"JustFivePoundsModel", "endsSo", "(IIIII)V"⟩, 36) := ⟨⟨by decide +kernel, by decide +kernel⟩, List.mem_of_getElem? (i := 810) (by decide +kernel), List.mem_of_getElem? (i := 1054) (by decide +kernel), List.mem_of_getElem? (i := 1055) (by decide +kernel)⟩
theorem lw_p45 : lw_okq (⟨"JustFivePoundsModel", "touchOf", "(II)I"⟩, 36) := ⟨⟨by decide +kernel, by decide +kernel⟩, List.mem_of_getElem? (i := 810) (by decide +kernel), List.mem_of_getElem? (i := 1058) (by decide +kernel), List.mem_of_getElem? (i := 1059) (by decide +kernel)⟩
theorem lw_p46 : lw_okq (⟨"JustFivePoundsModel", "costsBy", "(II)J"⟩, 36) := ⟨⟨by decide +kernel, by decide +kernel⟩, List.mem_of_getElem? (i := 810) (by decide +kernel), List.mem_of_getElem? (i := 1074) (by decide +kernel), List.mem_of_getElem? (i := 1075) (by decide +kernel)⟩
theorem lw_p47 : lw_okq (⟨"JustFivePoundsModel", "costOf", "(III)I"⟩, 36) := ⟨⟨by decide +kernel, by decide +kernel⟩, List.mem_of_getElem? (i := 810) (by decide +kernel), List.mem_of_getElem? (i := 1078) (by decide +kernel), List.mem_of_getElem? (i := 1079) (by decide +kernel)⟩
def lw_privs_3 : List (MethodName × Nat) := [(⟨"JustFivePoundsModel", "holds", "(I)V"⟩, 36), (⟨"JustFivePoundsModel", "signOf", "()I"⟩, 36), (⟨"JustFivePoundsModel", "between", "(I)Z"⟩, 36), (⟨"JustFivePoundsModel", "asksOf", "(IIIIII)I"⟩, 36), (⟨"JustFivePoundsModel", "says", "(I)I"⟩, 36), (⟨"JustFivePoundsModel", "isHand", "(I)Z"⟩, 36), (⟨"JustFivePoundsModel", "goes", "(I)V"⟩, 36), (⟨"JustFivePoundsModel", "stopsFrom", "(III)V"⟩, 36), (⟨"JustFivePoundsModel", "fullAt", "(I)I"⟩, 36), (⟨"JustFivePoundsModel", "notchFor", "(II)I"⟩, 36), (⟨"JustFivePoundsModel", "runsBy", "(II)I"⟩, 36), (⟨"JustFivePoundsModel", "oftenOf", "(II)I"⟩, 36), (⟨"JustFivePoundsModel", "endsSo", "(IIIII)V"⟩, 36), (⟨"JustFivePoundsModel", "touchOf", "(II)I"⟩, 36), (⟨"JustFivePoundsModel", "costsBy", "(II)J"⟩, 36), (⟨"JustFivePoundsModel", "costOf", "(III)I"⟩, 36)]
theorem lw_r3 : ∀ q ∈ lw_privs_3, lw_okq q := List.forall_mem_cons.mpr ⟨lw_p32, List.forall_mem_cons.mpr ⟨lw_p33, List.forall_mem_cons.mpr ⟨lw_p34, List.forall_mem_cons.mpr ⟨lw_p35, List.forall_mem_cons.mpr ⟨lw_p36, List.forall_mem_cons.mpr ⟨lw_p37, List.forall_mem_cons.mpr ⟨lw_p38, List.forall_mem_cons.mpr ⟨lw_p39, List.forall_mem_cons.mpr ⟨lw_p40, List.forall_mem_cons.mpr ⟨lw_p41, List.forall_mem_cons.mpr ⟨lw_p42, List.forall_mem_cons.mpr ⟨lw_p43, List.forall_mem_cons.mpr ⟨lw_p44, List.forall_mem_cons.mpr ⟨lw_p45, List.forall_mem_cons.mpr ⟨lw_p46, List.forall_mem_cons.mpr ⟨lw_p47, fun _ h => absurd h List.not_mem_nil⟩⟩⟩⟩⟩⟩⟩⟩⟩⟩⟩⟩⟩⟩⟩⟩
theorem lw_p48 : lw_okq (⟨"JustFivePoundsModel", "tenthsOfAll", "()J"⟩, 36) := ⟨⟨by decide +kernel, by decide +kernel⟩, List.mem_of_getElem? (i := 810) (by decide +kernel), List.mem_of_getElem? (i := 1086) (by decide +kernel), List.mem_of_getElem? (i := 1087) (by decide +kernel)⟩
theorem lw_p49 : lw_okq (⟨"JustFivePoundsModel", "oftenAt", "(I)J"⟩, 36) := ⟨⟨by decide +kernel, by decide +kernel⟩, List.mem_of_getElem? (i := 810) (by decide +kernel), List.mem_of_getElem? (i := 1094) (by decide +kernel), List.mem_of_getElem? (i := 1095) (by decide +kernel)⟩
theorem lw_p50 : lw_okq (⟨"JustFivePoundsModel", "aboveOf", "(II)J"⟩, 36) := ⟨⟨by decide +kernel, by decide +kernel⟩, List.mem_of_getElem? (i := 810) (by decide +kernel), List.mem_of_getElem? (i := 1102) (by decide +kernel), List.mem_of_getElem? (i := 1103) (by decide +kernel)⟩
theorem lw_p51 : lw_okq (⟨"JustFivePoundsModel", "changeOf", "(II)I"⟩, 36) := ⟨⟨by decide +kernel, by decide +kernel⟩, List.mem_of_getElem? (i := 810) (by decide +kernel), List.mem_of_getElem? (i := 1110) (by decide +kernel), List.mem_of_getElem? (i := 1111) (by decide +kernel)⟩
theorem lw_p52 : lw_okq (⟨"JustFivePoundsModel", "nextOf", "(I)I"⟩, 36) := ⟨⟨by decide +kernel, by decide +kernel⟩, List.mem_of_getElem? (i := 810) (by decide +kernel), List.mem_of_getElem? (i := 1122) (by decide +kernel), List.mem_of_getElem? (i := 1123) (by decide +kernel)⟩
theorem lw_p53 : lw_okq (⟨"JustFivePoundsModel", "isFirst", "(I)Z"⟩, 36) := ⟨⟨by decide +kernel, by decide +kernel⟩, List.mem_of_getElem? (i := 810) (by decide +kernel), List.mem_of_getElem? (i := 1149) (by decide +kernel), List.mem_of_getElem? (i := 1150) (by decide +kernel)⟩
theorem lw_p54 : lw_okq (⟨"JustFivePoundsModel", "toldWrong", "(II)I"⟩, 36) := ⟨⟨by decide +kernel, by decide +kernel⟩, List.mem_of_getElem? (i := 810) (by decide +kernel), List.mem_of_getElem? (i := 1157) (by decide +kernel), List.mem_of_getElem? (i := 1158) (by decide +kernel)⟩
theorem lw_p55 : lw_okq (⟨"JustFivePoundsModel", "unlikely", "(II)I"⟩, 36) := ⟨⟨by decide +kernel, by decide +kernel⟩, List.mem_of_getElem? (i := 810) (by decide +kernel), List.mem_of_getElem? (i := 1164) (by decide +kernel), List.mem_of_getElem? (i := 1165) (by decide +kernel)⟩
theorem lw_p56 : lw_okq (⟨"JustFivePoundsModel", "partsOf", "(II)J"⟩, 36) := ⟨⟨by decide +kernel, by decide +kernel⟩, List.mem_of_getElem? (i := 810) (by decide +kernel), List.mem_of_getElem? (i := 1172) (by decide +kernel), List.mem_of_getElem? (i := 1173) (by decide +kernel)⟩
theorem lw_p57 : lw_okq (⟨"JustFivePoundsModel", "lateBy", "(I)I"⟩, 36) := ⟨⟨by decide +kernel, by decide +kernel⟩, List.mem_of_getElem? (i := 810) (by decide +kernel), List.mem_of_getElem? (i := 1203) (by decide +kernel), List.mem_of_getElem? (i := 1204) (by decide +kernel)⟩
def lw_privs_4 : List (MethodName × Nat) := [(⟨"JustFivePoundsModel", "tenthsOfAll", "()J"⟩, 36), (⟨"JustFivePoundsModel", "oftenAt", "(I)J"⟩, 36), (⟨"JustFivePoundsModel", "aboveOf", "(II)J"⟩, 36), (⟨"JustFivePoundsModel", "changeOf", "(II)I"⟩, 36), (⟨"JustFivePoundsModel", "nextOf", "(I)I"⟩, 36), (⟨"JustFivePoundsModel", "isFirst", "(I)Z"⟩, 36), (⟨"JustFivePoundsModel", "toldWrong", "(II)I"⟩, 36), (⟨"JustFivePoundsModel", "unlikely", "(II)I"⟩, 36), (⟨"JustFivePoundsModel", "partsOf", "(II)J"⟩, 36), (⟨"JustFivePoundsModel", "lateBy", "(I)I"⟩, 36)]
theorem lw_r4 : ∀ q ∈ lw_privs_4, lw_okq q := List.forall_mem_cons.mpr ⟨lw_p48, List.forall_mem_cons.mpr ⟨lw_p49, List.forall_mem_cons.mpr ⟨lw_p50, List.forall_mem_cons.mpr ⟨lw_p51, List.forall_mem_cons.mpr ⟨lw_p52, List.forall_mem_cons.mpr ⟨lw_p53, List.forall_mem_cons.mpr ⟨lw_p54, List.forall_mem_cons.mpr ⟨lw_p55, List.forall_mem_cons.mpr ⟨lw_p56, List.forall_mem_cons.mpr ⟨lw_p57, fun _ h => absurd h List.not_mem_nil⟩⟩⟩⟩⟩⟩⟩⟩⟩⟩
def lw_privs : List (MethodName × Nat) := lw_privs_1 ++ (lw_privs_2 ++ (lw_privs_3 ++ (lw_privs_4)))
def lw_tbl : List Cond := k2_sels lw_privs ++ tables_1
theorem lw_privs_ok : ∀ q ∈ lw_privs, lw_okq q := by
  show ∀ q ∈ lw_privs_1 ++ (lw_privs_2 ++ (lw_privs_3 ++ (lw_privs_4))), lw_okq q
  exact List.forall_mem_append.mpr ⟨lw_r1, List.forall_mem_append.mpr ⟨lw_r2, List.forall_mem_append.mpr ⟨lw_r3, lw_r4⟩⟩⟩
def RX0 : String := "JustFivePounds$Best"
def TX0 : u_T := fun k => match k with
  | 0 => ("JustFivePounds$Best", "which", "I", false)
  | 1 => ("JustFivePounds$Best", "above", "J", false)
  | _ => ("JustFivePounds$Best", "below", "J", false)
def tyX0 : Nat → FieldType := fun k => match k with
  | 0 => .int
  | 1 => .long
  | _ => .long
theorem nmX0 : ∀ a, a < 3 → ∀ b, b < 3 → a ≠ b → (TX0 a).2.1 ≠ (TX0 b).2.1 := by decide +kernel
theorem tyX0_ok : ∀ k, k < 3 → parseFieldDescriptor (TX0 k).2.2.1 = some (tyX0 k) := by decide +kernel
def RX1 : String := "JustFivePounds$Hand"
def TX1 : u_T := fun k => match k with
  | 0 => ("JustFivePounds$Hand", "kind", "I", false)
  | 1 => ("JustFivePounds$Hand", "more", "I", false)
  | 2 => ("JustFivePounds$Hand", "ahead", "I", false)
  | 3 => ("JustFivePounds$Hand", "change", "I", false)
  | 4 => ("JustFivePounds$Hand", "keptAhead", "I", false)
  | _ => ("JustFivePounds$Hand", "keptChange", "I", false)
def tyX1 : Nat → FieldType := fun k => match k with
  | 0 => .int
  | 1 => .int
  | 2 => .int
  | 3 => .int
  | 4 => .int
  | _ => .int
theorem nmX1 : ∀ a, a < 6 → ∀ b, b < 6 → a ≠ b → (TX1 a).2.1 ≠ (TX1 b).2.1 := by decide +kernel
theorem tyX1_ok : ∀ k, k < 6 → parseFieldDescriptor (TX1 k).2.2.1 = some (tyX1 k) := by decide +kernel
def RX2 : String := "JustFivePounds$Sheet"
def TX2 : u_T := fun k => match k with
  | 0 => ("JustFivePounds$Sheet", "sort", "I", false)
  | 1 => ("JustFivePounds$Sheet", "size", "I", false)
  | _ => ("JustFivePounds$Sheet", "cells", "[I", true)
def tyX2 : Nat → FieldType := fun k => match k with
  | 0 => .int
  | 1 => .int
  | _ => .array .int
theorem nmX2 : ∀ a, a < 3 → ∀ b, b < 3 → a ≠ b → (TX2 a).2.1 ≠ (TX2 b).2.1 := by decide +kernel
theorem tyX2_ok : ∀ k, k < 3 → parseFieldDescriptor (TX2 k).2.2.1 = some (tyX2 k) := by decide +kernel
def RX3 : String := "JustFivePounds$State"
def TX3 : u_T := fun k => match k with
  | 0 => ("JustFivePounds$State", "mark", "I", false)
  | 1 => ("JustFivePounds$State", "drips", "I", false)
  | 2 => ("JustFivePounds$State", "price", "I", false)
  | 3 => ("JustFivePounds$State", "fullAt", "I", false)
  | 4 => ("JustFivePounds$State", "slips", "I", false)
  | 5 => ("JustFivePounds$State", "just", "I", false)
  | 6 => ("JustFivePounds$State", "spent", "I", false)
  | 7 => ("JustFivePounds$State", "hands", "I", false)
  | _ => ("JustFivePounds$State", "law", "I", false)
def tyX3 : Nat → FieldType := fun k => match k with
  | 0 => .int
  | 1 => .int
  | 2 => .int
  | 3 => .int
  | 4 => .int
  | 5 => .int
  | 6 => .int
  | 7 => .int
  | _ => .int
theorem nmX3 : ∀ a, a < 9 → ∀ b, b < 9 → a ≠ b → (TX3 a).2.1 ≠ (TX3 b).2.1 := by decide +kernel
theorem tyX3_ok : ∀ k, k < 9 → parseFieldDescriptor (TX3 k).2.2.1 = some (tyX3 k) := by decide +kernel
def RX4 : String := "JustFivePounds$Stop"
def TX4 : u_T := fun k => match k with
  | 0 => ("JustFivePounds$Stop", "ends", "[I", true)
  | 1 => ("JustFivePounds$Stop", "tenths", "[I", true)
  | 2 => ("JustFivePounds$Stop", "often", "[I", true)
  | 3 => ("JustFivePounds$Stop", "all", "I", false)
  | 4 => ("JustFivePounds$Stop", "notch", "I", false)
  | 5 => ("JustFivePounds$Stop", "sum", "I", false)
  | _ => ("JustFivePounds$Stop", "past", "I", false)
def tyX4 : Nat → FieldType := fun k => match k with
  | 0 => .array .int
  | 1 => .array .int
  | 2 => .array .int
  | 3 => .int
  | 4 => .int
  | 5 => .int
  | _ => .int
theorem nmX4 : ∀ a, a < 7 → ∀ b, b < 7 → a ≠ b → (TX4 a).2.1 ≠ (TX4 b).2.1 := by decide +kernel
theorem tyX4_ok : ∀ k, k < 7 → parseFieldDescriptor (TX4 k).2.2.1 = some (tyX4 k) := by decide +kernel
def RX5 : String := "JustFivePounds$Tape"
def TX5 : u_T := fun k => match k with
  | 0 => ("JustFivePounds$Tape", "bytes", "[I", true)
  | 1 => ("JustFivePounds$Tape", "size", "I", false)
  | 2 => ("JustFivePounds$Tape", "place", "I", false)
  | 3 => ("JustFivePounds$Tape", "token", "I", false)
  | 4 => ("JustFivePounds$Tape", "tokenPlace", "I", false)
  | _ => ("JustFivePounds$Tape", "number", "I", false)
def tyX5 : Nat → FieldType := fun k => match k with
  | 0 => .array .int
  | 1 => .int
  | 2 => .int
  | 3 => .int
  | 4 => .int
  | _ => .int
theorem nmX5 : ∀ a, a < 6 → ∀ b, b < 6 → a ≠ b → (TX5 a).2.1 ≠ (TX5 b).2.1 := by decide +kernel
theorem tyX5_ok : ∀ k, k < 6 → parseFieldDescriptor (TX5 k).2.2.1 = some (tyX5 k) := by decide +kernel
def RX6 : String := "JustFivePounds$Text"
def TX6 : u_T := fun k => match k with
  | 0 => ("JustFivePounds$Text", "steps", "[I", true)
  | 1 => ("JustFivePounds$Text", "values", "[I", true)
  | 2 => ("JustFivePounds$Text", "stack", "[I", true)
  | 3 => ("JustFivePounds$Text", "partEnds", "[I", true)
  | 4 => ("JustFivePounds$Text", "names", "[I", true)
  | 5 => ("JustFivePounds$Text", "size", "I", false)
  | _ => ("JustFivePounds$Text", "top", "I", false)
def tyX6 : Nat → FieldType := fun k => match k with
  | 0 => .array .int
  | 1 => .array .int
  | 2 => .array .int
  | 3 => .array .int
  | 4 => .array .int
  | 5 => .int
  | _ => .int
theorem nmX6 : ∀ a, a < 7 → ∀ b, b < 7 → a ≠ b → (TX6 a).2.1 ≠ (TX6 b).2.1 := by decide +kernel
theorem tyX6_ok : ∀ k, k < 7 → parseFieldDescriptor (TX6 k).2.2.1 = some (tyX6 k) := by decide +kernel
def RX7 : String := "JustFivePounds"
def TX7 : u_T := fun k => match k with
  | 0 => ("JustFivePounds", "now", "LJustFivePounds$State;", true)
  | 1 => ("JustFivePounds", "kept", "LJustFivePounds$State;", true)
  | 2 => ("JustFivePounds", "imageKept", "Z", false)
  | 3 => ("JustFivePounds", "hands", "[LJustFivePounds$Hand;", true)
  | 4 => ("JustFivePounds", "trial", "LJustFivePounds$Hand;", true)
  | 5 => ("JustFivePounds", "texts", "[LJustFivePounds$Text;", true)
  | 6 => ("JustFivePounds", "textCount", "I", false)
  | 7 => ("JustFivePounds", "tape", "LJustFivePounds$Tape;", true)
  | 8 => ("JustFivePounds", "sheets", "[LJustFivePounds$Sheet;", true)
  | 9 => ("JustFivePounds", "stop", "LJustFivePounds$Stop;", true)
  | _ => ("JustFivePounds", "best", "LJustFivePounds$Best;", true)
def tyX7 : Nat → FieldType := fun k => match k with
  | 0 => .object "JustFivePounds$State"
  | 1 => .object "JustFivePounds$State"
  | 2 => .boolean
  | 3 => .array (.object "JustFivePounds$Hand")
  | 4 => .object "JustFivePounds$Hand"
  | 5 => .array (.object "JustFivePounds$Text")
  | 6 => .int
  | 7 => .object "JustFivePounds$Tape"
  | 8 => .array (.object "JustFivePounds$Sheet")
  | 9 => .object "JustFivePounds$Stop"
  | _ => .object "JustFivePounds$Best"
theorem nmX7 : ∀ a, a < 11 → ∀ b, b < 11 → a ≠ b → (TX7 a).2.1 ≠ (TX7 b).2.1 := by decide +kernel
theorem tyX7_ok : ∀ k, k < 11 → parseFieldDescriptor (TX7 k).2.2.1 = some (tyX7 k) := by decide +kernel
def RX8 : String := "JustFivePoundsModel"
def TX8 : u_T := fun k => match k with
  | 0 => ("JustFivePoundsModel", "pump", "[I", true)
  | 1 => ("JustFivePoundsModel", "hands", "I", false)
  | 2 => ("JustFivePoundsModel", "kind", "[I", true)
  | 3 => ("JustFivePoundsModel", "moreOf", "[I", true)
  | 4 => ("JustFivePoundsModel", "trained", "[I", true)
  | 5 => ("JustFivePoundsModel", "booked", "[I", true)
  | 6 => ("JustFivePoundsModel", "tape", "[I", true)
  | 7 => ("JustFivePoundsModel", "taped", "I", false)
  | 8 => ("JustFivePoundsModel", "codes", "[I", true)
  | 9 => ("JustFivePoundsModel", "starts", "[I", true)
  | 10 => ("JustFivePoundsModel", "texts", "I", false)
  | 11 => ("JustFivePoundsModel", "rule", "I", false)
  | 12 => ("JustFivePoundsModel", "hasImage", "Z", false)
  | 13 => ("JustFivePoundsModel", "imageHands", "I", false)
  | 14 => ("JustFivePoundsModel", "imageRule", "I", false)
  | 15 => ("JustFivePoundsModel", "imageRows", "[I", true)
  | 16 => ("JustFivePoundsModel", "sheetSort", "[I", true)
  | 17 => ("JustFivePoundsModel", "sheetSize", "[I", true)
  | 18 => ("JustFivePoundsModel", "cells", "[I", true)
  | 19 => ("JustFivePoundsModel", "law", "[I", true)
  | 20 => ("JustFivePoundsModel", "at", "I", false)
  | 21 => ("JustFivePoundsModel", "begun", "I", false)
  | 22 => ("JustFivePoundsModel", "token", "I", false)
  | 23 => ("JustFivePoundsModel", "value", "I", false)
  | 24 => ("JustFivePoundsModel", "words", "[I", true)
  | 25 => ("JustFivePoundsModel", "held", "[I", true)
  | 26 => ("JustFivePoundsModel", "heldMany", "I", false)
  | 27 => ("JustFivePoundsModel", "opens", "I", false)
  | 28 => ("JustFivePoundsModel", "out", "I", false)
  | 29 => ("JustFivePoundsModel", "stack", "[I", true)
  | 30 => ("JustFivePoundsModel", "named", "[I", true)
  | 31 => ("JustFivePoundsModel", "ends0", "[I", true)
  | 32 => ("JustFivePoundsModel", "tenths0", "[I", true)
  | 33 => ("JustFivePoundsModel", "oftens", "[I", true)
  | 34 => ("JustFivePoundsModel", "allOften", "I", false)
  | _ => ("JustFivePoundsModel", "lastNotch", "I", false)
def tyX8 : Nat → FieldType := fun k => match k with
  | 0 => .array .int
  | 1 => .int
  | 2 => .array .int
  | 3 => .array .int
  | 4 => .array .int
  | 5 => .array .int
  | 6 => .array .int
  | 7 => .int
  | 8 => .array .int
  | 9 => .array .int
  | 10 => .int
  | 11 => .int
  | 12 => .boolean
  | 13 => .int
  | 14 => .int
  | 15 => .array .int
  | 16 => .array .int
  | 17 => .array .int
  | 18 => .array .int
  | 19 => .array .int
  | 20 => .int
  | 21 => .int
  | 22 => .int
  | 23 => .int
  | 24 => .array .int
  | 25 => .array .int
  | 26 => .int
  | 27 => .int
  | 28 => .int
  | 29 => .array .int
  | 30 => .array .int
  | 31 => .array .int
  | 32 => .array .int
  | 33 => .array .int
  | 34 => .int
  | _ => .int
theorem nmX8 : ∀ a, a < 36 → ∀ b, b < 36 → a ≠ b → (TX8 a).2.1 ≠ (TX8 b).2.1 := by decide +kernel
theorem tyX8_ok : ∀ k, k < 36 → parseFieldDescriptor (TX8 k).2.2.1 = some (tyX8 k) := by decide +kernel
def RJ9 : String := "java/lang/Math"
def RJ0 : String := "java/lang/String"
def RJ1 : String := "java/lang/StringLatin1"
def RJ2 : String := "java/lang/StringUTF16"
def RJ3 : String := "jdk/internal/util/Preconditions"
def RL : String := "JustFivePoundsLaw"
abbrev vwCl : List vw_C := [(RX0, TX0, 3), (RX1, TX1, 6), (RX2, TX2, 3), (RX3, TX3, 9), (RX4, TX4, 7), (RX5, TX5, 6), (RX6, TX6, 7), (RX7, TX7, 11), (RX8, TX8, 36)]
