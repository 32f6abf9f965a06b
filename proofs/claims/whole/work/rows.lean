section
-- ===== PART A: goes FIRST, ahead of the names: the tables' words, and 'selects' of the private methods out of them =====
/-- a private method of a class that the tables say can be made, by its rows of tables_1 -/
def lw_okq (q : MethodName × Nat) : Prop := (q.1.cls ≠ "java/lang/invoke/MethodHandle" ∧ q.1.cls ≠ "java/lang/invoke/VarHandle") ∧ Cond.instantiable q.1.cls q.2 ∈ tables_1 ∧ Cond.privateMethod q.1 ∈ tables_1 ∧ Cond.instanceMethod q.1 ∈ tables_1
theorem lw_p0 : lw_okq (⟨"VariantDesk$GenomeReader", "take", "(I)Z"⟩, 11) := ⟨⟨by decide +kernel, by decide +kernel⟩, List.mem_of_getElem? (i := 311) (by decide +kernel), List.mem_of_getElem? (i := 369) (by decide +kernel), List.mem_of_getElem? (i := 370) (by decide +kernel)⟩
theorem lw_p1 : lw_okq (⟨"VariantDesk$GenomeReader", "takeInName", "(I)Z"⟩, 11) := ⟨⟨by decide +kernel, by decide +kernel⟩, List.mem_of_getElem? (i := 311) (by decide +kernel), List.mem_of_getElem? (i := 373) (by decide +kernel), List.mem_of_getElem? (i := 374) (by decide +kernel)⟩
theorem lw_p2 : lw_okq (⟨"VariantDesk$GenomeReader", "fail", "(I)Z"⟩, 11) := ⟨⟨by decide +kernel, by decide +kernel⟩, List.mem_of_getElem? (i := 311) (by decide +kernel), List.mem_of_getElem? (i := 380) (by decide +kernel), List.mem_of_getElem? (i := 381) (by decide +kernel)⟩
theorem lw_p3 : lw_okq (⟨"VariantDesk$GenomeReader", "endNameLine", "()Z"⟩, 11) := ⟨⟨by decide +kernel, by decide +kernel⟩, List.mem_of_getElem? (i := 311) (by decide +kernel), List.mem_of_getElem? (i := 388) (by decide +kernel), List.mem_of_getElem? (i := 389) (by decide +kernel)⟩
theorem lw_p4 : lw_okq (⟨"VariantDesk$Names", "isName", "(ILVariantDesk$Names;I)Z"⟩, 4) := ⟨⟨by decide +kernel, by decide +kernel⟩, List.mem_of_getElem? (i := 60) (by decide +kernel), List.mem_of_getElem? (i := 396) (by decide +kernel), List.mem_of_getElem? (i := 397) (by decide +kernel)⟩
theorem lw_p5 : lw_okq (⟨"VariantDesk$GenomeReader", "takeInRemark", "(I)Z"⟩, 11) := ⟨⟨by decide +kernel, by decide +kernel⟩, List.mem_of_getElem? (i := 311) (by decide +kernel), List.mem_of_getElem? (i := 400) (by decide +kernel), List.mem_of_getElem? (i := 401) (by decide +kernel)⟩
theorem lw_p6 : lw_okq (⟨"VariantDesk$GenomeReader", "takeInLetters", "(I)Z"⟩, 11) := ⟨⟨by decide +kernel, by decide +kernel⟩, List.mem_of_getElem? (i := 311) (by decide +kernel), List.mem_of_getElem? (i := 404) (by decide +kernel), List.mem_of_getElem? (i := 405) (by decide +kernel)⟩
theorem lw_p7 : lw_okq (⟨"VariantDesk$GenomeReader", "endLetterLine", "()V"⟩, 11) := ⟨⟨by decide +kernel, by decide +kernel⟩, List.mem_of_getElem? (i := 311) (by decide +kernel), List.mem_of_getElem? (i := 408) (by decide +kernel), List.mem_of_getElem? (i := 409) (by decide +kernel)⟩
theorem lw_p8 : lw_okq (⟨"VariantDesk$GenomeReader", "takeLetter", "(I)Z"⟩, 11) := ⟨⟨by decide +kernel, by decide +kernel⟩, List.mem_of_getElem? (i := 311) (by decide +kernel), List.mem_of_getElem? (i := 419) (by decide +kernel), List.mem_of_getElem? (i := 420) (by decide +kernel)⟩
theorem lw_p9 : lw_okq (⟨"VariantDesk$GenomeReader", "takeAtLineStart", "(I)Z"⟩, 11) := ⟨⟨by decide +kernel, by decide +kernel⟩, List.mem_of_getElem? (i := 311) (by decide +kernel), List.mem_of_getElem? (i := 427) (by decide +kernel), List.mem_of_getElem? (i := 428) (by decide +kernel)⟩
theorem lw_p10 : lw_okq (⟨"VariantDesk$GenomeReader", "openSequence", "()Z"⟩, 11) := ⟨⟨by decide +kernel, by decide +kernel⟩, List.mem_of_getElem? (i := 311) (by decide +kernel), List.mem_of_getElem? (i := 431) (by decide +kernel), List.mem_of_getElem? (i := 432) (by decide +kernel)⟩
theorem lw_p11 : lw_okq (⟨"VariantDesk$Sheet", "firstFreeLike", "(LVariantDesk$Entry;)I"⟩, 3) := ⟨⟨by decide +kernel, by decide +kernel⟩, List.mem_of_getElem? (i := 121) (by decide +kernel), List.mem_of_getElem? (i := 473) (by decide +kernel), List.mem_of_getElem? (i := 474) (by decide +kernel)⟩
theorem lw_p12 : lw_okq (⟨"VariantDesk$Sheet", "sinkToPlace", "(I)V"⟩, 3) := ⟨⟨by decide +kernel, by decide +kernel⟩, List.mem_of_getElem? (i := 121) (by decide +kernel), List.mem_of_getElem? (i := 528) (by decide +kernel), List.mem_of_getElem? (i := 529) (by decide +kernel)⟩
theorem lw_p13 : lw_okq (⟨"VariantDesk$Haplotype", "moved", "(I[I[I[I[I)I"⟩, 9) := ⟨⟨by decide +kernel, by decide +kernel⟩, List.mem_of_getElem? (i := 242) (by decide +kernel), List.mem_of_getElem? (i := 544) (by decide +kernel), List.mem_of_getElem? (i := 545) (by decide +kernel)⟩
theorem lw_p14 : lw_okq (⟨"java/lang/Throwable", "fillInStackTrace", "(I)Ljava/lang/Throwable;"⟩, 6) := ⟨⟨by decide +kernel, by decide +kernel⟩, List.mem_of_getElem? (i := 617) (by decide +kernel), List.mem_of_getElem? (i := 615) (by decide +kernel), List.mem_of_getElem? (i := 616) (by decide +kernel)⟩
theorem lw_p15 : lw_okq (⟨"VariantDesk", "sheetAt", "(I)LVariantDesk$Sheet;"⟩, 10) := ⟨⟨by decide +kernel, by decide +kernel⟩, List.mem_of_getElem? (i := 24) (by decide +kernel), List.mem_of_getElem? (i := 660) (by decide +kernel), List.mem_of_getElem? (i := 661) (by decide +kernel)⟩
def lw_privs_1 : List (MethodName × Nat) := [(⟨"VariantDesk$GenomeReader", "take", "(I)Z"⟩, 11), (⟨"VariantDesk$GenomeReader", "takeInName", "(I)Z"⟩, 11), (⟨"VariantDesk$GenomeReader", "fail", "(I)Z"⟩, 11), (⟨"VariantDesk$GenomeReader", "endNameLine", "()Z"⟩, 11), (⟨"VariantDesk$Names", "isName", "(ILVariantDesk$Names;I)Z"⟩, 4), (⟨"VariantDesk$GenomeReader", "takeInRemark", "(I)Z"⟩, 11), (⟨"VariantDesk$GenomeReader", "takeInLetters", "(I)Z"⟩, 11), (⟨"VariantDesk$GenomeReader", "endLetterLine", "()V"⟩, 11), (⟨"VariantDesk$GenomeReader", "takeLetter", "(I)Z"⟩, 11), (⟨"VariantDesk$GenomeReader", "takeAtLineStart", "(I)Z"⟩, 11), (⟨"VariantDesk$GenomeReader", "openSequence", "()Z"⟩, 11), (⟨"VariantDesk$Sheet", "firstFreeLike", "(LVariantDesk$Entry;)I"⟩, 3), (⟨"VariantDesk$Sheet", "sinkToPlace", "(I)V"⟩, 3), (⟨"VariantDesk$Haplotype", "moved", "(I[I[I[I[I)I"⟩, 9), (⟨"java/lang/Throwable", "fillInStackTrace", "(I)Ljava/lang/Throwable;"⟩, 6), (⟨"VariantDesk", "sheetAt", "(I)LVariantDesk$Sheet;"⟩, 10)]
theorem lw_r1 : ∀ q ∈ lw_privs_1, lw_okq q := List.forall_mem_cons.mpr ⟨lw_p0, List.forall_mem_cons.mpr ⟨lw_p1, List.forall_mem_cons.mpr ⟨lw_p2, List.forall_mem_cons.mpr ⟨lw_p3, List.forall_mem_cons.mpr ⟨lw_p4, List.forall_mem_cons.mpr ⟨lw_p5, List.forall_mem_cons.mpr ⟨lw_p6, List.forall_mem_cons.mpr ⟨lw_p7, List.forall_mem_cons.mpr ⟨lw_p8, List.forall_mem_cons.mpr ⟨lw_p9, List.forall_mem_cons.mpr ⟨lw_p10, List.forall_mem_cons.mpr ⟨lw_p11, List.forall_mem_cons.mpr ⟨lw_p12, List.forall_mem_cons.mpr ⟨lw_p13, List.forall_mem_cons.mpr ⟨lw_p14, List.forall_mem_cons.mpr ⟨lw_p15, fun _ h => absurd h List.not_mem_nil⟩⟩⟩⟩⟩⟩⟩⟩⟩⟩⟩⟩⟩⟩⟩⟩
theorem lw_p16 : lw_okq (⟨"VariantDesk$SheetReader", "takeFirstLine", "()Z"⟩, 10) := ⟨⟨by decide +kernel, by decide +kernel⟩, List.mem_of_getElem? (i := 680) (by decide +kernel), List.mem_of_getElem? (i := 724) (by decide +kernel), List.mem_of_getElem? (i := 725) (by decide +kernel)⟩
theorem lw_p17 : lw_okq (⟨"VariantDesk$SheetReader", "takeLine", "()Z"⟩, 10) := ⟨⟨by decide +kernel, by decide +kernel⟩, List.mem_of_getElem? (i := 680) (by decide +kernel), List.mem_of_getElem? (i := 728) (by decide +kernel), List.mem_of_getElem? (i := 729) (by decide +kernel)⟩
theorem lw_p18 : lw_okq (⟨"VariantDesk$SheetReader", "fail", "(II)Z"⟩, 10) := ⟨⟨by decide +kernel, by decide +kernel⟩, List.mem_of_getElem? (i := 680) (by decide +kernel), List.mem_of_getElem? (i := 737) (by decide +kernel), List.mem_of_getElem? (i := 738) (by decide +kernel)⟩
theorem lw_p19 : lw_okq (⟨"VariantDesk$SheetReader", "takeLinesToHead", "()Z"⟩, 10) := ⟨⟨by decide +kernel, by decide +kernel⟩, List.mem_of_getElem? (i := 680) (by decide +kernel), List.mem_of_getElem? (i := 798) (by decide +kernel), List.mem_of_getElem? (i := 799) (by decide +kernel)⟩
theorem lw_p20 : lw_okq (⟨"VariantDesk$SheetReader", "cutColumns", "()V"⟩, 10) := ⟨⟨by decide +kernel, by decide +kernel⟩, List.mem_of_getElem? (i := 680) (by decide +kernel), List.mem_of_getElem? (i := 804) (by decide +kernel), List.mem_of_getElem? (i := 805) (by decide +kernel)⟩
theorem lw_p21 : lw_okq (⟨"VariantDesk$SheetReader", "takeHead", "()Z"⟩, 10) := ⟨⟨by decide +kernel, by decide +kernel⟩, List.mem_of_getElem? (i := 680) (by decide +kernel), List.mem_of_getElem? (i := 809) (by decide +kernel), List.mem_of_getElem? (i := 810) (by decide +kernel)⟩
theorem lw_p22 : lw_okq (⟨"VariantDesk$SheetReader", "columnIs", "(ILjava/lang/String;)Z"⟩, 10) := ⟨⟨by decide +kernel, by decide +kernel⟩, List.mem_of_getElem? (i := 680) (by decide +kernel), List.mem_of_getElem? (i := 815) (by decide +kernel), List.mem_of_getElem? (i := 816) (by decide +kernel)⟩
theorem lw_p23 : lw_okq (⟨"VariantDesk$SheetReader", "takeSampleName", "(II)Z"⟩, 10) := ⟨⟨by decide +kernel, by decide +kernel⟩, List.mem_of_getElem? (i := 680) (by decide +kernel), List.mem_of_getElem? (i := 819) (by decide +kernel), List.mem_of_getElem? (i := 820) (by decide +kernel)⟩
theorem lw_p24 : lw_okq (⟨"VariantDesk$SheetReader", "takeEntry", "(LVariantDesk$Entry;)Z"⟩, 10) := ⟨⟨by decide +kernel, by decide +kernel⟩, List.mem_of_getElem? (i := 680) (by decide +kernel), List.mem_of_getElem? (i := 838) (by decide +kernel), List.mem_of_getElem? (i := 839) (by decide +kernel)⟩
theorem lw_p25 : lw_okq (⟨"VariantDesk$SheetReader", "takeSequence", "(LVariantDesk$Entry;)Z"⟩, 10) := ⟨⟨by decide +kernel, by decide +kernel⟩, List.mem_of_getElem? (i := 680) (by decide +kernel), List.mem_of_getElem? (i := 842) (by decide +kernel), List.mem_of_getElem? (i := 843) (by decide +kernel)⟩
theorem lw_p26 : lw_okq (⟨"VariantDesk$SheetReader", "failColumn", "(I)Z"⟩, 10) := ⟨⟨by decide +kernel, by decide +kernel⟩, List.mem_of_getElem? (i := 680) (by decide +kernel), List.mem_of_getElem? (i := 846) (by decide +kernel), List.mem_of_getElem? (i := 847) (by decide +kernel)⟩
theorem lw_p27 : lw_okq (⟨"VariantDesk$SheetReader", "takePlace", "(LVariantDesk$Entry;)Z"⟩, 10) := ⟨⟨by decide +kernel, by decide +kernel⟩, List.mem_of_getElem? (i := 680) (by decide +kernel), List.mem_of_getElem? (i := 850) (by decide +kernel), List.mem_of_getElem? (i := 851) (by decide +kernel)⟩
theorem lw_p28 : lw_okq (⟨"VariantDesk$SheetReader", "takeId", "(LVariantDesk$Entry;)Z"⟩, 10) := ⟨⟨by decide +kernel, by decide +kernel⟩, List.mem_of_getElem? (i := 680) (by decide +kernel), List.mem_of_getElem? (i := 866) (by decide +kernel), List.mem_of_getElem? (i := 867) (by decide +kernel)⟩
theorem lw_p29 : lw_okq (⟨"VariantDesk$SheetReader", "takeRow", "(LVariantDesk$Entry;III)Z"⟩, 10) := ⟨⟨by decide +kernel, by decide +kernel⟩, List.mem_of_getElem? (i := 680) (by decide +kernel), List.mem_of_getElem? (i := 875) (by decide +kernel), List.mem_of_getElem? (i := 876) (by decide +kernel)⟩
theorem lw_p30 : lw_okq (⟨"VariantDesk$SheetReader", "refIsThere", "(LVariantDesk$Entry;)Z"⟩, 10) := ⟨⟨by decide +kernel, by decide +kernel⟩, List.mem_of_getElem? (i := 680) (by decide +kernel), List.mem_of_getElem? (i := 884) (by decide +kernel), List.mem_of_getElem? (i := 885) (by decide +kernel)⟩
theorem lw_p31 : lw_okq (⟨"VariantDesk$SheetReader", "takeAlts", "(LVariantDesk$Entry;)Z"⟩, 10) := ⟨⟨by decide +kernel, by decide +kernel⟩, List.mem_of_getElem? (i := 680) (by decide +kernel), List.mem_of_getElem? (i := 893) (by decide +kernel), List.mem_of_getElem? (i := 894) (by decide +kernel)⟩
def lw_privs_2 : List (MethodName × Nat) := [(⟨"VariantDesk$SheetReader", "takeFirstLine", "()Z"⟩, 10), (⟨"VariantDesk$SheetReader", "takeLine", "()Z"⟩, 10), (⟨"VariantDesk$SheetReader", "fail", "(II)Z"⟩, 10), (⟨"VariantDesk$SheetReader", "takeLinesToHead", "()Z"⟩, 10), (⟨"VariantDesk$SheetReader", "cutColumns", "()V"⟩, 10), (⟨"VariantDesk$SheetReader", "takeHead", "()Z"⟩, 10), (⟨"VariantDesk$SheetReader", "columnIs", "(ILjava/lang/String;)Z"⟩, 10), (⟨"VariantDesk$SheetReader", "takeSampleName", "(II)Z"⟩, 10), (⟨"VariantDesk$SheetReader", "takeEntry", "(LVariantDesk$Entry;)Z"⟩, 10), (⟨"VariantDesk$SheetReader", "takeSequence", "(LVariantDesk$Entry;)Z"⟩, 10), (⟨"VariantDesk$SheetReader", "failColumn", "(I)Z"⟩, 10), (⟨"VariantDesk$SheetReader", "takePlace", "(LVariantDesk$Entry;)Z"⟩, 10), (⟨"VariantDesk$SheetReader", "takeId", "(LVariantDesk$Entry;)Z"⟩, 10), (⟨"VariantDesk$SheetReader", "takeRow", "(LVariantDesk$Entry;III)Z"⟩, 10), (⟨"VariantDesk$SheetReader", "refIsThere", "(LVariantDesk$Entry;)Z"⟩, 10), (⟨"VariantDesk$SheetReader", "takeAlts", "(LVariantDesk$Entry;)Z"⟩, 10)]
theorem lw_r2 : ∀ q ∈ lw_privs_2, lw_okq q := List.forall_mem_cons.mpr ⟨lw_p16, List.forall_mem_cons.mpr ⟨lw_p17, List.forall_mem_cons.mpr ⟨lw_p18, List.forall_mem_cons.mpr ⟨lw_p19, List.forall_mem_cons.mpr ⟨lw_p20, List.forall_mem_cons.mpr ⟨lw_p21, List.forall_mem_cons.mpr ⟨lw_p22, List.forall_mem_cons.mpr ⟨lw_p23, List.forall_mem_cons.mpr ⟨lw_p24, List.forall_mem_cons.mpr ⟨lw_p25, List.forall_mem_cons.mpr ⟨lw_p26, List.forall_mem_cons.mpr ⟨lw_p27, List.forall_mem_cons.mpr ⟨lw_p28, List.forall_mem_cons.mpr ⟨lw_p29, List.forall_mem_cons.mpr ⟨lw_p30, List.forall_mem_cons.mpr ⟨lw_p31, fun _ h => absurd h List.not_mem_nil⟩⟩⟩⟩⟩⟩⟩⟩⟩⟩⟩⟩⟩⟩⟩⟩
theorem lw_p32 : lw_okq (⟨"VariantDesk$SheetReader", "takeAlt", "(LVariantDesk$Entry;II)Z"⟩, 10) := ⟨⟨by decide +kernel, by decide +kernel⟩, List.mem_of_getElem? (i := 680) (by decide +kernel), List.mem_of_getElem? (i := 897) (by decide +kernel), List.mem_of_getElem? (i := 898) (by decide +kernel)⟩
theorem lw_p33 : lw_okq (⟨"VariantDesk$SheetReader", "takeQuality", "(LVariantDesk$Entry;)Z"⟩, 10) := ⟨⟨by decide +kernel, by decide +kernel⟩, List.mem_of_getElem? (i := 680) (by decide +kernel), List.mem_of_getElem? (i := 902) (by decide +kernel), List.mem_of_getElem? (i := 903) (by decide +kernel)⟩
theorem lw_p34 : lw_okq (⟨"VariantDesk$SheetReader", "takePassed", "(LVariantDesk$Entry;)Z"⟩, 10) := ⟨⟨by decide +kernel, by decide +kernel⟩, List.mem_of_getElem? (i := 680) (by decide +kernel), List.mem_of_getElem? (i := 907) (by decide +kernel), List.mem_of_getElem? (i := 908) (by decide +kernel)⟩
theorem lw_p35 : lw_okq (⟨"VariantDesk$SheetReader", "takeAllCalls", "(LVariantDesk$Entry;)Z"⟩, 10) := ⟨⟨by decide +kernel, by decide +kernel⟩, List.mem_of_getElem? (i := 680) (by decide +kernel), List.mem_of_getElem? (i := 913) (by decide +kernel), List.mem_of_getElem? (i := 914) (by decide +kernel)⟩
theorem lw_p36 : lw_okq (⟨"VariantDesk$SheetReader", "takeCalls", "(LVariantDesk$Entry;III)Z"⟩, 10) := ⟨⟨by decide +kernel, by decide +kernel⟩, List.mem_of_getElem? (i := 680) (by decide +kernel), List.mem_of_getElem? (i := 917) (by decide +kernel), List.mem_of_getElem? (i := 918) (by decide +kernel)⟩
theorem lw_p37 : lw_okq (⟨"VariantDesk$SheetReader", "callAt", "(III)I"⟩, 10) := ⟨⟨by decide +kernel, by decide +kernel⟩, List.mem_of_getElem? (i := 680) (by decide +kernel), List.mem_of_getElem? (i := 921) (by decide +kernel), List.mem_of_getElem? (i := 922) (by decide +kernel)⟩
theorem lw_p38 : lw_okq (⟨"VariantDesk", "useSpareSheet", "(I)V"⟩, 10) := ⟨⟨by decide +kernel, by decide +kernel⟩, List.mem_of_getElem? (i := 24) (by decide +kernel), List.mem_of_getElem? (i := 926) (by decide +kernel), List.mem_of_getElem? (i := 927) (by decide +kernel)⟩
theorem lw_p39 : lw_okq (⟨"VariantDesk", "checkSequence", "(I)V"⟩, 10) := ⟨⟨by decide +kernel, by decide +kernel⟩, List.mem_of_getElem? (i := 24) (by decide +kernel), List.mem_of_getElem? (i := 937) (by decide +kernel), List.mem_of_getElem? (i := 938) (by decide +kernel)⟩
theorem lw_p40 : lw_okq (⟨"VariantDesk", "entryAt", "(II)LVariantDesk$Entry;"⟩, 10) := ⟨⟨by decide +kernel, by decide +kernel⟩, List.mem_of_getElem? (i := 24) (by decide +kernel), List.mem_of_getElem? (i := 976) (by decide +kernel), List.mem_of_getElem? (i := 977) (by decide +kernel)⟩
theorem lw_p41 : lw_okq (⟨"VariantDesk", "checkSample", "(II)V"⟩, 10) := ⟨⟨by decide +kernel, by decide +kernel⟩, List.mem_of_getElem? (i := 24) (by decide +kernel), List.mem_of_getElem? (i := 998) (by decide +kernel), List.mem_of_getElem? (i := 999) (by decide +kernel)⟩
theorem lw_p42 : lw_okq (⟨"VariantDesk$Entry", "cutEnds", "(LVariantDesk$Genome;)I"⟩, 14) := ⟨⟨by decide +kernel, by decide +kernel⟩, List.mem_of_getElem? (i := 130) (by decide +kernel), List.mem_of_getElem? (i := 1023) (by decide +kernel), List.mem_of_getElem? (i := 1024) (by decide +kernel)⟩
theorem lw_p43 : lw_okq (⟨"VariantDesk$Entry", "shortestRow", "()I"⟩, 14) := ⟨⟨by decide +kernel, by decide +kernel⟩, List.mem_of_getElem? (i := 130) (by decide +kernel), List.mem_of_getElem? (i := 1027) (by decide +kernel), List.mem_of_getElem? (i := 1028) (by decide +kernel)⟩
theorem lw_p44 : lw_okq (⟨"VariantDesk$Entry", "endAlikeAfter", "(ILVariantDesk$Genome;)Z"⟩, 14) := ⟨⟨by decide +kernel, by decide +kernel⟩, List.mem_of_getElem? (i := 130) (by decide +kernel), List.mem_of_getElem? (i := 1034) (by decide +kernel), List.mem_of_getElem? (i := 1035) (by decide +kernel)⟩
theorem lw_p45 : lw_okq (⟨"VariantDesk$Entry", "movedLetter", "(IIILVariantDesk$Genome;)I"⟩, 14) := ⟨⟨by decide +kernel, by decide +kernel⟩, List.mem_of_getElem? (i := 130) (by decide +kernel), List.mem_of_getElem? (i := 1038) (by decide +kernel), List.mem_of_getElem? (i := 1039) (by decide +kernel)⟩
theorem lw_p46 : lw_okq (⟨"VariantDesk$Entry", "stepsToLeft", "(LVariantDesk$Genome;)I"⟩, 14) := ⟨⟨by decide +kernel, by decide +kernel⟩, List.mem_of_getElem? (i := 130) (by decide +kernel), List.mem_of_getElem? (i := 1043) (by decide +kernel), List.mem_of_getElem? (i := 1044) (by decide +kernel)⟩
theorem lw_p47 : lw_okq (⟨"VariantDesk$Entry", "moveLeft", "(ILVariantDesk$Genome;)V"⟩, 14) := ⟨⟨by decide +kernel, by decide +kernel⟩, List.mem_of_getElem? (i := 130) (by decide +kernel), List.mem_of_getElem? (i := 1047) (by decide +kernel), List.mem_of_getElem? (i := 1048) (by decide +kernel)⟩
def lw_privs_3 : List (MethodName × Nat) := [(⟨"VariantDesk$SheetReader", "takeAlt", "(LVariantDesk$Entry;II)Z"⟩, 10), (⟨"VariantDesk$SheetReader", "takeQuality", "(LVariantDesk$Entry;)Z"⟩, 10), (⟨"VariantDesk$SheetReader", "takePassed", "(LVariantDesk$Entry;)Z"⟩, 10), (⟨"VariantDesk$SheetReader", "takeAllCalls", "(LVariantDesk$Entry;)Z"⟩, 10), (⟨"VariantDesk$SheetReader", "takeCalls", "(LVariantDesk$Entry;III)Z"⟩, 10), (⟨"VariantDesk$SheetReader", "callAt", "(III)I"⟩, 10), (⟨"VariantDesk", "useSpareSheet", "(I)V"⟩, 10), (⟨"VariantDesk", "checkSequence", "(I)V"⟩, 10), (⟨"VariantDesk", "entryAt", "(II)LVariantDesk$Entry;"⟩, 10), (⟨"VariantDesk", "checkSample", "(II)V"⟩, 10), (⟨"VariantDesk$Entry", "cutEnds", "(LVariantDesk$Genome;)I"⟩, 14), (⟨"VariantDesk$Entry", "shortestRow", "()I"⟩, 14), (⟨"VariantDesk$Entry", "endAlikeAfter", "(ILVariantDesk$Genome;)Z"⟩, 14), (⟨"VariantDesk$Entry", "movedLetter", "(IIILVariantDesk$Genome;)I"⟩, 14), (⟨"VariantDesk$Entry", "stepsToLeft", "(LVariantDesk$Genome;)I"⟩, 14), (⟨"VariantDesk$Entry", "moveLeft", "(ILVariantDesk$Genome;)V"⟩, 14)]
theorem lw_r3 : ∀ q ∈ lw_privs_3, lw_okq q := List.forall_mem_cons.mpr ⟨lw_p32, List.forall_mem_cons.mpr ⟨lw_p33, List.forall_mem_cons.mpr ⟨lw_p34, List.forall_mem_cons.mpr ⟨lw_p35, List.forall_mem_cons.mpr ⟨lw_p36, List.forall_mem_cons.mpr ⟨lw_p37, List.forall_mem_cons.mpr ⟨lw_p38, List.forall_mem_cons.mpr ⟨lw_p39, List.forall_mem_cons.mpr ⟨lw_p40, List.forall_mem_cons.mpr ⟨lw_p41, List.forall_mem_cons.mpr ⟨lw_p42, List.forall_mem_cons.mpr ⟨lw_p43, List.forall_mem_cons.mpr ⟨lw_p44, List.forall_mem_cons.mpr ⟨lw_p45, List.forall_mem_cons.mpr ⟨lw_p46, List.forall_mem_cons.mpr ⟨lw_p47, fun _ h => absurd h List.not_mem_nil⟩⟩⟩⟩⟩⟩⟩⟩⟩⟩⟩⟩⟩⟩⟩⟩
theorem lw_p48 : lw_okq (⟨"VariantDesk$Entry", "cutBeginnings", "()I"⟩, 14) := ⟨⟨by decide +kernel, by decide +kernel⟩, List.mem_of_getElem? (i := 130) (by decide +kernel), List.mem_of_getElem? (i := 1051) (by decide +kernel), List.mem_of_getElem? (i := 1052) (by decide +kernel)⟩
theorem lw_p49 : lw_okq (⟨"VariantDesk$Entry", "alikeAt", "(I)Z"⟩, 14) := ⟨⟨by decide +kernel, by decide +kernel⟩, List.mem_of_getElem? (i := 130) (by decide +kernel), List.mem_of_getElem? (i := 1055) (by decide +kernel), List.mem_of_getElem? (i := 1056) (by decide +kernel)⟩
theorem lw_p50 : lw_okq (⟨"VariantDesk$Sheet", "takeSplitEntry", "(LVariantDesk$Entry;)V"⟩, 3) := ⟨⟨by decide +kernel, by decide +kernel⟩, List.mem_of_getElem? (i := 121) (by decide +kernel), List.mem_of_getElem? (i := 1077) (by decide +kernel), List.mem_of_getElem? (i := 1078) (by decide +kernel)⟩
theorem lw_p51 : lw_okq (⟨"VariantDesk$Entry", "copyHead", "(LVariantDesk$Entry;)V"⟩, 14) := ⟨⟨by decide +kernel, by decide +kernel⟩, List.mem_of_getElem? (i := 130) (by decide +kernel), List.mem_of_getElem? (i := 1086) (by decide +kernel), List.mem_of_getElem? (i := 1087) (by decide +kernel)⟩
theorem lw_p52 : lw_okq (⟨"VariantDesk$Joiner", "takeAlts", "()Z"⟩, 3) := ⟨⟨by decide +kernel, by decide +kernel⟩, List.mem_of_getElem? (i := 224) (by decide +kernel), List.mem_of_getElem? (i := 1129) (by decide +kernel), List.mem_of_getElem? (i := 1130) (by decide +kernel)⟩
theorem lw_p53 : lw_okq (⟨"VariantDesk$Joiner", "joinCalls", "(I)V"⟩, 3) := ⟨⟨by decide +kernel, by decide +kernel⟩, List.mem_of_getElem? (i := 224) (by decide +kernel), List.mem_of_getElem? (i := 1138) (by decide +kernel), List.mem_of_getElem? (i := 1139) (by decide +kernel)⟩
theorem lw_p54 : lw_okq (⟨"VariantDesk$Joiner", "joinedPhase", "(I)Z"⟩, 3) := ⟨⟨by decide +kernel, by decide +kernel⟩, List.mem_of_getElem? (i := 224) (by decide +kernel), List.mem_of_getElem? (i := 1142) (by decide +kernel), List.mem_of_getElem? (i := 1143) (by decide +kernel)⟩
theorem lw_p55 : lw_okq (⟨"VariantDesk$Joiner", "joinedCall", "(II)I"⟩, 3) := ⟨⟨by decide +kernel, by decide +kernel⟩, List.mem_of_getElem? (i := 224) (by decide +kernel), List.mem_of_getElem? (i := 1147) (by decide +kernel), List.mem_of_getElem? (i := 1148) (by decide +kernel)⟩
theorem lw_p56 : lw_okq (⟨"VariantDesk$Haplotype", "insert", "(LVariantDesk$Sheet;I)V"⟩, 9) := ⟨⟨by decide +kernel, by decide +kernel⟩, List.mem_of_getElem? (i := 242) (by decide +kernel), List.mem_of_getElem? (i := 1173) (by decide +kernel), List.mem_of_getElem? (i := 1174) (by decide +kernel)⟩
theorem lw_p57 : lw_okq (⟨"VariantDesk$Entry", "growth", "()I"⟩, 14) := ⟨⟨by decide +kernel, by decide +kernel⟩, List.mem_of_getElem? (i := 130) (by decide +kernel), List.mem_of_getElem? (i := 1212) (by decide +kernel), List.mem_of_getElem? (i := 1213) (by decide +kernel)⟩
theorem lw_p58 : lw_okq (⟨"VariantDesk$Entry", "letterAfter", "(ILVariantDesk$Genome;)I"⟩, 14) := ⟨⟨by decide +kernel, by decide +kernel⟩, List.mem_of_getElem? (i := 130) (by decide +kernel), List.mem_of_getElem? (i := 1217) (by decide +kernel), List.mem_of_getElem? (i := 1218) (by decide +kernel)⟩
theorem lw_p59 : lw_okq (⟨"VariantDesk$Entry", "writeAlts", "(LVariantDesk$Octets;)V"⟩, 14) := ⟨⟨by decide +kernel, by decide +kernel⟩, List.mem_of_getElem? (i := 130) (by decide +kernel), List.mem_of_getElem? (i := 1257) (by decide +kernel), List.mem_of_getElem? (i := 1258) (by decide +kernel)⟩
theorem lw_p60 : lw_okq (⟨"VariantDesk$Entry", "writeCalls", "(ILVariantDesk$Octets;)V"⟩, 14) := ⟨⟨by decide +kernel, by decide +kernel⟩, List.mem_of_getElem? (i := 130) (by decide +kernel), List.mem_of_getElem? (i := 1270) (by decide +kernel), List.mem_of_getElem? (i := 1271) (by decide +kernel)⟩
theorem lw_p61 : lw_okq (⟨"VariantDeskModel", "goes", "(Z)Z"⟩, 53) := ⟨⟨by decide +kernel, by decide +kernel⟩, List.mem_of_getElem? (i := 1274) (by decide +kernel), List.mem_of_getElem? (i := 1451) (by decide +kernel), List.mem_of_getElem? (i := 1452) (by decide +kernel)⟩
theorem lw_p62 : lw_okq (⟨"VariantDeskModel", "readName", "(I)I"⟩, 53) := ⟨⟨by decide +kernel, by decide +kernel⟩, List.mem_of_getElem? (i := 1274) (by decide +kernel), List.mem_of_getElem? (i := 1459) (by decide +kernel), List.mem_of_getElem? (i := 1460) (by decide +kernel)⟩
theorem lw_p63 : lw_okq (⟨"VariantDeskModel", "at", "(I)I"⟩, 53) := ⟨⟨by decide +kernel, by decide +kernel⟩, List.mem_of_getElem? (i := 1274) (by decide +kernel), List.mem_of_getElem? (i := 1463) (by decide +kernel), List.mem_of_getElem? (i := 1464) (by decide +kernel)⟩
def lw_privs_4 : List (MethodName × Nat) := [(⟨"VariantDesk$Entry", "cutBeginnings", "()I"⟩, 14), (⟨"VariantDesk$Entry", "alikeAt", "(I)Z"⟩, 14), (⟨"VariantDesk$Sheet", "takeSplitEntry", "(LVariantDesk$Entry;)V"⟩, 3), (⟨"VariantDesk$Entry", "copyHead", "(LVariantDesk$Entry;)V"⟩, 14), (⟨"VariantDesk$Joiner", "takeAlts", "()Z"⟩, 3), (⟨"VariantDesk$Joiner", "joinCalls", "(I)V"⟩, 3), (⟨"VariantDesk$Joiner", "joinedPhase", "(I)Z"⟩, 3), (⟨"VariantDesk$Joiner", "joinedCall", "(II)I"⟩, 3), (⟨"VariantDesk$Haplotype", "insert", "(LVariantDesk$Sheet;I)V"⟩, 9), (⟨"VariantDesk$Entry", "growth", "()I"⟩, 14), (⟨"VariantDesk$Entry", "letterAfter", "(ILVariantDesk$Genome;)I"⟩, 14), (⟨"VariantDesk$Entry", "writeAlts", "(LVariantDesk$Octets;)V"⟩, 14), (⟨"VariantDesk$Entry", "writeCalls", "(ILVariantDesk$Octets;)V"⟩, 14), (⟨"VariantDeskModel", "goes", "(Z)Z"⟩, 53), (⟨"VariantDeskModel", "readName", "(I)I"⟩, 53), (⟨"VariantDeskModel", "at", "(I)I"⟩, 53)]
theorem lw_r4 : ∀ q ∈ lw_privs_4, lw_okq q := List.forall_mem_cons.mpr ⟨lw_p48, List.forall_mem_cons.mpr ⟨lw_p49, List.forall_mem_cons.mpr ⟨lw_p50, List.forall_mem_cons.mpr ⟨lw_p51, List.forall_mem_cons.mpr ⟨lw_p52, List.forall_mem_cons.mpr ⟨lw_p53, List.forall_mem_cons.mpr ⟨lw_p54, List.forall_mem_cons.mpr ⟨lw_p55, List.forall_mem_cons.mpr ⟨lw_p56, List.forall_mem_cons.mpr ⟨lw_p57, List.forall_mem_cons.mpr ⟨lw_p58, List.forall_mem_cons.mpr ⟨lw_p59, List.forall_mem_cons.mpr ⟨lw_p60, List.forall_mem_cons.mpr ⟨lw_p61, List.forall_mem_cons.mpr ⟨lw_p62, List.forall_mem_cons.mpr ⟨lw_p63, fun _ h => absurd h List.not_mem_nil⟩⟩⟩⟩⟩⟩⟩⟩⟩⟩⟩⟩⟩⟩⟩⟩
theorem lw_p64 : lw_okq (⟨"VariantDeskModel", "bad", "(II)V"⟩, 53) := ⟨⟨by decide +kernel, by decide +kernel⟩, List.mem_of_getElem? (i := 1274) (by decide +kernel), List.mem_of_getElem? (i := 1467) (by decide +kernel), List.mem_of_getElem? (i := 1468) (by decide +kernel)⟩
theorem lw_p65 : lw_okq (⟨"VariantDeskModel", "isOld", "(I)Z"⟩, 53) := ⟨⟨by decide +kernel, by decide +kernel⟩, List.mem_of_getElem? (i := 1274) (by decide +kernel), List.mem_of_getElem? (i := 1474) (by decide +kernel), List.mem_of_getElem? (i := 1475) (by decide +kernel)⟩
theorem lw_p66 : lw_okq (⟨"VariantDeskModel", "readLetters", "(I)I"⟩, 53) := ⟨⟨by decide +kernel, by decide +kernel⟩, List.mem_of_getElem? (i := 1274) (by decide +kernel), List.mem_of_getElem? (i := 1478) (by decide +kernel), List.mem_of_getElem? (i := 1479) (by decide +kernel)⟩
theorem lw_p67 : lw_okq (⟨"VariantDeskModel", "readTable", "()V"⟩, 53) := ⟨⟨by decide +kernel, by decide +kernel⟩, List.mem_of_getElem? (i := 1274) (by decide +kernel), List.mem_of_getElem? (i := 1489) (by decide +kernel), List.mem_of_getElem? (i := 1490) (by decide +kernel)⟩
theorem lw_p68 : lw_okq (⟨"VariantDeskModel", "needLine", "(I)I"⟩, 53) := ⟨⟨by decide +kernel, by decide +kernel⟩, List.mem_of_getElem? (i := 1274) (by decide +kernel), List.mem_of_getElem? (i := 1493) (by decide +kernel), List.mem_of_getElem? (i := 1494) (by decide +kernel)⟩
theorem lw_p69 : lw_okq (⟨"VariantDeskModel", "lineEnd", "(I)I"⟩, 53) := ⟨⟨by decide +kernel, by decide +kernel⟩, List.mem_of_getElem? (i := 1274) (by decide +kernel), List.mem_of_getElem? (i := 1497) (by decide +kernel), List.mem_of_getElem? (i := 1498) (by decide +kernel)⟩
theorem lw_p70 : lw_okq (⟨"VariantDeskModel", "isText", "(III)Z"⟩, 53) := ⟨⟨by decide +kernel, by decide +kernel⟩, List.mem_of_getElem? (i := 1274) (by decide +kernel), List.mem_of_getElem? (i := 1501) (by decide +kernel), List.mem_of_getElem? (i := 1502) (by decide +kernel)⟩
theorem lw_p71 : lw_okq (⟨"VariantDeskModel", "begins", "(III)Z"⟩, 53) := ⟨⟨by decide +kernel, by decide +kernel⟩, List.mem_of_getElem? (i := 1274) (by decide +kernel), List.mem_of_getElem? (i := 1508) (by decide +kernel), List.mem_of_getElem? (i := 1509) (by decide +kernel)⟩
theorem lw_p72 : lw_okq (⟨"VariantDeskModel", "readHead", "(II)Z"⟩, 53) := ⟨⟨by decide +kernel, by decide +kernel⟩, List.mem_of_getElem? (i := 1274) (by decide +kernel), List.mem_of_getElem? (i := 1530) (by decide +kernel), List.mem_of_getElem? (i := 1531) (by decide +kernel)⟩
theorem lw_p73 : lw_okq (⟨"VariantDeskModel", "columnEnd", "(II)I"⟩, 53) := ⟨⟨by decide +kernel, by decide +kernel⟩, List.mem_of_getElem? (i := 1274) (by decide +kernel), List.mem_of_getElem? (i := 1534) (by decide +kernel), List.mem_of_getElem? (i := 1535) (by decide +kernel)⟩
theorem lw_p74 : lw_okq (⟨"VariantDeskModel", "isShown", "(II)Z"⟩, 53) := ⟨⟨by decide +kernel, by decide +kernel⟩, List.mem_of_getElem? (i := 1274) (by decide +kernel), List.mem_of_getElem? (i := 1538) (by decide +kernel), List.mem_of_getElem? (i := 1539) (by decide +kernel)⟩
theorem lw_p75 : lw_okq (⟨"VariantDeskModel", "sameName", "(IIII)Z"⟩, 53) := ⟨⟨by decide +kernel, by decide +kernel⟩, List.mem_of_getElem? (i := 1274) (by decide +kernel), List.mem_of_getElem? (i := 1542) (by decide +kernel), List.mem_of_getElem? (i := 1543) (by decide +kernel)⟩
theorem lw_p76 : lw_okq (⟨"VariantDeskModel", "readRecord", "(II)V"⟩, 53) := ⟨⟨by decide +kernel, by decide +kernel⟩, List.mem_of_getElem? (i := 1274) (by decide +kernel), List.mem_of_getElem? (i := 1546) (by decide +kernel), List.mem_of_getElem? (i := 1547) (by decide +kernel)⟩
theorem lw_p77 : lw_okq (⟨"VariantDeskModel", "columns", "(II)I"⟩, 53) := ⟨⟨by decide +kernel, by decide +kernel⟩, List.mem_of_getElem? (i := 1274) (by decide +kernel), List.mem_of_getElem? (i := 1550) (by decide +kernel), List.mem_of_getElem? (i := 1551) (by decide +kernel)⟩
theorem lw_p78 : lw_okq (⟨"VariantDeskModel", "readColumn", "(IIII)V"⟩, 53) := ⟨⟨by decide +kernel, by decide +kernel⟩, List.mem_of_getElem? (i := 1274) (by decide +kernel), List.mem_of_getElem? (i := 1554) (by decide +kernel), List.mem_of_getElem? (i := 1555) (by decide +kernel)⟩
theorem lw_p79 : lw_okq (⟨"VariantDeskModel", "sequenceNamed", "(II)I"⟩, 53) := ⟨⟨by decide +kernel, by decide +kernel⟩, List.mem_of_getElem? (i := 1274) (by decide +kernel), List.mem_of_getElem? (i := 1558) (by decide +kernel), List.mem_of_getElem? (i := 1559) (by decide +kernel)⟩
def lw_privs_5 : List (MethodName × Nat) := [(⟨"VariantDeskModel", "bad", "(II)V"⟩, 53), (⟨"VariantDeskModel", "isOld", "(I)Z"⟩, 53), (⟨"VariantDeskModel", "readLetters", "(I)I"⟩, 53), (⟨"VariantDeskModel", "readTable", "()V"⟩, 53), (⟨"VariantDeskModel", "needLine", "(I)I"⟩, 53), (⟨"VariantDeskModel", "lineEnd", "(I)I"⟩, 53), (⟨"VariantDeskModel", "isText", "(III)Z"⟩, 53), (⟨"VariantDeskModel", "begins", "(III)Z"⟩, 53), (⟨"VariantDeskModel", "readHead", "(II)Z"⟩, 53), (⟨"VariantDeskModel", "columnEnd", "(II)I"⟩, 53), (⟨"VariantDeskModel", "isShown", "(II)Z"⟩, 53), (⟨"VariantDeskModel", "sameName", "(IIII)Z"⟩, 53), (⟨"VariantDeskModel", "readRecord", "(II)V"⟩, 53), (⟨"VariantDeskModel", "columns", "(II)I"⟩, 53), (⟨"VariantDeskModel", "readColumn", "(IIII)V"⟩, 53), (⟨"VariantDeskModel", "sequenceNamed", "(II)I"⟩, 53)]
theorem lw_r5 : ∀ q ∈ lw_privs_5, lw_okq q := List.forall_mem_cons.mpr ⟨lw_p64, List.forall_mem_cons.mpr ⟨lw_p65, List.forall_mem_cons.mpr ⟨lw_p66, List.forall_mem_cons.mpr ⟨lw_p67, List.forall_mem_cons.mpr ⟨lw_p68, List.forall_mem_cons.mpr ⟨lw_p69, List.forall_mem_cons.mpr ⟨lw_p70, List.forall_mem_cons.mpr ⟨lw_p71, List.forall_mem_cons.mpr ⟨lw_p72, List.forall_mem_cons.mpr ⟨lw_p73, List.forall_mem_cons.mpr ⟨lw_p74, List.forall_mem_cons.mpr ⟨lw_p75, List.forall_mem_cons.mpr ⟨lw_p76, List.forall_mem_cons.mpr ⟨lw_p77, List.forall_mem_cons.mpr ⟨lw_p78, List.forall_mem_cons.mpr ⟨lw_p79, fun _ h => absurd h List.not_mem_nil⟩⟩⟩⟩⟩⟩⟩⟩⟩⟩⟩⟩⟩⟩⟩⟩
theorem lw_p80 : lw_okq (⟨"VariantDeskModel", "numberOf", "(III)I"⟩, 53) := ⟨⟨by decide +kernel, by decide +kernel⟩, List.mem_of_getElem? (i := 1274) (by decide +kernel), List.mem_of_getElem? (i := 1562) (by decide +kernel), List.mem_of_getElem? (i := 1563) (by decide +kernel)⟩
theorem lw_p81 : lw_okq (⟨"VariantDeskModel", "readRef", "(III)V"⟩, 53) := ⟨⟨by decide +kernel, by decide +kernel⟩, List.mem_of_getElem? (i := 1274) (by decide +kernel), List.mem_of_getElem? (i := 1566) (by decide +kernel), List.mem_of_getElem? (i := 1567) (by decide +kernel)⟩
theorem lw_p82 : lw_okq (⟨"VariantDeskModel", "readRow", "(IIII)Z"⟩, 53) := ⟨⟨by decide +kernel, by decide +kernel⟩, List.mem_of_getElem? (i := 1274) (by decide +kernel), List.mem_of_getElem? (i := 1570) (by decide +kernel), List.mem_of_getElem? (i := 1571) (by decide +kernel)⟩
theorem lw_p83 : lw_okq (⟨"VariantDeskModel", "refAt", "(II)I"⟩, 53) := ⟨⟨by decide +kernel, by decide +kernel⟩, List.mem_of_getElem? (i := 1274) (by decide +kernel), List.mem_of_getElem? (i := 1574) (by decide +kernel), List.mem_of_getElem? (i := 1575) (by decide +kernel)⟩
theorem lw_p84 : lw_okq (⟨"VariantDeskModel", "readAlts", "(III)V"⟩, 53) := ⟨⟨by decide +kernel, by decide +kernel⟩, List.mem_of_getElem? (i := 1274) (by decide +kernel), List.mem_of_getElem? (i := 1578) (by decide +kernel), List.mem_of_getElem? (i := 1579) (by decide +kernel)⟩
theorem lw_p85 : lw_okq (⟨"VariantDeskModel", "sameRow", "(IIII)Z"⟩, 53) := ⟨⟨by decide +kernel, by decide +kernel⟩, List.mem_of_getElem? (i := 1274) (by decide +kernel), List.mem_of_getElem? (i := 1582) (by decide +kernel), List.mem_of_getElem? (i := 1583) (by decide +kernel)⟩
theorem lw_p86 : lw_okq (⟨"VariantDeskModel", "readCalls", "(IIII)V"⟩, 53) := ⟨⟨by decide +kernel, by decide +kernel⟩, List.mem_of_getElem? (i := 1274) (by decide +kernel), List.mem_of_getElem? (i := 1587) (by decide +kernel), List.mem_of_getElem? (i := 1588) (by decide +kernel)⟩
theorem lw_p87 : lw_okq (⟨"VariantDeskModel", "callOf", "(II)I"⟩, 53) := ⟨⟨by decide +kernel, by decide +kernel⟩, List.mem_of_getElem? (i := 1274) (by decide +kernel), List.mem_of_getElem? (i := 1591) (by decide +kernel), List.mem_of_getElem? (i := 1592) (by decide +kernel)⟩
theorem lw_p88 : lw_okq (⟨"VariantDeskModel", "copyTable", "(II)V"⟩, 53) := ⟨⟨by decide +kernel, by decide +kernel⟩, List.mem_of_getElem? (i := 1274) (by decide +kernel), List.mem_of_getElem? (i := 1595) (by decide +kernel), List.mem_of_getElem? (i := 1596) (by decide +kernel)⟩
theorem lw_p89 : lw_okq (⟨"VariantDeskModel", "copySample", "(IIII)V"⟩, 53) := ⟨⟨by decide +kernel, by decide +kernel⟩, List.mem_of_getElem? (i := 1274) (by decide +kernel), List.mem_of_getElem? (i := 1599) (by decide +kernel), List.mem_of_getElem? (i := 1600) (by decide +kernel)⟩
theorem lw_p90 : lw_okq (⟨"VariantDeskModel", "copy", "(II)V"⟩, 53) := ⟨⟨by decide +kernel, by decide +kernel⟩, List.mem_of_getElem? (i := 1274) (by decide +kernel), List.mem_of_getElem? (i := 1603) (by decide +kernel), List.mem_of_getElem? (i := 1604) (by decide +kernel)⟩
theorem lw_p91 : lw_okq (⟨"VariantDeskModel", "copyCalls", "(IIII)V"⟩, 53) := ⟨⟨by decide +kernel, by decide +kernel⟩, List.mem_of_getElem? (i := 1274) (by decide +kernel), List.mem_of_getElem? (i := 1607) (by decide +kernel), List.mem_of_getElem? (i := 1608) (by decide +kernel)⟩
theorem lw_p92 : lw_okq (⟨"VariantDeskModel", "isRecord", "(II)Z"⟩, 53) := ⟨⟨by decide +kernel, by decide +kernel⟩, List.mem_of_getElem? (i := 1274) (by decide +kernel), List.mem_of_getElem? (i := 1631) (by decide +kernel), List.mem_of_getElem? (i := 1632) (by decide +kernel)⟩
theorem lw_p93 : lw_okq (⟨"VariantDeskModel", "makeNormal", "(I)Z"⟩, 53) := ⟨⟨by decide +kernel, by decide +kernel⟩, List.mem_of_getElem? (i := 1274) (by decide +kernel), List.mem_of_getElem? (i := 1647) (by decide +kernel), List.mem_of_getElem? (i := 1648) (by decide +kernel)⟩
theorem lw_p94 : lw_okq (⟨"VariantDeskModel", "endAlike", "(I)Z"⟩, 53) := ⟨⟨by decide +kernel, by decide +kernel⟩, List.mem_of_getElem? (i := 1274) (by decide +kernel), List.mem_of_getElem? (i := 1651) (by decide +kernel), List.mem_of_getElem? (i := 1652) (by decide +kernel)⟩
theorem lw_p95 : lw_okq (⟨"VariantDeskModel", "lastOf", "(II)I"⟩, 53) := ⟨⟨by decide +kernel, by decide +kernel⟩, List.mem_of_getElem? (i := 1274) (by decide +kernel), List.mem_of_getElem? (i := 1655) (by decide +kernel), List.mem_of_getElem? (i := 1656) (by decide +kernel)⟩
def lw_privs_6 : List (MethodName × Nat) := [(⟨"VariantDeskModel", "numberOf", "(III)I"⟩, 53), (⟨"VariantDeskModel", "readRef", "(III)V"⟩, 53), (⟨"VariantDeskModel", "readRow", "(IIII)Z"⟩, 53), (⟨"VariantDeskModel", "refAt", "(II)I"⟩, 53), (⟨"VariantDeskModel", "readAlts", "(III)V"⟩, 53), (⟨"VariantDeskModel", "sameRow", "(IIII)Z"⟩, 53), (⟨"VariantDeskModel", "readCalls", "(IIII)V"⟩, 53), (⟨"VariantDeskModel", "callOf", "(II)I"⟩, 53), (⟨"VariantDeskModel", "copyTable", "(II)V"⟩, 53), (⟨"VariantDeskModel", "copySample", "(IIII)V"⟩, 53), (⟨"VariantDeskModel", "copy", "(II)V"⟩, 53), (⟨"VariantDeskModel", "copyCalls", "(IIII)V"⟩, 53), (⟨"VariantDeskModel", "isRecord", "(II)Z"⟩, 53), (⟨"VariantDeskModel", "makeNormal", "(I)Z"⟩, 53), (⟨"VariantDeskModel", "endAlike", "(I)Z"⟩, 53), (⟨"VariantDeskModel", "lastOf", "(II)I"⟩, 53)]
theorem lw_r6 : ∀ q ∈ lw_privs_6, lw_okq q := List.forall_mem_cons.mpr ⟨lw_p80, List.forall_mem_cons.mpr ⟨lw_p81, List.forall_mem_cons.mpr ⟨lw_p82, List.forall_mem_cons.mpr ⟨lw_p83, List.forall_mem_cons.mpr ⟨lw_p84, List.forall_mem_cons.mpr ⟨lw_p85, List.forall_mem_cons.mpr ⟨lw_p86, List.forall_mem_cons.mpr ⟨lw_p87, List.forall_mem_cons.mpr ⟨lw_p88, List.forall_mem_cons.mpr ⟨lw_p89, List.forall_mem_cons.mpr ⟨lw_p90, List.forall_mem_cons.mpr ⟨lw_p91, List.forall_mem_cons.mpr ⟨lw_p92, List.forall_mem_cons.mpr ⟨lw_p93, List.forall_mem_cons.mpr ⟨lw_p94, List.forall_mem_cons.mpr ⟨lw_p95, fun _ h => absurd h List.not_mem_nil⟩⟩⟩⟩⟩⟩⟩⟩⟩⟩⟩⟩⟩⟩⟩⟩
theorem lw_p96 : lw_okq (⟨"VariantDeskModel", "allLong", "(I)Z"⟩, 53) := ⟨⟨by decide +kernel, by decide +kernel⟩, List.mem_of_getElem? (i := 1274) (by decide +kernel), List.mem_of_getElem? (i := 1659) (by decide +kernel), List.mem_of_getElem? (i := 1660) (by decide +kernel)⟩
theorem lw_p97 : lw_okq (⟨"VariantDeskModel", "toFront", "(II)V"⟩, 53) := ⟨⟨by decide +kernel, by decide +kernel⟩, List.mem_of_getElem? (i := 1274) (by decide +kernel), List.mem_of_getElem? (i := 1663) (by decide +kernel), List.mem_of_getElem? (i := 1664) (by decide +kernel)⟩
theorem lw_p98 : lw_okq (⟨"VariantDeskModel", "beginAlike", "(I)Z"⟩, 53) := ⟨⟨by decide +kernel, by decide +kernel⟩, List.mem_of_getElem? (i := 1274) (by decide +kernel), List.mem_of_getElem? (i := 1667) (by decide +kernel), List.mem_of_getElem? (i := 1668) (by decide +kernel)⟩
theorem lw_p99 : lw_okq (⟨"VariantDeskModel", "fromFront", "(I)V"⟩, 53) := ⟨⟨by decide +kernel, by decide +kernel⟩, List.mem_of_getElem? (i := 1274) (by decide +kernel), List.mem_of_getElem? (i := 1671) (by decide +kernel), List.mem_of_getElem? (i := 1672) (by decide +kernel)⟩
theorem lw_p100 : lw_okq (⟨"VariantDeskModel", "tryJoin", "(III)Z"⟩, 53) := ⟨⟨by decide +kernel, by decide +kernel⟩, List.mem_of_getElem? (i := 1274) (by decide +kernel), List.mem_of_getElem? (i := 1683) (by decide +kernel), List.mem_of_getElem? (i := 1684) (by decide +kernel)⟩
theorem lw_p101 : lw_okq (⟨"VariantDeskModel", "longer", "(IIIII)V"⟩, 53) := ⟨⟨by decide +kernel, by decide +kernel⟩, List.mem_of_getElem? (i := 1274) (by decide +kernel), List.mem_of_getElem? (i := 1687) (by decide +kernel), List.mem_of_getElem? (i := 1688) (by decide +kernel)⟩
theorem lw_p102 : lw_okq (⟨"VariantDeskModel", "joinCalls", "(IIII)V"⟩, 53) := ⟨⟨by decide +kernel, by decide +kernel⟩, List.mem_of_getElem? (i := 1274) (by decide +kernel), List.mem_of_getElem? (i := 1691) (by decide +kernel), List.mem_of_getElem? (i := 1692) (by decide +kernel)⟩
theorem lw_p103 : lw_okq (⟨"VariantDeskModel", "callAt", "(III)I"⟩, 53) := ⟨⟨by decide +kernel, by decide +kernel⟩, List.mem_of_getElem? (i := 1274) (by decide +kernel), List.mem_of_getElem? (i := 1695) (by decide +kernel), List.mem_of_getElem? (i := 1696) (by decide +kernel)⟩
theorem lw_p104 : lw_okq (⟨"VariantDeskModel", "sortInto", "(II)I"⟩, 53) := ⟨⟨by decide +kernel, by decide +kernel⟩, List.mem_of_getElem? (i := 1274) (by decide +kernel), List.mem_of_getElem? (i := 1703) (by decide +kernel), List.mem_of_getElem? (i := 1704) (by decide +kernel)⟩
theorem lw_p105 : lw_okq (⟨"VariantDeskModel", "rank", "(II)I"⟩, 53) := ⟨⟨by decide +kernel, by decide +kernel⟩, List.mem_of_getElem? (i := 1274) (by decide +kernel), List.mem_of_getElem? (i := 1707) (by decide +kernel), List.mem_of_getElem? (i := 1708) (by decide +kernel)⟩
theorem lw_p106 : lw_okq (⟨"VariantDeskModel", "isBefore", "(II)Z"⟩, 53) := ⟨⟨by decide +kernel, by decide +kernel⟩, List.mem_of_getElem? (i := 1274) (by decide +kernel), List.mem_of_getElem? (i := 1711) (by decide +kernel), List.mem_of_getElem? (i := 1712) (by decide +kernel)⟩
theorem lw_p107 : lw_okq (⟨"VariantDeskModel", "sameRecord", "(II)Z"⟩, 53) := ⟨⟨by decide +kernel, by decide +kernel⟩, List.mem_of_getElem? (i := 1274) (by decide +kernel), List.mem_of_getElem? (i := 1719) (by decide +kernel), List.mem_of_getElem? (i := 1720) (by decide +kernel)⟩
theorem lw_p108 : lw_okq (⟨"VariantDeskModel", "noCalls", "(II)V"⟩, 53) := ⟨⟨by decide +kernel, by decide +kernel⟩, List.mem_of_getElem? (i := 1274) (by decide +kernel), List.mem_of_getElem? (i := 1723) (by decide +kernel), List.mem_of_getElem? (i := 1724) (by decide +kernel)⟩
theorem lw_p109 : lw_okq (⟨"VariantDeskModel", "nextCalled", "(IIIII)I"⟩, 53) := ⟨⟨by decide +kernel, by decide +kernel⟩, List.mem_of_getElem? (i := 1274) (by decide +kernel), List.mem_of_getElem? (i := 1731) (by decide +kernel), List.mem_of_getElem? (i := 1732) (by decide +kernel)⟩
theorem lw_p110 : lw_okq (⟨"VariantDeskModel", "add", "(II)V"⟩, 53) := ⟨⟨by decide +kernel, by decide +kernel⟩, List.mem_of_getElem? (i := 1274) (by decide +kernel), List.mem_of_getElem? (i := 1735) (by decide +kernel), List.mem_of_getElem? (i := 1736) (by decide +kernel)⟩
theorem lw_p111 : lw_okq (⟨"VariantDeskModel", "addRow", "(II)I"⟩, 53) := ⟨⟨by decide +kernel, by decide +kernel⟩, List.mem_of_getElem? (i := 1274) (by decide +kernel), List.mem_of_getElem? (i := 1739) (by decide +kernel), List.mem_of_getElem? (i := 1740) (by decide +kernel)⟩
def lw_privs_7 : List (MethodName × Nat) := [(⟨"VariantDeskModel", "allLong", "(I)Z"⟩, 53), (⟨"VariantDeskModel", "toFront", "(II)V"⟩, 53), (⟨"VariantDeskModel", "beginAlike", "(I)Z"⟩, 53), (⟨"VariantDeskModel", "fromFront", "(I)V"⟩, 53), (⟨"VariantDeskModel", "tryJoin", "(III)Z"⟩, 53), (⟨"VariantDeskModel", "longer", "(IIIII)V"⟩, 53), (⟨"VariantDeskModel", "joinCalls", "(IIII)V"⟩, 53), (⟨"VariantDeskModel", "callAt", "(III)I"⟩, 53), (⟨"VariantDeskModel", "sortInto", "(II)I"⟩, 53), (⟨"VariantDeskModel", "rank", "(II)I"⟩, 53), (⟨"VariantDeskModel", "isBefore", "(II)Z"⟩, 53), (⟨"VariantDeskModel", "sameRecord", "(II)Z"⟩, 53), (⟨"VariantDeskModel", "noCalls", "(II)V"⟩, 53), (⟨"VariantDeskModel", "nextCalled", "(IIIII)I"⟩, 53), (⟨"VariantDeskModel", "add", "(II)V"⟩, 53), (⟨"VariantDeskModel", "addRow", "(II)I"⟩, 53)]
theorem lw_r7 : ∀ q ∈ lw_privs_7, lw_okq q := List.forall_mem_cons.mpr ⟨lw_p96, List.forall_mem_cons.mpr ⟨lw_p97, List.forall_mem_cons.mpr ⟨lw_p98, List.forall_mem_cons.mpr ⟨lw_p99, List.forall_mem_cons.mpr ⟨lw_p100, List.forall_mem_cons.mpr ⟨lw_p101, List.forall_mem_cons.mpr ⟨lw_p102, List.forall_mem_cons.mpr ⟨lw_p103, List.forall_mem_cons.mpr ⟨lw_p104, List.forall_mem_cons.mpr ⟨lw_p105, List.forall_mem_cons.mpr ⟨lw_p106, List.forall_mem_cons.mpr ⟨lw_p107, List.forall_mem_cons.mpr ⟨lw_p108, List.forall_mem_cons.mpr ⟨lw_p109, List.forall_mem_cons.mpr ⟨lw_p110, List.forall_mem_cons.mpr ⟨lw_p111, fun _ h => absurd h List.not_mem_nil⟩⟩⟩⟩⟩⟩⟩⟩⟩⟩⟩⟩⟩⟩⟩⟩
theorem lw_p112 : lw_okq (⟨"VariantDeskModel", "calledMany", "(IIII)I"⟩, 53) := ⟨⟨by decide +kernel, by decide +kernel⟩, List.mem_of_getElem? (i := 1274) (by decide +kernel), List.mem_of_getElem? (i := 1743) (by decide +kernel), List.mem_of_getElem? (i := 1744) (by decide +kernel)⟩
theorem lw_p113 : lw_okq (⟨"VariantDeskModel", "lengthWith", "(I)I"⟩, 53) := ⟨⟨by decide +kernel, by decide +kernel⟩, List.mem_of_getElem? (i := 1274) (by decide +kernel), List.mem_of_getElem? (i := 1759) (by decide +kernel), List.mem_of_getElem? (i := 1760) (by decide +kernel)⟩
theorem lw_p114 : lw_okq (⟨"VariantDeskModel", "letterWith", "(II)I"⟩, 53) := ⟨⟨by decide +kernel, by decide +kernel⟩, List.mem_of_getElem? (i := 1274) (by decide +kernel), List.mem_of_getElem? (i := 1763) (by decide +kernel), List.mem_of_getElem? (i := 1764) (by decide +kernel)⟩
theorem lw_p115 : lw_okq (⟨"VariantDeskModel", "putText", "(I)V"⟩, 53) := ⟨⟨by decide +kernel, by decide +kernel⟩, List.mem_of_getElem? (i := 1274) (by decide +kernel), List.mem_of_getElem? (i := 1771) (by decide +kernel), List.mem_of_getElem? (i := 1772) (by decide +kernel)⟩
theorem lw_p116 : lw_okq (⟨"VariantDeskModel", "put", "(I)V"⟩, 53) := ⟨⟨by decide +kernel, by decide +kernel⟩, List.mem_of_getElem? (i := 1274) (by decide +kernel), List.mem_of_getElem? (i := 1775) (by decide +kernel), List.mem_of_getElem? (i := 1776) (by decide +kernel)⟩
theorem lw_p117 : lw_okq (⟨"VariantDeskModel", "putRecord", "(II)V"⟩, 53) := ⟨⟨by decide +kernel, by decide +kernel⟩, List.mem_of_getElem? (i := 1274) (by decide +kernel), List.mem_of_getElem? (i := 1779) (by decide +kernel), List.mem_of_getElem? (i := 1780) (by decide +kernel)⟩
theorem lw_p118 : lw_okq (⟨"VariantDeskModel", "putNumber", "(I)V"⟩, 53) := ⟨⟨by decide +kernel, by decide +kernel⟩, List.mem_of_getElem? (i := 1274) (by decide +kernel), List.mem_of_getElem? (i := 1783) (by decide +kernel), List.mem_of_getElem? (i := 1784) (by decide +kernel)⟩
theorem lw_p119 : lw_okq (⟨"VariantDeskModel", "putRow", "(II)V"⟩, 53) := ⟨⟨by decide +kernel, by decide +kernel⟩, List.mem_of_getElem? (i := 1274) (by decide +kernel), List.mem_of_getElem? (i := 1787) (by decide +kernel), List.mem_of_getElem? (i := 1788) (by decide +kernel)⟩
theorem lw_p120 : lw_okq (⟨"VariantDeskModel", "putCall", "(I)V"⟩, 53) := ⟨⟨by decide +kernel, by decide +kernel⟩, List.mem_of_getElem? (i := 1274) (by decide +kernel), List.mem_of_getElem? (i := 1791) (by decide +kernel), List.mem_of_getElem? (i := 1792) (by decide +kernel)⟩
def lw_privs_8 : List (MethodName × Nat) := [(⟨"VariantDeskModel", "calledMany", "(IIII)I"⟩, 53), (⟨"VariantDeskModel", "lengthWith", "(I)I"⟩, 53), (⟨"VariantDeskModel", "letterWith", "(II)I"⟩, 53), (⟨"VariantDeskModel", "putText", "(I)V"⟩, 53), (⟨"VariantDeskModel", "put", "(I)V"⟩, 53), (⟨"VariantDeskModel", "putRecord", "(II)V"⟩, 53), (⟨"VariantDeskModel", "putNumber", "(I)V"⟩, 53), (⟨"VariantDeskModel", "putRow", "(II)V"⟩, 53), (⟨"VariantDeskModel", "putCall", "(I)V"⟩, 53)]
theorem lw_r8 : ∀ q ∈ lw_privs_8, lw_okq q := List.forall_mem_cons.mpr ⟨lw_p112, List.forall_mem_cons.mpr ⟨lw_p113, List.forall_mem_cons.mpr ⟨lw_p114, List.forall_mem_cons.mpr ⟨lw_p115, List.forall_mem_cons.mpr ⟨lw_p116, List.forall_mem_cons.mpr ⟨lw_p117, List.forall_mem_cons.mpr ⟨lw_p118, List.forall_mem_cons.mpr ⟨lw_p119, List.forall_mem_cons.mpr ⟨lw_p120, fun _ h => absurd h List.not_mem_nil⟩⟩⟩⟩⟩⟩⟩⟩⟩
def lw_privs : List (MethodName × Nat) := lw_privs_1 ++ (lw_privs_2 ++ (lw_privs_3 ++ (lw_privs_4 ++ (lw_privs_5 ++ (lw_privs_6 ++ (lw_privs_7 ++ (lw_privs_8)))))))
def lw_tbl : List Cond := k2_sels lw_privs ++ tables_1
theorem lw_privs_ok : ∀ q ∈ lw_privs, lw_okq q := by
  show ∀ q ∈ lw_privs_1 ++ (lw_privs_2 ++ (lw_privs_3 ++ (lw_privs_4 ++ (lw_privs_5 ++ (lw_privs_6 ++ (lw_privs_7 ++ (lw_privs_8))))))), lw_okq q
  exact List.forall_mem_append.mpr ⟨lw_r1, List.forall_mem_append.mpr ⟨lw_r2, List.forall_mem_append.mpr ⟨lw_r3, List.forall_mem_append.mpr ⟨lw_r4, List.forall_mem_append.mpr ⟨lw_r5, List.forall_mem_append.mpr ⟨lw_r6, List.forall_mem_append.mpr ⟨lw_r7, lw_r8⟩⟩⟩⟩⟩⟩⟩
-- ===== end of PART A; then your names; then what follows =====
end
section
/-! ===== BEGIN words of one list among another's, by their places ===== -/
theorem goodIn_r {big : List Cond} (ws : List Cond) (ps : List Nat) (hp : ws = ps.filterMap (fun i => big[i]?)) (h : ws.all goodWord = true) : GoodIn big ws := by
  intro w hw
  have h1 := List.all_eq_true.mp h w hw
  rw [hp] at hw
  obtain ⟨i, -, hi⟩ := List.mem_filterMap.mp hw
  have hm : w ∈ big := by first | exact List.mem_of_getElem? hi | exact List.getElem?_mem hi
  exact ⟨hm, good_of_word h1⟩
theorem goodIn_app {big a b : List Cond} (ha : GoodIn big a) (hb : GoodIn big b) : GoodIn big (a ++ b) := fun w h => (List.mem_append.mp h).elim (ha w) (hb w)
theorem goodIn_ca {big a b : List Cond} {c : Cond} (ha : GoodIn big (c :: a)) (hb : GoodIn big b) : GoodIn big (c :: (a ++ b)) := fun w h => (List.mem_cons.mp h).elim (fun e => ha w (List.mem_cons.mpr (Or.inl e))) (fun h => (List.mem_append.mp h).elim (fun h => ha w (List.mem_cons.mpr (Or.inr h))) (hb w))
theorem goodIn_sub {big ws : List Cond} (hm : ∀ w ∈ ws, w ∈ big) (h : ws.all goodWord = true) : GoodIn big ws := fun w hw => ⟨hm w hw, good_of_word (List.all_eq_true.mp h w hw)⟩
/-! ===== END ===== -/

/-! ===== BEGIN exceptions that leave a method, and their catching by the caller (launches without stack traces) ===== -/
section VXA
/-! The laws vx_back, vx_callV, vx_callS, vx_callSW, vx_throw0, vx_throwS follow proofs of the library, with one case more: JvmDerived/Free/Laws.lean (Back.of_free), Shelf42/LK1.lean (callV, callS), Shelf/KitTraced.lean (throwNew0V, throwNewS). -/
def vx_T (XC : String → State → State → Prop) (st : State) (q : Addr) (t : State) (mc ms : Nat) (free : Addr → Prop) : Prop :=
  ∃ (E : String) (ce : Cell) (L : List Loc), XC E st t ∧ t.heap[q]? = some ce ∧ ce.vm = .none ∧ st.vm.findClass E = some ce.cls ∧ st.WarmedH t.vm ∧ st.sameButNew ({ t with vm := st.vm } : State) L mc ms ∧ ∀ z ∈ L, free z.base
def vx_Q (Qc : Array Value → State → Outcome → State → Prop) (XC : String → State → State → Prop) (mc ms : Nat) (free : Addr → Prop) : Array Value → State → Outcome → State → Prop := fun a st o t =>
  (Qc a st o t ∧ ∃ L, FrameEnd st o t L mc ms ∧ ∀ q ∈ L, free q.base) ∨ ∃ q, o = .threw q ∧ vx_T XC st q t mc ms free
def vx_Met (l : Launch) (y : MethodName) (ws : List Cond) (rm : Room) (Pc : Array Value → State → Prop) (Qc : Array Value → State → Outcome → State → Prop) (XC : String → State → State → Prop) (mc ms : Nat) (free : Addr → Prop) : Prop :=
  MetFree l y (headSpec ws rm) Pc (fun _ _ _ _ _ => True) (vx_Q Qc XC mc ms free)
def vx_Post (XC : String → State → State → Prop) (mc ms : Nat) (free : Addr → Prop) : Pt → Array Value → Addr → Pt → Prop := fun A a q B =>
  ∃ (g : JFrame) (mk : MethodId) (t : State) (L : List Loc) (E : String) (ce : Cell), B.U.heap = t.heap ∧ B.U.vm = t.vm ∧ XC E (A.U.calling g mk a) t ∧ t.heap[q]? = some ce ∧ ce.vm = .none ∧ A.U.vm.findClass E = some ce.cls ∧ B.locs = A.locs ++ L ∧ (∀ z ∈ L, free z.base) ∧ B.cells = A.cells + mc ∧ B.slots = A.slots + ms
def vx_Back (l : Launch) (R : Room) (p : Program) (e : Env) (below : List Frame) (s : State) (sargs : Array Value) (y : MethodName) (len W9 : Nat)
    (Pre : Pt → Array Value → Prop) (Post : Pt → Array Value → Option Value → Pt → Prop) (PostX : Pt → Array Value → Addr → Pt → Prop) : Prop :=
  ∀ (m : MethodId) (meth : Method) (c : Code) (A : Pt) (g : JFrame) (ig : Instr) (mk : MethodId) (a : Array Value),
    Stand p l e R s m sargs below meth c A.U A.locs A.cells A.slots → g.method = m → g.locals.size = c.maxLocals → decode c.code g.pc = .ok (ig, len) →
    2 * g.monitorRoom + (g.stack.map fun v => v.category).sum ≤ W9 → A.U.methodNamed? y = some mk → Pre A a →
    (∃ (v : Option Value) (B : Pt), Stand p l e R s m sargs below meth c B.U B.locs B.cells B.slots ∧ Post A a v B ∧
      Steps p.tables e below (doInvoke e (A.U.setTop g) [] mk a).1 (B.U.setTop { g with pc := g.pc + len, stack := v.toList ++ g.stack })) ∨
    (∃ (q : Addr) (B : Pt), Stand p l e R s m sargs below meth c B.U B.locs B.cells B.slots ∧ PostX A a q B ∧
      Steps p.tables e below (doInvoke e (A.U.setTop g) [] mk a).1 ((B.U.setTop g).pushFrame (.throwing q)))
section Payer
variable {l : Launch} {R : Room} {p : Program} {e : Env} {below : List Frame} {s : State} {sargs : Array Value} {y : MethodName} {len W9 : Nat}
theorem vx_back {ws : List Cond} {rm : Room} {Pc : Array Value → State → Prop} {Qc : Array Value → State → Outcome → State → Prop} {XC : String → State → State → Prop} {mc ms : Nat} {free : Addr → Prop} {bytes : ByteArray} {maxL : Nat} {ret : Option FieldType}
    (hM : vx_Met l y ws rm Pc Qc XC mc ms free) (hblind : FrameBlind Pc) (hrc : rm.cells = mc) (hrs : rm.slots = ms)
    (hframes : rm.frames + 1 ≤ R.frames) (hlocals : W9 + (maxL + 11) + rm.locals ≤ R.locals)
    (hws : ∀ w ∈ ws, ∀ a' U, s.WarmedH U.vm → w.before a' U = true) (hcode : Cond.code y bytes maxL ret ∈ ws) (hinit : ∀ a' U, s.WarmedH U.vm → (Cond.initialized y.cls).before a' U = true) :
    vx_Back l R p e below s sargs y len W9 (PreOf R mc ms Pc) (PostOf Qc mc ms free) (vx_Post XC mc ms free) := by
  intro m meth c A g ig mk a X hg hsize hdg hW hn hp
  have h1 : (headSpec ws rm).pre.before a A.U = true := atoms_intro fun w hw => hws w hw _ _ X.warmed
  have h2 : (Cond.code y bytes maxL ret).before a A.U = true := hws _ hcode _ _ X.warmed
  have h3 : (Cond.initialized y.cls).before a A.U = true := hinit _ _ X.warmed
  have h4 : A.cells + (headSpec ws rm).room.cells ≤ R.cells := by rw [show (headSpec ws rm).room.cells = mc from hrc]; exact hp.1
  have h5 : A.slots + (headSpec ws rm).room.slots ≤ R.slots := by rw [show (headSpec ws rm).room.slots = ms from hrs]; exact hp.2.1
  have hPc : Pc a (A.U.calling g mk a) := hblind _ _ _ _ hp.2.2
  obtain ⟨U, Ls, c0, s0⟩ := A
  dsimp only [Pt.U, Pt.locs, Pt.cells, Pt.slots] at h1 h2 h3 h4 h5 X hn hPc ⊢
  obtain ⟨methY, cY, hmY, hcY, -, hlY, -, -, -, -⟩ := Cond.code_spec hn h2
  obtain ⟨kY, hkY, -⟩ := className_of_methodNamed hn
  have hinitY : kY.init = .initialized := Cond.initialized_spec (findClass_of_methodNamed hn) hkY h3
  have h : At U g.method c below := by rw [hg]; exact X.here
  have hlocals9 : W9 + (maxL + 11) + (headSpec ws rm).room.locals ≤ R.locals := hlocals
  have happ : (headSpec ws rm).appliesLoose y e.platform (U.calling g mk a) = true :=
    Spec.appliesLoose_calling (g := g) h hdg hn hkY hinitY
      (X.room_calling (g := g) (R' := (headSpec ws rm).room) hsize hmY hcY hframes (by rw [hlY]; omega) h4 h5) h1
  obtain ⟨mid, hmid⟩ := h.above
  have hfr : (U.setTop g).frames = (.java g :: mid) ++ below := by rw [State.frames_setTop' g h.top, hmid]; rfl
  obtain ⟨o, s₂, hsteps, -, hend, hq⟩ := Steps.callFree hM p X.admits X.cas X.clock (acts := []) hfr happ hPc trivial
  have hq' : vx_Q Qc XC mc ms free a (U.calling g mk a) o s₂ := hq
  rw [State.frames_setTop' g h.top] at hend
  obtain ⟨g₀, hg0⟩ := Option.isSome_iff_exists.mp h.top
  obtain ⟨r, hr⟩ := State.topJava?_eq_some.mp hg0
  have hr' : (({ U with heap := s₂.heap, slotsUsed := s₂.slotsUsed } : State).setVm s₂.vm).frames = .java g₀ :: r := hr
  rcases hq' with ⟨hqc, L, hfe, hL⟩ | ⟨q, rfl, E, ce, L, hx, hce, hcv, hcl, hW₂, hsm, hL⟩
  · obtain ⟨⟨v, rfl⟩, hW₂, e2, q2, q3, q4, q5, q6⟩ := id hfe
    have e3 : s₂ = ({ (U.calling g mk a).setFrames s₂.frames with heap := s₂.heap, slotsUsed := s₂.slotsUsed } : State).setVm s₂.vm := by
      have : s₂ = ({ s₂ with vm := (U.calling g mk a).vm } : State).setVm s₂.vm := rfl
      rw [e2] at this
      exact this
    obtain ⟨c₂, i₂, len₂, hc₂, hd₂, hf₂⟩ := hend
    have hW' : U.WarmedH s₂.vm := hW₂
    have hcc : c₂ = c := by
      have h1 : s₂.code? g.method = U.code? g.method := by
        rw [State.code?_eq, State.code?_eq, hW'.alike.method?]
      exact Option.some.inj (hc₂.symm.trans (h1.trans h.code))
    subst hcc
    have hlen : len₂ = len := by rw [hdg] at hd₂; cases hd₂; rfl
    subst hlen
    have hs₂ : s₂ = (({ U with heap := s₂.heap, slotsUsed := s₂.slotsUsed } : State).setVm s₂.vm).setTop { g with pc := g.pc + len₂, stack := v.toList ++ g.stack } := by
      refine e3.trans ?_
      rw [hf₂, State.calling_eq h.top, State.setFrames_setFrames, State.setTop_of_frames _ hr', hr]
      rfl
    have hsame : U.sameButNew ({ U with heap := s₂.heap, slotsUsed := s₂.slotsUsed } : State) L mc ms := by
      refine ⟨?_, q2, q3, q4, q5, q6⟩
      obtain ⟨t, ht, -⟩ := State.frames_cons hr
      show ({ U with heap := s₂.heap, slotsUsed := s₂.slotsUsed } : State) = { U.setFrames U.frames with heap := s₂.heap, slotsUsed := s₂.slotsUsed }
      rw [State.setFrames_self ht]
    subst hg
    refine Or.inl ⟨v, ⟨(({ U with heap := s₂.heap, slotsUsed := s₂.slotsUsed } : State).setVm s₂.vm), Ls ++ L, c0 + mc, s0 + ms⟩,
      ⟨X.admits, X.cas, X.clock, X.frames, X.room, X.hears, X.method, X.code, (X.here.setHeapUsed s₂.heap s₂.slotsUsed).setVm hW'.alike, X.tail, State.WarmedH.trans X.warmed hW', X.limits, X.bytes, X.same.trans (hsame.setVm s.vm)⟩,
      ⟨g, mk, s₂, L, rfl, rfl, hqc, rfl, hL, rfl, rfl⟩, ?_⟩
    show Steps p.tables e below _ ((({ U with heap := s₂.heap, slotsUsed := s₂.slotsUsed } : State).setVm s₂.vm).setTop { g with pc := g.pc + len₂, stack := v.toList ++ g.stack })
    rw [← hs₂]
    exact hsteps
  · obtain ⟨e2, q2, q3, q4, q5, q6⟩ := id hsm
    have e3 : s₂ = ({ (U.calling g mk a).setFrames s₂.frames with heap := s₂.heap, slotsUsed := s₂.slotsUsed } : State).setVm s₂.vm := by
      have : s₂ = ({ s₂ with vm := (U.calling g mk a).vm } : State).setVm s₂.vm := rfl
      rw [e2] at this
      exact this
    have hf₂ : s₂.frames = .throwing q :: .java g :: U.frames.tail := hend
    have hW' : U.WarmedH s₂.vm := hW₂
    have hs₂ : s₂ = ((({ U with heap := s₂.heap, slotsUsed := s₂.slotsUsed } : State).setVm s₂.vm).setTop g).pushFrame (.throwing q) := by
      refine e3.trans ?_
      rw [hf₂, State.calling_eq h.top, State.setFrames_setFrames, State.pushFrame, State.frames_setTop _ hr', State.setTop_of_frames _ hr', State.setFrames_setFrames, hr]
      rfl
    have hsame : U.sameButNew ({ U with heap := s₂.heap, slotsUsed := s₂.slotsUsed } : State) L mc ms := by
      refine ⟨?_, q2, q3, q4, q5, q6⟩
      obtain ⟨t, ht, -⟩ := State.frames_cons hr
      show ({ U with heap := s₂.heap, slotsUsed := s₂.slotsUsed } : State) = { U.setFrames U.frames with heap := s₂.heap, slotsUsed := s₂.slotsUsed }
      rw [State.setFrames_self ht]
    subst hg
    refine Or.inr ⟨q, ⟨(({ U with heap := s₂.heap, slotsUsed := s₂.slotsUsed } : State).setVm s₂.vm), Ls ++ L, c0 + mc, s0 + ms⟩,
      ⟨X.admits, X.cas, X.clock, X.frames, X.room, X.hears, X.method, X.code, (X.here.setHeapUsed s₂.heap s₂.slotsUsed).setVm hW'.alike, X.tail, State.WarmedH.trans X.warmed hW', X.limits, X.bytes, X.same.trans (hsame.setVm s.vm)⟩,
      ⟨g, mk, s₂, L, E, ce, rfl, rfl, hx, hce, hcv, hcl, rfl, hL, rfl, rfl⟩, ?_⟩
    show Steps p.tables e below _ (((({ U with heap := s₂.heap, slotsUsed := s₂.slotsUsed } : State).setVm s₂.vm).setTop g).pushFrame (.throwing q))
    rw [← hs₂]
    exact hsteps
end Payer
section Calls
variable {p : Program} {l : Launch} {e : Env} {R : Room} {s : State} {m : MethodId} {args : Array Value} {below : List Frame} {meth : Method} {c : Code} {T : State} {locs : List Loc} {cells slots : Nat}
theorem vx_callV (X : Stand p l e R s m args below meth c T locs cells slots) (hexec : p.tables.exec = Jvm.exec) {own C : String} {index : Nat} {y : MethodName} {bytes : ByteArray} {maxL : Nat} {ret : Option FieldType}
    (hown : s.vm.findClass own = some m.cls) (hlink : (Cond.methodLink own index y).before args s = true) (hinst : (Cond.instanceMethod y).before args s = true) (hsel : (Cond.selects C y y).before args s = true)
    (hcode : (Cond.code y bytes maxL ret).before args s = true) (hy : y.cls ≠ "java/lang/invoke/MethodHandle" ∧ y.cls ≠ "java/lang/invoke/VarHandle")
    {W9 : Nat} {Pre : Pt → Array Value → Prop} {Post : Pt → Array Value → Option Value → Pt → Prop} {PostX : Pt → Array Value → Addr → Pt → Prop} (hK : vx_Back l R p e below s args y 3 W9 Pre Post PostX)
    {b : Addr} {cellB : Cell} (hcell : T.heap[b]? = some cellB) (hobj : cellB.vm.isStatics = false) (hcls : s.vm.findClass C = some cellB.cls)
    {g : JFrame} (hg : g.method = m) (hsize : g.locals.size = c.maxLocals) {argsL rest : List Value} (hlen : ∀ sig, parseMethodDescriptor y.desc = some sig → argsL.length = sig.parameters.length)
    (hstack : g.stack = argsL.reverse ++ .ref b :: rest) (hW : 2 * g.monitorRoom + (rest.map fun v => v.category).sum ≤ W9) (hdg : decode c.code g.pc = .ok (.invokevirtual index, 3))
    (hpre : ∀ vm₁, s.WarmedH vm₁ → Pre ⟨T.setVm vm₁, locs, cells, slots⟩ (Value.ref b :: argsL).toArray) :
    (∃ (v : Option Value) (vm₁ : Vm) (B : Pt), s.WarmedH vm₁ ∧ Stand p l e R s m args below meth c B.U B.locs B.cells B.slots ∧ Post ⟨T.setVm vm₁, locs, cells, slots⟩ (Value.ref b :: argsL).toArray v B ∧
      ∀ target, Steps p.tables e below (B.U.setTop { g with pc := g.pc + 3, stack := v.toList ++ rest }) target → Steps p.tables e below (T.setTop g) target) ∨
    (∃ (q : Addr) (vm₁ : Vm) (B : Pt), s.WarmedH vm₁ ∧ Stand p l e R s m args below meth c B.U B.locs B.cells B.slots ∧ PostX ⟨T.setVm vm₁, locs, cells, slots⟩ (Value.ref b :: argsL).toArray q B ∧
      Steps p.tables e below (T.setTop g) ((B.U.setTop { g with stack := rest }).pushFrame (.throwing q))) := by
  obtain ⟨mk, methM, hnamed, hmethM, hstM, habM⟩ := Cond.instanceMethod_spec hinst
  obtain ⟨methM', cM, hmethM', -, -, -, -, -, -, hsigM⟩ := Cond.code_spec hnamed hcode
  cases hmethM.symm.trans hmethM'
  obtain ⟨c2, r2, m2, q1, q2, q3, q4, kP, hkP, hkPi⟩ := Cond.selects_spec hsel
  cases hcls.symm.trans q1
  cases (State.methodFound?_of_named hnamed hy).symm.trans q2
  cases hnamed.symm.trans q3
  have hselP : selectMethod e.platform s.vm cellB.cls mk = .method mk := by rw [Launch.admits_selectMethod X.admits]; exact q4
  obtain ⟨vm₁, X₁, hstep₁⟩ := X.invokevirtual hexec hown hlink hnamed hmethM hstM hkP hkPi hy (a := b) (cell := cellB) hcell
    (fun z h => by rw [h] at hobj; cases hobj) hselP hmethM habM hkP hkPi (g := g) hg (argsL := argsL) (rest := rest) (hlen _ hsigM) hstack hdg
  rcases hK m meth c ⟨T.setVm vm₁, locs, cells, slots⟩ { g with stack := rest } (.invokevirtual index) mk (Value.ref b :: argsL).toArray X₁ hg hsize hdg hW (X₁.named hnamed) (hpre vm₁ X₁.warmed) with ⟨v, B, X', hpost, hsteps⟩ | ⟨q, B, X', hpost, hsteps⟩
  · exact Or.inl ⟨v, vm₁, B, X₁.warmed, X', hpost, fun target h => hstep₁ _ fun acts => by rw [doInvoke_state]; exact hsteps.trans h⟩
  · exact Or.inr ⟨q, vm₁, B, X₁.warmed, X', hpost, hstep₁ _ fun acts => by rw [doInvoke_state]; exact hsteps⟩
theorem vx_callS (X : Stand p l e R s m args below meth c T locs cells slots) (hexec : p.tables.exec = Jvm.exec) {own : String} {index : Nat} {y : MethodName} {bytes : ByteArray} {maxL : Nat} {ret : Option FieldType}
    (hown : s.vm.findClass own = some m.cls) (hlink : (Cond.methodLink own index y).before args s = true) (hstat : (Cond.static y).before args s = true) (hinit : (Cond.initialized y.cls).before args s = true)
    (hcode : (Cond.code y bytes maxL ret).before args s = true) (hy : y.cls ≠ "java/lang/invoke/MethodHandle" ∧ y.cls ≠ "java/lang/invoke/VarHandle")
    {W9 : Nat} {Pre : Pt → Array Value → Prop} {Post : Pt → Array Value → Option Value → Pt → Prop} {PostX : Pt → Array Value → Addr → Pt → Prop} (hK : vx_Back l R p e below s args y 3 W9 Pre Post PostX)
    {g : JFrame} (hg : g.method = m) (hsize : g.locals.size = c.maxLocals) {argsL rest : List Value} (hlen : ∀ sig, parseMethodDescriptor y.desc = some sig → argsL.length = sig.parameters.length)
    (hstack : g.stack = argsL.reverse ++ rest) (hW : 2 * g.monitorRoom + (rest.map fun v => v.category).sum ≤ W9) (hdg : decode c.code g.pc = .ok (.invokestatic index, 3))
    (hpre : ∀ vm₁, s.WarmedH vm₁ → Pre ⟨T.setVm vm₁, locs, cells, slots⟩ argsL.toArray) :
    (∃ (v : Option Value) (vm₁ : Vm) (B : Pt), s.WarmedH vm₁ ∧ Stand p l e R s m args below meth c B.U B.locs B.cells B.slots ∧ Post ⟨T.setVm vm₁, locs, cells, slots⟩ argsL.toArray v B ∧
      ∀ target, Steps p.tables e below (B.U.setTop { g with pc := g.pc + 3, stack := v.toList ++ rest }) target → Steps p.tables e below (T.setTop g) target) ∨
    (∃ (q : Addr) (vm₁ : Vm) (B : Pt), s.WarmedH vm₁ ∧ Stand p l e R s m args below meth c B.U B.locs B.cells B.slots ∧ PostX ⟨T.setVm vm₁, locs, cells, slots⟩ argsL.toArray q B ∧
      Steps p.tables e below (T.setTop g) ((B.U.setTop { g with stack := rest }).pushFrame (.throwing q))) := by
  obtain ⟨mk, hnamed⟩ := Cond.code_named hcode
  obtain ⟨methM, cM, hmethM, -, -, -, -, -, -, hsigM⟩ := Cond.code_spec hnamed hcode
  have hstatic : methM.isStatic = true := Cond.static_spec hnamed hmethM hstat
  obtain ⟨kP, hkP, -⟩ := className_of_methodNamed hnamed
  have hinitP : kP.init = .initialized := Cond.initialized_spec (findClass_of_methodNamed hnamed) hkP hinit
  obtain ⟨vm₁, X₁, hstep₁⟩ := X.invokestatic hexec hown hlink hnamed hmethM hstatic hkP hinitP hy (g := g) hg (argsL := argsL) (rest := rest) (hlen _ hsigM) hstack hdg
  rcases hK m meth c ⟨T.setVm vm₁, locs, cells, slots⟩ { g with stack := rest } (.invokestatic index) mk argsL.toArray X₁ hg hsize hdg hW (X₁.named hnamed) (hpre vm₁ X₁.warmed) with ⟨v, B, X', hpost, hsteps⟩ | ⟨q, B, X', hpost, hsteps⟩
  · exact Or.inl ⟨v, vm₁, B, X₁.warmed, X', hpost, fun target h => hstep₁ _ fun acts => by rw [doInvoke_state]; exact hsteps.trans h⟩
  · exact Or.inr ⟨q, vm₁, B, X₁.warmed, X', hpost, hstep₁ _ fun acts => by rw [doInvoke_state]; exact hsteps⟩
end Calls
theorem vx_cls {s : State} {T : State} {vm₁ : Vm} {E : String} {k : ClassId} (hW : s.WarmedH vm₁) (h : (T.setVm vm₁).vm.findClass E = some k) : s.vm.findClass E = some k := by
  have h1 : vm₁.findClass E = some k := h
  rw [hW.alike.findClass] at h1
  exact h1
def vx_W (p : Program) (l : Launch) (e : Env) (R : Room) (s : State) (m : MethodId) (args : Array Value) (below : List Frame) (meth : Method) (c : Code) (H : Heap) (locs : List Loc) (cells slots : Nat) (Q : State → Prop) (g : JFrame) (q : Addr) : Prop :=
  ∀ T : State, T.heap = H → Stand p l e R s m args below meth c T locs cells slots → ∃ t, Steps p.tables e below ((T.setTop g).pushFrame (.throwing q)) t ∧ Q t
def vx_Run (p : Program) (l : Launch) (e : Env) (R : Room) (s : State) (m : MethodId) (args : Array Value) (below : List Frame) (meth : Method) (c : Code) (H : Heap) (locs : List Loc) (cells slots mc ms : Nat) (g : JFrame) (rest : List Value) (Qa : State → Outcome → State → Prop) (XC : String → State → State → Prop) (free : Addr → Prop) : Prop :=
  ∀ T : State, T.heap = H → Stand p l e R s m args below meth c T locs cells slots →
    (∃ (v : Option Value) (st₀ t T' : State) (L : List Loc), st₀.heap = H ∧ Stand p l e R s m args below meth c T' (locs ++ L) (cells + mc) (slots + ms) ∧ (∀ q ∈ L, free q.base) ∧ T'.heap = t.heap ∧ T'.vm = t.vm ∧ Qa st₀ (.returned v) t ∧
      Goes p e below T g T' { g with pc := g.pc + 3, stack := v.toList ++ rest }) ∨
    (∃ (q : Addr) (st₀ t T' : State) (L : List Loc) (E : String) (ce : Cell), st₀.heap = H ∧ Stand p l e R s m args below meth c T' (locs ++ L) (cells + mc) (slots + ms) ∧ (∀ z ∈ L, free z.base) ∧ T'.heap = t.heap ∧ T'.vm = t.vm ∧ XC E st₀ t ∧ t.heap[q]? = some ce ∧ ce.vm = .none ∧ s.vm.findClass E = some ce.cls ∧
      Steps p.tables e below (T.setTop g) ((T'.setTop { g with stack := rest }).pushFrame (.throwing q)))
def vx_X {S : Type} (px : S → Prop) (B : String → S → State → Prop) (A : Nat → Prop) : String → State → State → Prop := fun E st t => ∃ u : S, px u ∧ B E u t ∧ va_F A st t
section Runs
variable {p : Program} {l : Launch} {e : Env} {R : Room} {s : State} {m : MethodId} {args : Array Value} {below : List Frame} {meth : Method} {c : Code} {H : Heap} {locs : List Loc} {cells slots : Nat}
variable {y : MethodName} {bytes cc : ByteArray} {maxL nL mc ms n index : Nat} {ret : Option FieldType} {ws : List Cond} {rm : Room} {Pc : Array Value → State → Prop} {Qc : Array Value → State → Outcome → State → Prop} {XC : String → State → State → Prop} {free : Addr → Prop} {Ts : List Cond} {own C : String} {b : Addr} {As rest : List Value} {g : JFrame}
theorem vx_callBack (cb : CallB R s args own index y bytes maxL ret ws rm mc ms n) (hM : vx_Met l y ws rm Pc Qc XC mc ms free) (hbl : FrameBlind Pc) : vx_Back l R p e below s args y 3 8 (PreOf R mc ms Pc) (PostOf Qc mc ms free) (vx_Post XC mc ms free) := by
  obtain ⟨hrc, hrs, hfr, hlo, hws, hcw, -, hini, -⟩ := cb
  exact vx_back (bytes := bytes) (maxL := maxL) (ret := ret) hM hbl hrc hrs hfr hlo hws hcw (fun a' U hW => word_at hW (Or.inl (by first | rfl | simp [Cond.onTables, Cond.keeps, Cond.steady])) hini)
theorem vx_runV (S : CallFix p m c cc nL s args Ts own) (hM : vx_Met l y ws rm Pc Qc XC mc ms free) (cw : CallW R s args own C index y bytes maxL ret ws rm mc ms n) (hp : PreV s H C b Pc As)
    (hg : g.method = m) (hn : As.length = n) (hsize : g.locals.size = nL) (hstack : g.stack = As.reverse ++ .ref b :: rest) (hW : 2 * g.monitorRoom + (rest.map fun v => v.category).sum ≤ 8) (hdg : decode cc g.pc = .ok (.invokevirtual index, 3)) (hf : cells + mc ≤ R.cells ∧ slots + ms ≤ R.slots) :
    vx_Run p l e R s m args below meth c H locs cells slots mc ms g rest (Qc (Value.ref b :: As).toArray) XC free := by
  have hK : vx_Back l R p e below s args y 3 8 (PreOf R mc ms Pc) (PostOf Qc mc ms free) (vx_Post XC mc ms free) := vx_callBack cw.1 hM hp.1
  obtain ⟨⟨-, -, -, -, -, -, hcode, -, hy, hlen, hl⟩, hin, hse⟩ := cw
  obtain ⟨hx, hb, hml, ho, -⟩ := S
  obtain ⟨-, ⟨cellB, hcB, hoB, hclB⟩, hPc⟩ := hp
  intro T hT X
  rcases vx_callV X hx (C := C) (bytes := bytes) (maxL := maxL) (ret := ret) ho hl hin hse hcode hy hK (by rw [hT]; exact hcB) hoB hclB hg (hsize.trans hml.symm) (argsL := As) (rest := rest) (fun sig h => hn.trans (hlen sig h)) hstack hW (by rw [hb]; exact hdg)
    (fun vm₁ hW₁ => ⟨hf.1, hf.2, hPc (T.setVm vm₁) hT hW₁⟩) with ⟨v, vm₁, ⟨U', l2, c2, s2⟩, hW₁, X', ⟨g', mk, t, L, e1, e2, hq, h1, hL, h2, h3⟩, st⟩ | ⟨q, vm₁, ⟨U', l2, c2, s2⟩, hW₁, X', ⟨g', mk, t, L, E, ce, e1, e2, hq, hce, hcv, hcl, h1, hL, h2, h3⟩, st⟩
  · dsimp only [Pt.U, Pt.locs, Pt.cells, Pt.slots] at X' e1 e2 h1 h2 h3 st
    subst h1; subst h2; subst h3
    exact Or.inl ⟨v, (T.setVm vm₁).calling g' mk (Value.ref b :: As).toArray, t, U', L, hT, X', hL, e1, e2, hq, st⟩
  · dsimp only [Pt.U, Pt.locs, Pt.cells, Pt.slots] at X' e1 e2 h1 h2 h3 st hcl
    subst h1; subst h2; subst h3
    exact Or.inr ⟨q, (T.setVm vm₁).calling g' mk (Value.ref b :: As).toArray, t, U', L, E, ce, hT, X', hL, e1, e2, hq, hce, hcv, vx_cls hW₁ hcl, st⟩
theorem vx_runS (S : CallFix p m c cc nL s args Ts own) (hM : vx_Met l y ws rm Pc Qc XC mc ms free) (cw : CallB R s args own index y bytes maxL ret ws rm mc ms n ∧ (Cond.static y).before args s = true) (hp : PreS s H Pc As)
    (hg : g.method = m) (hn : As.length = n) (hsize : g.locals.size = nL) (hstack : g.stack = As.reverse ++ rest) (hW : 2 * g.monitorRoom + (rest.map fun v => v.category).sum ≤ 8) (hdg : decode cc g.pc = .ok (.invokestatic index, 3)) (hf : cells + mc ≤ R.cells ∧ slots + ms ≤ R.slots) :
    vx_Run p l e R s m args below meth c H locs cells slots mc ms g rest (Qc As.toArray) XC free := by
  have hK : vx_Back l R p e below s args y 3 8 (PreOf R mc ms Pc) (PostOf Qc mc ms free) (vx_Post XC mc ms free) := vx_callBack cw.1 hM hp.1
  obtain ⟨⟨-, -, -, -, -, -, hcode, hini, hy, hlen, hl⟩, hstt⟩ := cw
  obtain ⟨hx, hb, hml, ho, -⟩ := S
  intro T hT X
  rcases vx_callS X hx (bytes := bytes) (maxL := maxL) (ret := ret) ho hl hstt hini hcode hy hK hg (hsize.trans hml.symm) (argsL := As) (rest := rest) (fun sig h => hn.trans (hlen sig h)) hstack hW (by rw [hb]; exact hdg)
    (fun vm₁ hW₁ => ⟨hf.1, hf.2, hp.2 (T.setVm vm₁) hT hW₁⟩) with ⟨v, vm₁, ⟨U', l2, c2, s2⟩, hW₁, X', ⟨g', mk, t, L, e1, e2, hq, h1, hL, h2, h3⟩, st⟩ | ⟨q, vm₁, ⟨U', l2, c2, s2⟩, hW₁, X', ⟨g', mk, t, L, E, ce, e1, e2, hq, hce, hcv, hcl, h1, hL, h2, h3⟩, st⟩
  · dsimp only [Pt.U, Pt.locs, Pt.cells, Pt.slots] at X' e1 e2 h1 h2 h3 st
    subst h1; subst h2; subst h3
    exact Or.inl ⟨v, (T.setVm vm₁).calling g' mk As.toArray, t, U', L, hT, X', hL, e1, e2, hq, st⟩
  · dsimp only [Pt.U, Pt.locs, Pt.cells, Pt.slots] at X' e1 e2 h1 h2 h3 st hcl
    subst h1; subst h2; subst h3
    exact Or.inr ⟨q, (T.setVm vm₁).calling g' mk As.toArray, t, U', L, E, ce, hT, X', hL, e1, e2, hq, hce, hcv, vx_cls hW₁ hcl, st⟩
end Runs
section Rows
variable {p : Program} {l : Launch} {e : Env} {R : Room} {s : State} {m : MethodId} {args : Array Value} {below : List Frame} {meth : Method} {c : Code} {H : Heap} {locs : List Loc} {cells slots : Nat} {Q : State → Prop}
variable {mc ms : Nat} {free : Addr → Prop} {A0 A1 : Nat → Prop} {H0 : Heap} {a : Array Value} {pc : Nat} {ls : Array Slot} {st0 rest : List Value}
theorem vx_keep {st₀ t T' : State} {L : List Loc} (h0 : st₀.heap = H) (e1 : T'.heap = t.heap) (hS : va_S A0 H0 H locs) (hA : ∀ q, q < H.size → A1 q → A0 q) (hf : ∀ q, free q → A0 q) (hL : ∀ q ∈ L, free q.base) (hF : va_F A1 st₀ t) :
    H.size ≤ T'.heap.size ∧ (∀ q : Nat, q < H.size → ¬ A1 q → T'.heap[q]? = H[q]?) ∧ va_S A0 H0 T'.heap (locs ++ L) := by
  obtain ⟨hz, hk⟩ := hF
  rw [h0] at hz hk
  exact ⟨by rw [e1]; exact hz, fun q h1 h2 => by rw [e1]; exact hk q h1 h2,
    ⟨Nat.le_trans hS.1 (by rw [e1]; exact hz), fun q h1 h2 => by rw [e1, hk q (Nat.lt_of_lt_of_le h1 hS.1) (fun z => h2 (hA q (Nat.lt_of_lt_of_le h1 hS.1) z))]; exact hS.2.1 q h1 h2, fun q hq => by
      rcases List.mem_append.mp hq with h | h
      · exact hS.2.2 q h
      · exact hf _ (hL q h)⟩⟩
theorem vx_calli {S SX : Type} {post : Int32 → S → Prop} {px : SX → Prop} {B : S → State → Prop} {BX : String → SX → State → Prop} {AX : Nat → Prop} (hr : vx_Run p l e R s m args below meth c H locs cells slots mc ms (F0 m pc ls st0) rest (va_Qi post B A1 a) (vx_X px BX AX) free) (hS : va_S A0 H0 H locs) (hA : ∀ q, q < H.size → A1 q → A0 q) (hf : ∀ q, free q → A0 q) (hAX : ∀ q, q < H.size → AX q → A0 q)
    (kx : ∀ (E : String) (ce : Cell) (q9 : Addr) (u : SX) (t : State) (H1 : Heap) (locs1 : List Loc), t.heap = H1 → s.vm.Alike t.vm → px u → BX E u t → H.size ≤ H1.size → (∀ q : Nat, q < H.size → ¬ AX q → H1[q]? = H[q]?) → va_S A0 H0 H1 locs1 → H1[q9]? = some ce → ce.vm = .none → s.vm.findClass E = some ce.cls → vx_W p l e R s m args below meth c H1 locs1 (cells + mc) (slots + ms) Q (F0 m pc ls rest) q9)
    (kk : ∀ (r : Int32) (u : S) (t : State) (H1 : Heap) (locs1 : List Loc), t.heap = H1 → s.vm.Alike t.vm → post r u → B u t → H.size ≤ H1.size → (∀ q : Nat, q < H.size → ¬ A1 q → H1[q]? = H[q]?) → va_S A0 H0 H1 locs1 → W p l e R s m args below meth c H1 locs1 (cells + mc) (slots + ms) Q (F0 m (pc + 3) ls (.int r :: rest))) : W p l e R s m args below meth c H locs cells slots Q (F0 m pc ls st0) := by
  intro T hT X
  rcases hr T hT X with ⟨v, st₀, t, T', L, h0, X', hL, e1, e2, ⟨⟨r, u, hv, hp, hb⟩, hF⟩, st⟩ | ⟨q, st₀, t, T', L, E, ce, h0, X', hL, e1, e2, ⟨u, hp, hb, hF⟩, hce, hcv, hcl, st⟩
  · cases hv
    obtain ⟨k1, k2, k3⟩ := vx_keep h0 e1 hS hA hf hL hF
    obtain ⟨t2, a1, b1⟩ := kk r u t T'.heap (locs ++ L) e1.symm (by rw [← e2]; exact X'.warmed.alike) hp hb k1 k2 k3 T' rfl X'
    exact ⟨t2, st t2 a1, b1⟩
  · obtain ⟨k1, k2, k3⟩ := vx_keep h0 e1 hS hAX hf hL hF
    obtain ⟨t2, a1, b1⟩ := kx E ce q u t T'.heap (locs ++ L) e1.symm (by rw [← e2]; exact X'.warmed.alike) hp hb k1 k2 k3 (by rw [e1]; exact hce) hcv hcl T' rfl X'
    exact ⟨t2, st.trans a1, b1⟩
theorem vx_calll {S SX : Type} {post : Int64 → S → Prop} {px : SX → Prop} {B : S → State → Prop} {BX : String → SX → State → Prop} {AX : Nat → Prop} (hr : vx_Run p l e R s m args below meth c H locs cells slots mc ms (F0 m pc ls st0) rest (va_Ql post B A1 a) (vx_X px BX AX) free) (hS : va_S A0 H0 H locs) (hA : ∀ q, q < H.size → A1 q → A0 q) (hf : ∀ q, free q → A0 q) (hAX : ∀ q, q < H.size → AX q → A0 q)
    (kx : ∀ (E : String) (ce : Cell) (q9 : Addr) (u : SX) (t : State) (H1 : Heap) (locs1 : List Loc), t.heap = H1 → s.vm.Alike t.vm → px u → BX E u t → H.size ≤ H1.size → (∀ q : Nat, q < H.size → ¬ AX q → H1[q]? = H[q]?) → va_S A0 H0 H1 locs1 → H1[q9]? = some ce → ce.vm = .none → s.vm.findClass E = some ce.cls → vx_W p l e R s m args below meth c H1 locs1 (cells + mc) (slots + ms) Q (F0 m pc ls rest) q9)
    (kk : ∀ (r : Int64) (u : S) (t : State) (H1 : Heap) (locs1 : List Loc), t.heap = H1 → s.vm.Alike t.vm → post r u → B u t → H.size ≤ H1.size → (∀ q : Nat, q < H.size → ¬ A1 q → H1[q]? = H[q]?) → va_S A0 H0 H1 locs1 → W p l e R s m args below meth c H1 locs1 (cells + mc) (slots + ms) Q (F0 m (pc + 3) ls (.long r :: rest))) : W p l e R s m args below meth c H locs cells slots Q (F0 m pc ls st0) := by
  intro T hT X
  rcases hr T hT X with ⟨v, st₀, t, T', L, h0, X', hL, e1, e2, ⟨⟨r, u, hv, hp, hb⟩, hF⟩, st⟩ | ⟨q, st₀, t, T', L, E, ce, h0, X', hL, e1, e2, ⟨u, hp, hb, hF⟩, hce, hcv, hcl, st⟩
  · cases hv
    obtain ⟨k1, k2, k3⟩ := vx_keep h0 e1 hS hA hf hL hF
    obtain ⟨t2, a1, b1⟩ := kk r u t T'.heap (locs ++ L) e1.symm (by rw [← e2]; exact X'.warmed.alike) hp hb k1 k2 k3 T' rfl X'
    exact ⟨t2, st t2 a1, b1⟩
  · obtain ⟨k1, k2, k3⟩ := vx_keep h0 e1 hS hAX hf hL hF
    obtain ⟨t2, a1, b1⟩ := kx E ce q u t T'.heap (locs ++ L) e1.symm (by rw [← e2]; exact X'.warmed.alike) hp hb k1 k2 k3 (by rw [e1]; exact hce) hcv hcl T' rfl X'
    exact ⟨t2, st.trans a1, b1⟩
theorem vx_callf {S SX : Type} {post : UInt32 → S → Prop} {px : SX → Prop} {B : S → State → Prop} {BX : String → SX → State → Prop} {AX : Nat → Prop} (hr : vx_Run p l e R s m args below meth c H locs cells slots mc ms (F0 m pc ls st0) rest (va_Qf post B A1 a) (vx_X px BX AX) free) (hS : va_S A0 H0 H locs) (hA : ∀ q, q < H.size → A1 q → A0 q) (hf : ∀ q, free q → A0 q) (hAX : ∀ q, q < H.size → AX q → A0 q)
    (kx : ∀ (E : String) (ce : Cell) (q9 : Addr) (u : SX) (t : State) (H1 : Heap) (locs1 : List Loc), t.heap = H1 → s.vm.Alike t.vm → px u → BX E u t → H.size ≤ H1.size → (∀ q : Nat, q < H.size → ¬ AX q → H1[q]? = H[q]?) → va_S A0 H0 H1 locs1 → H1[q9]? = some ce → ce.vm = .none → s.vm.findClass E = some ce.cls → vx_W p l e R s m args below meth c H1 locs1 (cells + mc) (slots + ms) Q (F0 m pc ls rest) q9)
    (kk : ∀ (r : UInt32) (u : S) (t : State) (H1 : Heap) (locs1 : List Loc), t.heap = H1 → s.vm.Alike t.vm → post r u → B u t → H.size ≤ H1.size → (∀ q : Nat, q < H.size → ¬ A1 q → H1[q]? = H[q]?) → va_S A0 H0 H1 locs1 → W p l e R s m args below meth c H1 locs1 (cells + mc) (slots + ms) Q (F0 m (pc + 3) ls (.float r :: rest))) : W p l e R s m args below meth c H locs cells slots Q (F0 m pc ls st0) := by
  intro T hT X
  rcases hr T hT X with ⟨v, st₀, t, T', L, h0, X', hL, e1, e2, ⟨⟨r, u, hv, hp, hb⟩, hF⟩, st⟩ | ⟨q, st₀, t, T', L, E, ce, h0, X', hL, e1, e2, ⟨u, hp, hb, hF⟩, hce, hcv, hcl, st⟩
  · cases hv
    obtain ⟨k1, k2, k3⟩ := vx_keep h0 e1 hS hA hf hL hF
    obtain ⟨t2, a1, b1⟩ := kk r u t T'.heap (locs ++ L) e1.symm (by rw [← e2]; exact X'.warmed.alike) hp hb k1 k2 k3 T' rfl X'
    exact ⟨t2, st t2 a1, b1⟩
  · obtain ⟨k1, k2, k3⟩ := vx_keep h0 e1 hS hAX hf hL hF
    obtain ⟨t2, a1, b1⟩ := kx E ce q u t T'.heap (locs ++ L) e1.symm (by rw [← e2]; exact X'.warmed.alike) hp hb k1 k2 k3 (by rw [e1]; exact hce) hcv hcl T' rfl X'
    exact ⟨t2, st.trans a1, b1⟩
theorem vx_calld {S SX : Type} {post : UInt64 → S → Prop} {px : SX → Prop} {B : S → State → Prop} {BX : String → SX → State → Prop} {AX : Nat → Prop} (hr : vx_Run p l e R s m args below meth c H locs cells slots mc ms (F0 m pc ls st0) rest (va_Qd post B A1 a) (vx_X px BX AX) free) (hS : va_S A0 H0 H locs) (hA : ∀ q, q < H.size → A1 q → A0 q) (hf : ∀ q, free q → A0 q) (hAX : ∀ q, q < H.size → AX q → A0 q)
    (kx : ∀ (E : String) (ce : Cell) (q9 : Addr) (u : SX) (t : State) (H1 : Heap) (locs1 : List Loc), t.heap = H1 → s.vm.Alike t.vm → px u → BX E u t → H.size ≤ H1.size → (∀ q : Nat, q < H.size → ¬ AX q → H1[q]? = H[q]?) → va_S A0 H0 H1 locs1 → H1[q9]? = some ce → ce.vm = .none → s.vm.findClass E = some ce.cls → vx_W p l e R s m args below meth c H1 locs1 (cells + mc) (slots + ms) Q (F0 m pc ls rest) q9)
    (kk : ∀ (r : UInt64) (u : S) (t : State) (H1 : Heap) (locs1 : List Loc), t.heap = H1 → s.vm.Alike t.vm → post r u → B u t → H.size ≤ H1.size → (∀ q : Nat, q < H.size → ¬ A1 q → H1[q]? = H[q]?) → va_S A0 H0 H1 locs1 → W p l e R s m args below meth c H1 locs1 (cells + mc) (slots + ms) Q (F0 m (pc + 3) ls (.double r :: rest))) : W p l e R s m args below meth c H locs cells slots Q (F0 m pc ls st0) := by
  intro T hT X
  rcases hr T hT X with ⟨v, st₀, t, T', L, h0, X', hL, e1, e2, ⟨⟨r, u, hv, hp, hb⟩, hF⟩, st⟩ | ⟨q, st₀, t, T', L, E, ce, h0, X', hL, e1, e2, ⟨u, hp, hb, hF⟩, hce, hcv, hcl, st⟩
  · cases hv
    obtain ⟨k1, k2, k3⟩ := vx_keep h0 e1 hS hA hf hL hF
    obtain ⟨t2, a1, b1⟩ := kk r u t T'.heap (locs ++ L) e1.symm (by rw [← e2]; exact X'.warmed.alike) hp hb k1 k2 k3 T' rfl X'
    exact ⟨t2, st t2 a1, b1⟩
  · obtain ⟨k1, k2, k3⟩ := vx_keep h0 e1 hS hAX hf hL hF
    obtain ⟨t2, a1, b1⟩ := kx E ce q u t T'.heap (locs ++ L) e1.symm (by rw [← e2]; exact X'.warmed.alike) hp hb k1 k2 k3 (by rw [e1]; exact hce) hcv hcl T' rfl X'
    exact ⟨t2, st.trans a1, b1⟩
theorem vx_callv {S SX : Type} {post : S → Prop} {px : SX → Prop} {B : S → State → Prop} {BX : String → SX → State → Prop} {AX : Nat → Prop} (hr : vx_Run p l e R s m args below meth c H locs cells slots mc ms (F0 m pc ls st0) rest (va_Qv post B A1 a) (vx_X px BX AX) free) (hS : va_S A0 H0 H locs) (hA : ∀ q, q < H.size → A1 q → A0 q) (hf : ∀ q, free q → A0 q) (hAX : ∀ q, q < H.size → AX q → A0 q)
    (kx : ∀ (E : String) (ce : Cell) (q9 : Addr) (u : SX) (t : State) (H1 : Heap) (locs1 : List Loc), t.heap = H1 → s.vm.Alike t.vm → px u → BX E u t → H.size ≤ H1.size → (∀ q : Nat, q < H.size → ¬ AX q → H1[q]? = H[q]?) → va_S A0 H0 H1 locs1 → H1[q9]? = some ce → ce.vm = .none → s.vm.findClass E = some ce.cls → vx_W p l e R s m args below meth c H1 locs1 (cells + mc) (slots + ms) Q (F0 m pc ls rest) q9)
    (kk : ∀ (u : S) (t : State) (H1 : Heap) (locs1 : List Loc), t.heap = H1 → s.vm.Alike t.vm → post u → B u t → H.size ≤ H1.size → (∀ q : Nat, q < H.size → ¬ A1 q → H1[q]? = H[q]?) → va_S A0 H0 H1 locs1 → W p l e R s m args below meth c H1 locs1 (cells + mc) (slots + ms) Q (F0 m (pc + 3) ls (rest))) : W p l e R s m args below meth c H locs cells slots Q (F0 m pc ls st0) := by
  intro T hT X
  rcases hr T hT X with ⟨v, st₀, t, T', L, h0, X', hL, e1, e2, ⟨⟨u, hv, hp, hb⟩, hF⟩, st⟩ | ⟨q, st₀, t, T', L, E, ce, h0, X', hL, e1, e2, ⟨u, hp, hb, hF⟩, hce, hcv, hcl, st⟩
  · cases hv
    obtain ⟨k1, k2, k3⟩ := vx_keep h0 e1 hS hA hf hL hF
    obtain ⟨t2, a1, b1⟩ := kk u t T'.heap (locs ++ L) e1.symm (by rw [← e2]; exact X'.warmed.alike) hp hb k1 k2 k3 T' rfl X'
    exact ⟨t2, st t2 a1, b1⟩
  · obtain ⟨k1, k2, k3⟩ := vx_keep h0 e1 hS hAX hf hL hF
    obtain ⟨t2, a1, b1⟩ := kx E ce q u t T'.heap (locs ++ L) e1.symm (by rw [← e2]; exact X'.warmed.alike) hp hb k1 k2 k3 (by rw [e1]; exact hce) hcv hcl T' rfl X'
    exact ⟨t2, st.trans a1, b1⟩
end Rows
section Ends
variable {p : Program} {l : Launch} {e : Env} {R : Room} {s : State} {m : MethodId} {args : Array Value} {below : List Frame} {meth : Method} {c : Code} {H : Heap} {locs : List Loc} {cells slots : Nat} {Q : State → Prop}
variable {mc ms : Nat} {free : Addr → Prop} {A0 A1 : Nat → Prop} {H0 : Heap} {a : Array Value} {ls : Array Slot} {st0 rest : List Value}
variable {Qc : Array Value → State → Outcome → State → Prop} {XC : String → State → State → Prop}
def vx_MQ (below : List Frame) (Qc : Array Value → State → Outcome → State → Prop) (XC : String → State → State → Prop) (a : Array Value) (s : State) (mc ms : Nat) (free : Addr → Prop) : State → Prop := fun t =>
  ∃ o, t.status = .running ∧ Ended t below o ∧ vx_Q Qc XC mc ms free a s o t
theorem vx_ret {g : JFrame} {mc ms : Nat} (k : W p l e R s m args below meth c H locs cells slots (MQ below Qc args s mc ms free) g) : W p l e R s m args below meth c H locs cells slots (vx_MQ below Qc XC args s mc ms free) g := by
  intro T hT X
  obtain ⟨t, a1, o, b1, b2, b3, b4⟩ := k T hT X
  exact ⟨t, a1, o, b1, b2, Or.inl ⟨b3, b4⟩⟩
theorem vx_widen {g : JFrame} {q : Addr} {k n : Nat} (h1 : cells ≤ k) (h2 : slots ≤ n) (kk : vx_W p l e R s m args below meth c H locs k n Q g q) : vx_W p l e R s m args below meth c H locs cells slots Q g q := fun T hT X => kk T hT (stand_widen X h1 h2)
theorem vx_out {pc : Nat} {E : String} {ce : Cell} {q : Addr} {mc ms : Nat} (hout : ∀ x ∈ c.exceptionTable.toList, covers x pc = false) (hlocks : meth.locks = false) (hcell : H[q]? = some ce) (hv : ce.vm = .none) (hcl : s.vm.findClass E = some ce.cls)
    (hx : ∀ t : State, t.heap = H → s.vm.Alike t.vm → XC E s t) (hf : ∀ z ∈ locs, free z.base) (hc : cells ≤ mc) (hs : slots ≤ ms) :
    vx_W p l e R s m args below meth c H locs cells slots (vx_MQ below Qc XC args s mc ms free) (F0 m pc ls rest) q := by
  intro T hT X
  obtain ⟨st1, hrun, hend, hW, hsm⟩ := X.leaveThrown q (g := F0 m pc ls rest) rfl rfl rfl hout hlocks
  have hcell9 : (T.setFrames (.throwing q :: below)).heap[q]? = some ce := by
    show T.heap[q]? = some ce
    rw [hT]; exact hcell
  exact ⟨_, st1, .threw q, hrun, hend, Or.inr ⟨q, rfl, E, ce, locs, hx _ hT hW.alike, hcell9, hv, hcl, hW, hsm.mono hc hs, hf⟩⟩
theorem vx_frame {U : State} {k n : Nat} (h : s.sameButNew ({ U with vm := s.vm } : State) locs k n) : s.heap.size ≤ U.heap.size ∧ ∀ q : Nat, q < s.heap.size → (∀ z ∈ locs, z.base ≠ q) → U.heap[q]? = s.heap[q]? := by
  obtain ⟨-, h2, -, -, -, h6⟩ := h
  refine ⟨h2, fun q hq hz => ?_⟩
  obtain ⟨c9, e1, e2, e3, e4⟩ := h6 q _ (Array.getElem?_eq_getElem hq)
  have hs : c9.slots = (s.heap[q]).slots := Array.ext_getElem? fun i => e4 i fun hm => hz _ hm rfl
  have h9 : c9 = s.heap[q] := by
    rw [hs] at e2
    exact e2
  have e5 : U.heap[q]? = some c9 := e1
  rw [e5, h9, Array.getElem?_eq_getElem hq]
def vx_no (w : Cond) : Bool := decide (w ≠ .isRef (.static Bundle.tN "UNASSIGNED_STACK" Bundle.steD)) && decide (w ≠ .isRef (.static Bundle.tN "SUPPRESSED_SENTINEL" Bundle.listD)) && decide (w ≠ .laysStatic Bundle.tN "UNASSIGNED_STACK" Bundle.steD) && decide (w ≠ .laysStatic Bundle.tN "SUPPRESSED_SENTINEL" Bundle.listD)
def vx_at0 (own : String) (ic : Nat) (X : String) (names : List String) : List Cond := (Bundle.ownAtoms0 own ic X names).filter vx_no
def vx_atS (own : String) (ic : Nat) (X : String) (names : List String) : List Cond := (Bundle.ownAtoms own ic X names).filter vx_no
def vx_ot (w : Cond) : Bool := w.onTables || goodWord w
theorem vx_ot_at {args a' : Array Value} {s U : State} {w : Cond} (hW : s.WarmedH U.vm) (hvm : s.vm = U.vm) (hg : vx_ot w = true) (h : w.before args s = true) : w.before a' U = true := by
  simp only [vx_ot, Bool.or_eq_true] at hg
  rcases hg with hg | hg
  · exact va_tabs hg hvm h
  · exact word_at hW (good_of_word hg) h
theorem vx_hat {args : Array Value} {s : State} {L B : List Cond} (h1 : ∀ w ∈ L.filter goodWord, w.before args s = true) (h2 : ∀ w ∈ L.filter (fun w => !goodWord w), w ∈ B) (h3 : ∀ w ∈ B, w.before args s = true) : ∀ w ∈ L, w.before args s = true := by
  intro w hw
  by_cases g : goodWord w = true
  · exact h1 w (List.mem_filter.mpr ⟨hw, g⟩)
  · refine h3 w (h2 w (List.mem_filter.mpr ⟨hw, ?_⟩))
    show (!goodWord w) = true
    cases hgw : goodWord w
    · rfl
    · exact absurd hgw g
theorem vx_c {args : Array Value} {s : State} {w : Cond} {B : List Cond} (h : w.before args s = true) (t : ∀ w ∈ B, w.before args s = true) : ∀ w' ∈ w :: B, w'.before args s = true := fun w' h' => (List.mem_cons.mp h').elim (fun e => by rw [e]; exact h) (t w')
theorem vx_n {args : Array Value} {s : State} : ∀ w ∈ ([] : List Cond), w.before args s = true := fun _ h => nomatch h
theorem vx_own {args : Array Value} {s : State} {L : List Cond} (h1 : ∀ w ∈ L.filter vx_no, w.before args s = true)
    (hU : (Cond.isRef (.static Bundle.tN "UNASSIGNED_STACK" Bundle.steD)).before args s = true) (hN : (Cond.isRef (.static Bundle.tN "SUPPRESSED_SENTINEL" Bundle.listD)).before args s = true)
    (lU : (Cond.laysStatic Bundle.tN "UNASSIGNED_STACK" Bundle.steD).before args s = true) (lN : (Cond.laysStatic Bundle.tN "SUPPRESSED_SENTINEL" Bundle.listD).before args s = true) : ∀ w ∈ L, w.before args s = true := by
  intro w hw
  by_cases e1 : w = .isRef (.static Bundle.tN "UNASSIGNED_STACK" Bundle.steD)
  · rw [e1]; exact hU
  · by_cases e2 : w = .isRef (.static Bundle.tN "SUPPRESSED_SENTINEL" Bundle.listD)
    · rw [e2]; exact hN
    · by_cases e3 : w = .laysStatic Bundle.tN "UNASSIGNED_STACK" Bundle.steD
      · rw [e3]; exact lU
      · by_cases e4 : w = .laysStatic Bundle.tN "SUPPRESSED_SENTINEL" Bundle.listD
        · rw [e4]; exact lN
        · exact h1 w (List.mem_filter.mpr ⟨hw, by unfold vx_no; rw [decide_eq_true e1, decide_eq_true e2, decide_eq_true e3, decide_eq_true e4]; rfl⟩)
def vx_L (C n d : String) (A : Nat → Prop) (U : State) (H : Heap) : Prop := ∃ (c : ClassId) (k : Class) (i : Nat) (f : Field) (a : Nat) (cell : Cell), U.vm.findClass C = some c ∧ U.fieldFound? C n d = some (c, k, i, f) ∧ f.isStatic = true ∧ k.statics = some a ∧ H[a]? = some cell ∧ cell.vm.isStatics = true ∧ cell.cls = c ∧ f.slot < cell.slots.size ∧ k.staticTypes[f.slot]? = some f.type ∧ ¬ A a
theorem vx_L.moved {C n d : String} {A : Nat → Prop} {u U : State} {H : Heap} (hvm : u.vm.Alike U.vm) (h : vx_L C n d A u H) : vx_L C n d A U H := by
  obtain ⟨c, k, i, f, a, cell, h1, h2, h3, h4, h5, h6, h7, h8, h9, h10⟩ := h
  obtain ⟨k', hi', he⟩ := State.fieldFound?_setVm hvm h2
  exact ⟨c, k', i, f, a, cell, by rw [hvm.findClass]; exact h1, hi', h3, by rw [he]; exact h4, h5, h6, h7, h8, by rw [he]; exact h9, h10⟩
theorem vx_L.kept {C n d : String} {A : Nat → Prop} {U : State} {H H1 : Heap} (h : vx_L C n d A U H) (hq : ∀ a : Nat, a < H.size → ¬ A a → H1[a]? = H[a]?) : vx_L C n d A U H1 := by
  obtain ⟨c, k, i, f, a, cell, h1, h2, h3, h4, h5, h6, h7, h8, h9, h10⟩ := h
  exact ⟨c, k, i, f, a, cell, h1, h2, h3, h4, by rw [hq a (Array.getElem?_eq_some_iff.mp h5).1 h10]; exact h5, h6, h7, h8, h9, h10⟩
theorem vx_L.narrow {C n d : String} {A B : Nat → Prop} {U : State} {H : Heap} (h : vx_L C n d A U H) (hAB : ∀ q, B q → A q) : vx_L C n d B U H := by
  obtain ⟨c, k, i, f, a, cell, h1, h2, h3, h4, h5, h6, h7, h8, h9, h10⟩ := h
  exact ⟨c, k, i, f, a, cell, h1, h2, h3, h4, h5, h6, h7, h8, h9, fun z => h10 (hAB _ z)⟩
theorem vx_L.word {C n d : String} {A : Nat → Prop} {s : State} {args : Array Value} (h : vx_L C n d A s s.heap) : (Cond.laysStatic C n d).before args s = true := by
  obtain ⟨c, k, i, f, a, cell, h1, h2, h3, h4, h5, h6, h7, h8, h9, -⟩ := h
  show (Cond.laysStatic C n d).holds args s none s [] = true
  exact Cond.laysStatic_of h1 h2 h3 h4 h5 h6 h7 h8 h9
def vx_Zq (C n d : String) (A : Nat → Prop) (U : State) (H : Heap) : Prop := va_Zq C n d A U H ∧ vx_L C n d A U H
theorem vx_Zq.moved {C n d : String} {A : Nat → Prop} {u U : State} {H : Heap} (hvm : u.vm.Alike U.vm) (h : vx_Zq C n d A u H) : vx_Zq C n d A U H := ⟨va_Zq.moved hvm h.1, vx_L.moved hvm h.2⟩
theorem vx_Zq.kept {C n d : String} {A : Nat → Prop} {U : State} {H H1 : Heap} (h : vx_Zq C n d A U H) (hq : ∀ a : Nat, a < H.size → ¬ A a → H1[a]? = H[a]?) : vx_Zq C n d A U H1 := ⟨va_Zq.kept h.1 hq, vx_L.kept h.2 hq⟩
theorem vx_Zq.narrow {C n d : String} {A B : Nat → Prop} {U : State} {H : Heap} (h : vx_Zq C n d A U H) (hAB : ∀ q, B q → A q) : vx_Zq C n d B U H := ⟨va_Zq.narrow h.1 hAB, vx_L.narrow h.2 hAB⟩
theorem vx_Zqof {args : Array Value} {s : State} {C n d : String} {A : Nat → Prop} (hl : (Cond.laysStatic C n d).before args s = true) (hini : (Cond.initialized C).before args s = true) (h : (Cond.isRef (.static C n d)).before args s = true) (hA : ∀ a : Nat, a < s.heap.size → ¬ A a) : vx_Zq C n d A s s.heap := by
  refine ⟨va_Zqof hl hini h hA, ?_⟩
  obtain ⟨c, k, i, f, a, cell, h1, h2, h3, h4, h5, h6, h7, h8, h9⟩ := Cond.laysStatic_spec hl
  exact ⟨c, k, i, f, a, cell, h1, h2, h3, h4, h5, h6, h7, h8, h9, hA a (Array.getElem?_eq_some_iff.mp h5).1⟩
theorem vx_isRef {C n d : String} {v : Value} {A : Nat → Prop} {s : State} {args : Array Value} (h : va_Z C n d v A s s.heap) (hv : v.isRef = true) : (Cond.isRef (.static C n d)).before args s = true := by
  obtain ⟨cf, kf, fi, f, a, cell, h1, h2, h3, h4, h5, h6, h7, -⟩ := h
  have he : (Term.static C n d).eval args s none [] s = some v := by
    simp [Term.eval, State.fieldNamed?, h1, h2, h4, h5, h6, h7]
  simp only [Cond.before, Cond.holds, Cond.value, he]
  cases v <;> simp_all [Value.isRef]
theorem vx_isRefq {C n d : String} {A : Nat → Prop} {s : State} {args : Array Value} (h : va_Zq C n d A s s.heap) : (Cond.isRef (.static C n d)).before args s = true := by
  rcases h with h | ⟨t, h⟩
  · exact vx_isRef h rfl
  · exact vx_isRef h rfl
theorem vx_rebase {T : State} (X : Stand p l e R s m args below meth c T locs cells slots) {R' : Room} (hf : R'.frames ≤ R.frames) (hl : R'.locals ≤ R.locals) (hc : cells + R'.cells ≤ R.cells) (hs : slots + R'.slots ≤ R.slots) :
    Stand p l e R' ((T.setVm s.vm).setFrames (.invoking m args :: below)) m args below meth c T [] 0 0 := by
  have htop : (T.setVm s.vm).topJava?.isSome := X.here.top
  have hF : ((T.setVm s.vm).setFrames (.invoking m args :: below)).frames = .invoking m args :: below := State.frames_setFrames _ (State.cur_lt_of_top htop)
  obtain ⟨g₀, hg0⟩ := Option.isSome_iff_exists.mp htop
  obtain ⟨r, hr⟩ := State.topJava?_eq_some.mp hg0
  have hl9 : e.platform.stackLimits (T.setVm s.vm).me = e.platform.stackLimits s.me := X.limits
  have hb9 : (T.setVm s.vm).me.stackBytes = s.me.stackBytes := X.bytes
  refine ⟨X.admits, X.cas, X.clock, hF, ?_, X.hears, X.method, X.code, X.here, X.tail, X.warmed, ?_, ?_, ?_⟩
  · have h := X.room
    have hU : ((T.setVm s.vm).setFrames (.invoking m args :: below)).localsInUse = s.localsInUse := by
      rw [State.localsInUse_invoking hF (meth := meth) (c := c) X.method X.code, State.localsInUse_invoking X.frames X.method X.code]
    simp only [State.hasRoom, Bool.and_eq_true, decide_eq_true_eq] at h ⊢
    obtain ⟨⟨⟨⟨h1, h2, h3, h4, h5, h6⟩, h7⟩, h8⟩, h9⟩ := h
    rw [X.frames, List.length_cons] at h2 h3
    have q1 := X.heapSize
    have q2 := X.used
    simp only [hF, hU, List.length_cons, State.stackLimits_setFrames, State.stackBytes_setFrames, hl9, hb9]
    refine ⟨⟨⟨⟨by omega, by omega, by omega, by omega, by omega, h6⟩, ?_⟩, ?_⟩, X.book⟩
    · show T.heap.size + R'.cells ≤ e.platform.maxCells
      omega
    · show T.slotsUsed + R'.slots ≤ e.platform.maxSlots
      omega
  · rw [State.stackLimits_setFrames]; rfl
  · rw [State.stackBytes_setFrames]; rfl
  · refine ⟨?_, Nat.le_refl _, Nat.le_refl _, ?_, ?_, fun a c9 h9 => ⟨c9, h9, rfl, rfl, fun _ _ => rfl⟩⟩
    · obtain ⟨t, ht, -⟩ := State.frames_cons hr
      show T.setVm s.vm = { ((T.setVm s.vm).setFrames (.invoking m args :: below)).setFrames (T.setVm s.vm).frames with heap := T.heap, slotsUsed := T.slotsUsed }
      rw [State.setFrames_setFrames, State.setFrames_self ht]
      rfl
    · show T.slotsUsed = T.slotsUsed + ((T.heap.toList.drop T.heap.size).map (·.slots.size)).sum
      rw [List.drop_eq_nil_of_le (Nat.le_of_eq Array.length_toList)]
      rfl
    · show ((T.heap.toList.drop T.heap.size).map (·.slots.size)).sum ≤ 0
      rw [List.drop_eq_nil_of_le (Nat.le_of_eq Array.length_toList)]
      exact Nat.le_refl _
theorem vx_throw0 {cc : ByteArray} {pc : Nat} (hexec : p.tables.exec = Jvm.exec) (hb : c.code = cc) (hl : l.stackTraces = false) {own cls : String} {names : List String} {ik ic mc ms : Nat} {A : Nat → Prop}
    (hown : s.vm.findClass own = some m.cls) (hcls : Bundle.fit cls = true) (hnames : ∀ n ∈ names, Bundle.fit n = true)
    (hk : (Cond.classLink own ik cls).before args s = true) (hini : (Cond.initialized cls).before args s = true) (hat : ∀ w ∈ vx_at0 own ic cls names, w.before args s = true)
    (hgood : ∀ w ∈ Cond.classLink own ik cls :: Cond.initialized cls :: vx_at0 own ic cls names, vx_ot w = true)
    (hU : vx_Zq Bundle.tN "UNASSIGNED_STACK" Bundle.steD A s s.heap) (hN : vx_Zq Bundle.tN "SUPPRESSED_SENTINEL" Bundle.listD A s s.heap) (hS : va_S A s.heap H locs) (hsize : ls.size = c.maxLocals)
    (d0 : decode cc pc = .ok (.new ik, 3)) (d3 : decode cc (pc + 3) = .ok (.dup, 1)) (d4 : decode cc (pc + 4) = .ok (.invokespecial ic, 3)) (d7 : decode cc (pc + 7) = .ok (.athrow, 1))
    (hout : ∀ x ∈ c.exceptionTable.toList, covers x (pc + 7) = false)
    (hRframes : names.length + 3 < R.frames) (hRlocals : (rest.map fun v => v.category).sum + (13 * (names.length + 1) + 42) ≤ R.locals) (hRcells : cells + 1 ≤ R.cells) (hRslots : slots + 6 ≤ R.slots) (hlocks : meth.locks = false)
    (hx : ∀ t : State, s.vm.Alike t.vm → H.size ≤ t.heap.size → (∀ q : Nat, q < H.size → t.heap[q]? = H[q]?) → XC cls s t)
    (hf : ∀ z ∈ locs, free z.base) (hc : cells + 1 ≤ mc) (hs : slots + 6 ≤ ms) :
    W p l e R s m args below meth c H locs cells slots (vx_MQ below Qc XC args s mc ms free) (F0 m pc ls rest) := by
  intro T hT X
  have htr : e.platform.stackTraces = false := (show e.platform.stackTraces = l.stackTraces by rw [X.admits.platform]).trans hl
  have Y := vx_rebase X (R' := { frames := R.frames, locals := R.locals, cells := 1, slots := 6 }) (Nat.le_refl _) (Nat.le_refl _) hRcells hRslots
  obtain ⟨s', hA⟩ : ∃ z, z = (T.setVm s.vm).setFrames (.invoking m args :: below) := ⟨_, rfl⟩
  rw [← hA] at Y
  have hvm : s'.vm = s.vm := by rw [hA]; rfl
  have hhp : s'.heap = H := by rw [hA]; exact hT
  have hW0 : s.WarmedH s'.vm := by rw [hvm]; exact State.WarmedH.refl s
  have hat' : ∀ w ∈ vx_at0 own ic cls names, w.before args s' = true := fun w hw => vx_ot_at hW0 hvm.symm (hgood w (List.mem_cons_of_mem _ (List.mem_cons_of_mem _ hw))) (hat w hw)
  have hk' : (Cond.classLink own ik cls).before args s' = true := vx_ot_at hW0 hvm.symm (hgood _ List.mem_cons_self) hk
  have hini' : (Cond.initialized cls).before args s' = true := vx_ot_at hW0 hvm.symm (hgood _ (List.mem_cons_of_mem _ List.mem_cons_self)) hini
  have hU' : vx_Zq Bundle.tN "UNASSIGNED_STACK" Bundle.steD A s' s'.heap := by rw [hhp]; exact vx_Zq.moved hW0.alike (hU.kept hS.2.1)
  have hN' : vx_Zq Bundle.tN "SUPPRESSED_SENTINEL" Bundle.listD A s' s'.heap := by rw [hhp]; exact vx_Zq.moved hW0.alike (hN.kept hS.2.1)
  have h : ∀ w ∈ Bundle.ownAtoms0 own ic cls names, w.before args s' = true := vx_own hat' (vx_isRefq hU'.1) (vx_isRefq hN'.1) hU'.2.word hN'.2.word
  have hown' : s'.vm.findClass own = some m.cls := by rw [hvm]; exact hown
  have hins : (Cond.instantiable cls 6).before args s' = true := h _ (by simp [Bundle.ownAtoms0])
  obtain ⟨vm₁, cX, kX, hfX, hkX, -, -, X₁, st1⟩ := Y.newCold hexec (own := own) (C := cls) (index := ik) (n := 6) hown' hk' hins hini'
    (g := F0 m pc ls rest) rfl (by rw [hb]; exact d0) (Nat.le_refl _) (Nat.le_refl _)
  generalize hT1 : (T.setVm vm₁).pushCell { cls := cX, slots := kX.instanceTypes.map defaultValue, vm := .none } = T1 at X₁ st1
  have hcat : (Value.ref T.heap.size).category = 1 := rfl
  have hcellA : T1.heap[T.heap.size]? = some (freshCell cX kX) := by rw [← hT1]; exact State.heap_pushCell_size _ _
  have d3' : decode c.code (pc + 3) = .ok (.dup, 1) := by rw [hb]; exact d3
  obtain ⟨U, hsteps, hrun, hend, hW, hsame, ce, hce, hO⟩ := X₁.ctorThrow0 hexec htr (own := own) (cls := cls) (names := names) (ic := ic) hown' hcls hnames h (fun x hx => nomatch hx) hfX hkX hcellA (by rw [hhp, hT]; exact Nat.le_refl _)
    (g := { method := m, pc := pc + 4, locals := ls, stack := .ref T.heap.size :: .ref T.heap.size :: rest, locked := none }) rfl hsize rfl rfl (rest := rest) rfl
    (by rw [hb]; exact d4) (by rw [hb]; exact d7) hout hRframes (by simp only [List.map_cons, List.sum_cons, hcat]; omega) hlocks
  obtain ⟨f1, f2⟩ := vx_frame hsame
  rw [hhp] at f1 f2
  have hWs : s.WarmedH U.vm := State.WarmedH.trans hW0 hW
  have hcl : s.vm.findClass cls = some ce.cls := by
    have h9 := hO.cls
    rw [hvm] at h9
    exact h9
  have hall : s.sameButNew ({ U with vm := s.vm } : State) locs mc ms := by
    subst hA
    obtain ⟨e1, e2⟩ := hsame
    rw [State.setFrames_setFrames] at e1
    have h2 : (T.setVm s.vm).sameButNew ({ U with vm := s.vm } : State) [] (0 + 1) (0 + 6) := ⟨e1, e2⟩
    have h3 := X.same.trans h2
    rw [List.append_nil] at h3
    exact h3.mono hc hs
  refine ⟨U, ?_, .threw T.heap.size, hrun, hend, Or.inr ⟨T.heap.size, rfl, cls, ce, locs, hx U hWs.alike f1 (fun q hq => f2 q hq (fun z hz => nomatch hz)), hce, hO.vm, hcl, hWs, hall, hf⟩⟩
  refine st1 _ ?_
  show Steps p.tables e below (T1.setTop { method := m, pc := pc + 3, locals := ls, stack := .ref T.heap.size :: rest, locked := none }) _
  jvm_step X₁.here [X₁.here.top, hexec, d3', Value.category]
  exact hsteps
theorem vx_throwS {cc : ByteArray} {pc : Nat} (hexec : p.tables.exec = Jvm.exec) (hb : c.code = cc) (hl : l.stackTraces = false) {own cls text : String} {names : List String} {ik is ic mc ms sa : Nat} {A : Nat → Prop}
    (hown : s.vm.findClass own = some m.cls) (hcls : Bundle.fit cls = true) (hnames : ∀ n ∈ names, Bundle.fit n = true)
    (hk : (Cond.classLink own ik cls).before args s = true) (hini : (Cond.initialized cls).before args s = true) (hstr : vk_R own is text sa s) (hat : ∀ w ∈ vx_atS own ic cls names, w.before args s = true)
    (hgood : ∀ w ∈ Cond.classLink own ik cls :: Cond.initialized cls :: vx_atS own ic cls names, vx_ot w = true)
    (hU : vx_Zq Bundle.tN "UNASSIGNED_STACK" Bundle.steD A s s.heap) (hN : vx_Zq Bundle.tN "SUPPRESSED_SENTINEL" Bundle.listD A s s.heap) (hS : va_S A s.heap H locs) (hsize : ls.size = c.maxLocals)
    (d0 : decode cc pc = .ok (.new ik, 3)) (d3 : decode cc (pc + 3) = .ok (.dup, 1)) (d4 : decode cc (pc + 4) = .ok (.ldc is, 2)) (d6 : decode cc (pc + 6) = .ok (.invokespecial ic, 3)) (d9 : decode cc (pc + 9) = .ok (.athrow, 1))
    (hout : ∀ x ∈ c.exceptionTable.toList, covers x (pc + 9) = false)
    (hRframes : names.length + 3 < R.frames) (hRlocals : (rest.map fun v => v.category).sum + (13 * (names.length + 1) + 43) ≤ R.locals) (hRcells : cells + 1 ≤ R.cells) (hRslots : slots + 6 ≤ R.slots) (hlocks : meth.locks = false)
    (hx : ∀ t : State, s.vm.Alike t.vm → H.size ≤ t.heap.size → (∀ q : Nat, q < H.size → t.heap[q]? = H[q]?) → XC cls s t)
    (hf : ∀ z ∈ locs, free z.base) (hc : cells + 1 ≤ mc) (hs : slots + 6 ≤ ms) :
    W p l e R s m args below meth c H locs cells slots (vx_MQ below Qc XC args s mc ms free) (F0 m pc ls rest) := by
  intro T hT X
  have htr : e.platform.stackTraces = false := (show e.platform.stackTraces = l.stackTraces by rw [X.admits.platform]).trans hl
  have Y := vx_rebase X (R' := { frames := R.frames, locals := R.locals, cells := 1, slots := 6 }) (Nat.le_refl _) (Nat.le_refl _) hRcells hRslots
  obtain ⟨s', hA⟩ : ∃ z, z = (T.setVm s.vm).setFrames (.invoking m args :: below) := ⟨_, rfl⟩
  rw [← hA] at Y
  have hvm : s'.vm = s.vm := by rw [hA]; rfl
  have hhp : s'.heap = H := by rw [hA]; exact hT
  have hW0 : s.WarmedH s'.vm := by rw [hvm]; exact State.WarmedH.refl s
  have hat' : ∀ w ∈ vx_atS own ic cls names, w.before args s' = true := fun w hw => vx_ot_at hW0 hvm.symm (hgood w (List.mem_cons_of_mem _ (List.mem_cons_of_mem _ hw))) (hat w hw)
  have hk' : (Cond.classLink own ik cls).before args s' = true := vx_ot_at hW0 hvm.symm (hgood _ List.mem_cons_self) hk
  have hini' : (Cond.initialized cls).before args s' = true := vx_ot_at hW0 hvm.symm (hgood _ (List.mem_cons_of_mem _ List.mem_cons_self)) hini
  have hU' : vx_Zq Bundle.tN "UNASSIGNED_STACK" Bundle.steD A s' s'.heap := by rw [hhp]; exact vx_Zq.moved hW0.alike (hU.kept hS.2.1)
  have hN' : vx_Zq Bundle.tN "SUPPRESSED_SENTINEL" Bundle.listD A s' s'.heap := by rw [hhp]; exact vx_Zq.moved hW0.alike (hN.kept hS.2.1)
  have h : ∀ w ∈ Bundle.ownAtoms own ic cls names, w.before args s' = true := vx_own hat' (vx_isRefq hU'.1) (vx_isRefq hN'.1) hU'.2.word hN'.2.word
  have hown' : s'.vm.findClass own = some m.cls := by rw [hvm]; exact hown
  have hins : (Cond.instantiable cls 6).before args s' = true := h _ (by simp [Bundle.ownAtoms])
  obtain ⟨vm₁, cX, kX, hfX, hkX, -, -, X₁, st1⟩ := Y.newCold hexec (own := own) (C := cls) (index := ik) (n := 6) hown' hk' hins hini'
    (g := F0 m pc ls rest) rfl (by rw [hb]; exact d0) (Nat.le_refl _) (Nat.le_refl _)
  generalize hT1 : (T.setVm vm₁).pushCell { cls := cX, slots := kX.instanceTypes.map defaultValue, vm := .none } = T1 at X₁ st1
  have hcat : (Value.ref T.heap.size).category = 1 := rfl
  have hcellA : T1.heap[T.heap.size]? = some (freshCell cX kX) := by rw [← hT1]; exact State.heap_pushCell_size _ _
  have d3' : decode c.code (pc + 3) = .ok (.dup, 1) := by rw [hb]; exact d3
  have d4' : decode c.code (pc + 4) = .ok (.ldc is, 2) := by rw [hb]; exact d4
  have hstr' : vk_R own is text sa s' := vk_R.warm hW0 hstr
  obtain ⟨U, hsteps, hrun, hend, hW, hsame, ce, hce, hO⟩ := X₁.ctorThrowS hexec htr (own := own) (cls := cls) (names := names) (ic := ic) hown' hcls hnames h (fun x hx => nomatch hx) hfX hkX hcellA (by rw [hhp, hT]; exact Nat.le_refl _) (msg := .ref sa) rfl
    (g := { method := m, pc := pc + 6, locals := ls, stack := .ref sa :: .ref T.heap.size :: .ref T.heap.size :: rest, locked := none }) rfl hsize rfl rfl (rest := rest) rfl
    (by rw [hb]; exact d6) (by rw [hb]; exact d9) hout hRframes (by simp only [List.map_cons, List.sum_cons, hcat]; omega) hlocks
  obtain ⟨f1, f2⟩ := vx_frame hsame
  rw [hhp] at f1 f2
  have hWs : s.WarmedH U.vm := State.WarmedH.trans hW0 hW
  have hcl : s.vm.findClass cls = some ce.cls := by
    have h9 := hO.cls
    rw [hvm] at h9
    exact h9
  have hall : s.sameButNew ({ U with vm := s.vm } : State) locs mc ms := by
    subst hA
    obtain ⟨e1, e2⟩ := hsame
    rw [State.setFrames_setFrames] at e1
    have h2 : (T.setVm s.vm).sameButNew ({ U with vm := s.vm } : State) [] (0 + 1) (0 + 6) := ⟨e1, e2⟩
    have h3 := X.same.trans h2
    rw [List.append_nil] at h3
    exact h3.mono hc hs
  refine ⟨U, ?_, .threw T.heap.size, hrun, hend, Or.inr ⟨T.heap.size, rfl, cls, ce, locs, hx U hWs.alike f1 (fun q hq => f2 q hq (fun z hz => nomatch hz)), hce, hO.vm, hcl, hWs, hall, hf⟩⟩
  refine st1 _ ?_
  show Steps p.tables e below (T1.setTop { method := m, pc := pc + 3, locals := ls, stack := .ref T.heap.size :: rest, locked := none }) _
  jvm_step X₁.here [X₁.here.top, hexec, d3', Value.category]
  exact X₁.ldcString hexec (own := own) (text := text) (index := is) (a := sa) hown' hstr'.1 hstr'.2
    (g := { method := m, pc := pc + 4, locals := ls, stack := .ref T.heap.size :: .ref T.heap.size :: rest, locked := none }) rfl d4' _ hsteps
theorem vx_throwSW {cc : ByteArray} {pc : Nat} (hexec : p.tables.exec = Jvm.exec) (hb : c.code = cc) (hl : l.stackTraces = false) {own cls text : String} {names : List String} {ik is ic mc ms sa : Nat} {A : Nat → Prop}
    (hown : s.vm.findClass own = some m.cls) (hcls : Bundle.fit cls = true) (hnames : ∀ n ∈ names, Bundle.fit n = true)
    (hk : (Cond.classLink own ik cls).before args s = true) (hini : (Cond.initialized cls).before args s = true) (hstr : vk_R own is text sa s) (hat : ∀ w ∈ vx_atS own ic cls names, w.before args s = true)
    (hgood : ∀ w ∈ Cond.classLink own ik cls :: Cond.initialized cls :: vx_atS own ic cls names, vx_ot w = true)
    (hU : vx_Zq Bundle.tN "UNASSIGNED_STACK" Bundle.steD A s s.heap) (hN : vx_Zq Bundle.tN "SUPPRESSED_SENTINEL" Bundle.listD A s s.heap) (hS : va_S A s.heap H locs) (hsize : ls.size = c.maxLocals)
    (d0 : decode cc pc = .ok (.new ik, 3)) (d3 : decode cc (pc + 3) = .ok (.dup, 1)) (d4 : decode cc (pc + 4) = .ok (.ldc_w is, 3)) (d7 : decode cc (pc + 7) = .ok (.invokespecial ic, 3)) (d10 : decode cc (pc + 10) = .ok (.athrow, 1))
    (hout : ∀ x ∈ c.exceptionTable.toList, covers x (pc + 10) = false)
    (hRframes : names.length + 3 < R.frames) (hRlocals : (rest.map fun v => v.category).sum + (13 * (names.length + 1) + 43) ≤ R.locals) (hRcells : cells + 1 ≤ R.cells) (hRslots : slots + 6 ≤ R.slots) (hlocks : meth.locks = false)
    (hx : ∀ t : State, s.vm.Alike t.vm → H.size ≤ t.heap.size → (∀ q : Nat, q < H.size → t.heap[q]? = H[q]?) → XC cls s t)
    (hf : ∀ z ∈ locs, free z.base) (hc : cells + 1 ≤ mc) (hs : slots + 6 ≤ ms) :
    W p l e R s m args below meth c H locs cells slots (vx_MQ below Qc XC args s mc ms free) (F0 m pc ls rest) := by
  intro T hT X
  have htr : e.platform.stackTraces = false := (show e.platform.stackTraces = l.stackTraces by rw [X.admits.platform]).trans hl
  have Y := vx_rebase X (R' := { frames := R.frames, locals := R.locals, cells := 1, slots := 6 }) (Nat.le_refl _) (Nat.le_refl _) hRcells hRslots
  obtain ⟨s', hA⟩ : ∃ z, z = (T.setVm s.vm).setFrames (.invoking m args :: below) := ⟨_, rfl⟩
  rw [← hA] at Y
  have hvm : s'.vm = s.vm := by rw [hA]; rfl
  have hhp : s'.heap = H := by rw [hA]; exact hT
  have hW0 : s.WarmedH s'.vm := by rw [hvm]; exact State.WarmedH.refl s
  have hat' : ∀ w ∈ vx_atS own ic cls names, w.before args s' = true := fun w hw => vx_ot_at hW0 hvm.symm (hgood w (List.mem_cons_of_mem _ (List.mem_cons_of_mem _ hw))) (hat w hw)
  have hk' : (Cond.classLink own ik cls).before args s' = true := vx_ot_at hW0 hvm.symm (hgood _ List.mem_cons_self) hk
  have hini' : (Cond.initialized cls).before args s' = true := vx_ot_at hW0 hvm.symm (hgood _ (List.mem_cons_of_mem _ List.mem_cons_self)) hini
  have hU' : vx_Zq Bundle.tN "UNASSIGNED_STACK" Bundle.steD A s' s'.heap := by rw [hhp]; exact vx_Zq.moved hW0.alike (hU.kept hS.2.1)
  have hN' : vx_Zq Bundle.tN "SUPPRESSED_SENTINEL" Bundle.listD A s' s'.heap := by rw [hhp]; exact vx_Zq.moved hW0.alike (hN.kept hS.2.1)
  have h : ∀ w ∈ Bundle.ownAtoms own ic cls names, w.before args s' = true := vx_own hat' (vx_isRefq hU'.1) (vx_isRefq hN'.1) hU'.2.word hN'.2.word
  have hown' : s'.vm.findClass own = some m.cls := by rw [hvm]; exact hown
  have hins : (Cond.instantiable cls 6).before args s' = true := h _ (by simp [Bundle.ownAtoms])
  obtain ⟨vm₁, cX, kX, hfX, hkX, -, -, X₁, st1⟩ := Y.newCold hexec (own := own) (C := cls) (index := ik) (n := 6) hown' hk' hins hini'
    (g := F0 m pc ls rest) rfl (by rw [hb]; exact d0) (Nat.le_refl _) (Nat.le_refl _)
  generalize hT1 : (T.setVm vm₁).pushCell { cls := cX, slots := kX.instanceTypes.map defaultValue, vm := .none } = T1 at X₁ st1
  have hcat : (Value.ref T.heap.size).category = 1 := rfl
  have hcellA : T1.heap[T.heap.size]? = some (freshCell cX kX) := by rw [← hT1]; exact State.heap_pushCell_size _ _
  have d3' : decode c.code (pc + 3) = .ok (.dup, 1) := by rw [hb]; exact d3
  have d4' : decode c.code (pc + 4) = .ok (.ldc_w is, 3) := by rw [hb]; exact d4
  have hstr' : vk_R own is text sa s' := vk_R.warm hW0 hstr
  obtain ⟨U, hsteps, hrun, hend, hW, hsame, ce, hce, hO⟩ := X₁.ctorThrowS hexec htr (own := own) (cls := cls) (names := names) (ic := ic) hown' hcls hnames h (fun x hx => nomatch hx) hfX hkX hcellA (by rw [hhp, hT]; exact Nat.le_refl _) (msg := .ref sa) rfl
    (g := { method := m, pc := pc + 7, locals := ls, stack := .ref sa :: .ref T.heap.size :: .ref T.heap.size :: rest, locked := none }) rfl hsize rfl rfl (rest := rest) rfl
    (by rw [hb]; exact d7) (by rw [hb]; exact d10) hout hRframes (by simp only [List.map_cons, List.sum_cons, hcat]; omega) hlocks
  obtain ⟨f1, f2⟩ := vx_frame hsame
  rw [hhp] at f1 f2
  have hWs : s.WarmedH U.vm := State.WarmedH.trans hW0 hW
  have hcl : s.vm.findClass cls = some ce.cls := by
    have h9 := hO.cls
    rw [hvm] at h9
    exact h9
  have hall : s.sameButNew ({ U with vm := s.vm } : State) locs mc ms := by
    subst hA
    obtain ⟨e1, e2⟩ := hsame
    rw [State.setFrames_setFrames] at e1
    have h2 : (T.setVm s.vm).sameButNew ({ U with vm := s.vm } : State) [] (0 + 1) (0 + 6) := ⟨e1, e2⟩
    have h3 := X.same.trans h2
    rw [List.append_nil] at h3
    exact h3.mono hc hs
  refine ⟨U, ?_, .threw T.heap.size, hrun, hend, Or.inr ⟨T.heap.size, rfl, cls, ce, locs, hx U hWs.alike f1 (fun q hq => f2 q hq (fun z hz => nomatch hz)), hce, hO.vm, hcl, hWs, hall, hf⟩⟩
  refine st1 _ ?_
  show Steps p.tables e below (T1.setTop { method := m, pc := pc + 3, locals := ls, stack := .ref T.heap.size :: rest, locked := none }) _
  jvm_step X₁.here [X₁.here.top, hexec, d3', Value.category]
  exact X₁.ldcStringW hexec (own := own) (text := text) (index := is) (a := sa) hown' hstr'.1 hstr'.2
    (g := { method := m, pc := pc + 4, locals := ls, stack := .ref T.heap.size :: .ref T.heap.size :: rest, locked := none }) rfl d4' _ hsteps
end Ends
section Bodies
variable {l : Launch}
theorem vx_ofW {y : MethodName} {ws ws' : List Cond} {rm : Room} {Pc : Array Value → State → Prop} {Qc : Array Value → State → Outcome → State → Prop} {XC : String → State → State → Prop} {mc ms : Nat} {free : Addr → Prop} {cc : ByteArray} {maxL : Nat} {ret : Option FieldType}
    (hy : plainName y.cls = true) (hw : ws = Cond.code y cc maxL ret :: ws')
    (body : ∀ p e s m args below meth c s₁, BodyLoose p l y (headSpec ws rm) cc maxL ret e s m args below meth c s₁ → c.maxLocals = maxL → (∀ x ∈ c.exceptionTable.toList, False) → Pc args s →
      W p l e (headSpec ws rm).room s m args below meth c s.heap [] 0 0 (vx_MQ below Qc XC args s mc ms free) (entryFrame m args maxL)) : vx_Met l y ws rm Pc Qc XC mc ms free := by
  refine MetFree.of_bodyS (code := cc) (maxLocals := maxL) (ret := ret) hy ?_ ?_
  · intro args s m h hn
    obtain ⟨meth, c, h1, h2, h3, h4, h5, h6, -, -⟩ := Cond.code_spec hn (atoms_spec (ws := ws) h _ (by rw [hw]; exact List.mem_cons_self))
    exact ⟨meth, c, h1, h2, h3, h4, h5, h6⟩
  · intro p e s m args below meth c s₁ B hml hP _
    have hh0 : s₁.heap = s.heap := by rw [B.state]; rfl
    have ht : ∀ x ∈ c.exceptionTable.toList, False := by
      obtain ⟨meth9, c9, h1, h2, -, -, -, -, h7, -⟩ := Cond.code_spec B.named (atoms_spec (ws := ws) B.pre _ (by rw [hw]; exact List.mem_cons_self))
      cases Option.some.inj (h1.symm.trans B.method)
      cases Option.some.inj (h2.symm.trans (Stand.of_body B).code)
      intro x hx
      rw [Array.isEmpty_iff.mp h7] at hx
      cases hx
    obtain ⟨t, a1, o, b1, b2, b3⟩ := body p e s m args below meth c s₁ B hml ht hP s₁ hh0 (Stand.of_body B)
    exact ⟨t, o, a1, b1, b2, b3⟩
theorem vx_table {p : Program} {x y : MethodName} {S : Spec} {cc bytes : ByteArray} {maxL maxL' : Nat} {ret ret' : Option FieldType} {e : Env} {s s₁ : State} {m : MethodId} {args : Array Value} {below : List Frame} {meth : Method} {c : Code} {hh : List (Nat × Nat × Nat × Nat)}
    (B : BodyLoose p l y S cc maxL ret e s m args below meth c s₁) (h : (Cond.codeWith y bytes maxL' ret' hh).before args s = true) : c.exceptionTable.toList = tableOf hh := by
  obtain ⟨m9, meth9, c9, hn9, h1, h2, -, -, h6, -⟩ := Cond.codeWith_spec h
  cases Option.some.inj (hn9.symm.trans B.named)
  cases Option.some.inj (h1.symm.trans B.method)
  cases Option.some.inj (h2.symm.trans (Stand.of_body B).code)
  rw [← h6, table_eq]
end Bodies
end VXA
/-! ===== END ===== -/
/-! ===== BEGIN a static call of a method with an exception table ===== -/
section VXS
variable {p : Program} {l : Launch} {e : Env} {R : Room} {s : State} {m : MethodId} {args : Array Value} {below : List Frame} {meth : Method} {c : Code} {T : State} {H : Heap} {locs : List Loc} {cells slots : Nat}
abbrev vx_CSW (R : Room) (s : State) (args : Array Value) (own : String) (index : Nat) (y : MethodName) (bytes : ByteArray) (maxL : Nat) (ret : Option FieldType) (hh : List (Nat × Nat × Nat × Nat)) (ws : List Cond) (rm : Room) (mc ms n : Nat) : Prop :=
  (rm.cells = mc ∧ rm.slots = ms ∧ rm.frames + 1 ≤ R.frames ∧ 8 + (maxL + 11) + rm.locals ≤ R.locals ∧ (∀ w ∈ ws, ∀ (a' : Array Value) (U : State), s.WarmedH U.vm → w.before a' U = true) ∧ Cond.codeWith y bytes maxL ret hh ∈ ws) ∧
  (Cond.codeWith y bytes maxL ret hh).before args s = true ∧ (Cond.initialized y.cls).before args s = true ∧ (y.cls ≠ "java/lang/invoke/MethodHandle" ∧ y.cls ≠ "java/lang/invoke/VarHandle") ∧
  (∀ sig, parseMethodDescriptor y.desc = some sig → n = sig.parameters.length) ∧ (Cond.methodLink own index y).before args s = true ∧ (Cond.static y).before args s = true
theorem vx_cwSW {own : String} {index maxL mc ms : Nat} {y : MethodName} {bytes : ByteArray} {ret : Option FieldType} {hh : List (Nat × Nat × Nat × Nat)} {Ts ws ws' : List Cond} {rm : Room} (n : Nat) (ht : ∀ w ∈ Ts, w.before args s = true) (hT : GoodIn Ts (va_wsS own index y ws)) (hw : ws = Cond.codeWith y bytes maxL ret hh :: ws') (hrc : rm.cells = mc) (hrs : rm.slots = ms)
    (hd : y.cls ≠ "java/lang/invoke/MethodHandle" ∧ y.cls ≠ "java/lang/invoke/VarHandle" ∧ (parseMethodDescriptor y.desc).map (fun d => d.parameters.length) = some n) (hR : rm.frames + 1 ≤ R.frames ∧ 8 + (maxL + 11) + rm.locals ≤ R.locals) :
    vx_CSW R s args own index y bytes maxL ret hh ws rm mc ms n := by
  have ok : ∀ w ∈ va_wsS own index y ws, w.before args s = true := fun w h => ht w (hT w h).1
  have hG : GoodIn Ts ws := fun w h => hT w (by unfold va_wsS; exact List.mem_append_right _ h)
  have hc : Cond.codeWith y bytes maxL ret hh ∈ ws := by rw [hw]; exact List.mem_cons_self
  refine ⟨⟨hrc, hrs, hR.1, hR.2, pay_in ht hG, hc⟩, ht _ (hG _ hc).1, ok _ (by simp [va_wsS]), ⟨hd.1, hd.2.1⟩, fun sig h => ?_, ok _ (by simp [va_wsS]), ok _ (by simp [va_wsS])⟩
  have h2 := hd.2.2
  rw [h] at h2
  exact (Option.some.inj h2).symm
theorem vx_callSW (X : Stand p l e R s m args below meth c T locs cells slots) (hexec : p.tables.exec = Jvm.exec) {own : String} {index : Nat} {y : MethodName} {bytes : ByteArray} {maxL : Nat} {ret : Option FieldType} {hh : List (Nat × Nat × Nat × Nat)}
    (hown : s.vm.findClass own = some m.cls) (hlink : (Cond.methodLink own index y).before args s = true) (hstat : (Cond.static y).before args s = true) (hinit : (Cond.initialized y.cls).before args s = true)
    (hcode : (Cond.codeWith y bytes maxL ret hh).before args s = true) (hy : y.cls ≠ "java/lang/invoke/MethodHandle" ∧ y.cls ≠ "java/lang/invoke/VarHandle")
    {W9 : Nat} {Pre : Pt → Array Value → Prop} {Post : Pt → Array Value → Option Value → Pt → Prop} (hK : Back l R p e below s args y 3 W9 Pre Post)
    {g : JFrame} (hg : g.method = m) (hsize : g.locals.size = c.maxLocals) {argsL rest : List Value} (hlen : ∀ sig, parseMethodDescriptor y.desc = some sig → argsL.length = sig.parameters.length)
    (hstack : g.stack = argsL.reverse ++ rest) (hW : 2 * g.monitorRoom + (rest.map fun v => v.category).sum ≤ W9) (hdg : decode c.code g.pc = .ok (.invokestatic index, 3))
    (hpre : ∀ vm₁, s.WarmedH vm₁ → Pre ⟨T.setVm vm₁, locs, cells, slots⟩ argsL.toArray) :
    ∃ (v : Option Value) (vm₁ : Vm) (B : Pt), s.WarmedH vm₁ ∧ Stand p l e R s m args below meth c B.U B.locs B.cells B.slots ∧ Post ⟨T.setVm vm₁, locs, cells, slots⟩ argsL.toArray v B ∧
      ∀ target, Steps p.tables e below (B.U.setTop { g with pc := g.pc + 3, stack := v.toList ++ rest }) target → Steps p.tables e below (T.setTop g) target := by
  obtain ⟨mk, methM, cM, hnamed, hmethM, -, -, -, -, -, -, hsigM⟩ := Cond.codeWith_spec hcode
  have hstatic : methM.isStatic = true := Cond.static_spec hnamed hmethM hstat
  obtain ⟨kP, hkP, -⟩ := className_of_methodNamed hnamed
  have hinitP : kP.init = .initialized := Cond.initialized_spec (findClass_of_methodNamed hnamed) hkP hinit
  obtain ⟨vm₁, X₁, hstep₁⟩ := X.invokestatic hexec hown hlink hnamed hmethM hstatic hkP hinitP hy (g := g) hg (argsL := argsL) (rest := rest) (hlen _ hsigM) hstack hdg
  obtain ⟨v, B, X', hpost, hsteps⟩ := hK m meth c ⟨T.setVm vm₁, locs, cells, slots⟩ { g with stack := rest } (.invokestatic index) mk argsL.toArray X₁ hg hsize hdg hW (X₁.named hnamed) (hpre vm₁ X₁.warmed)
  exact ⟨v, vm₁, B, X₁.warmed, X', hpost, fun target h => hstep₁ _ fun acts => by rw [doInvoke_state]; exact hsteps.trans h⟩
theorem vx_runSW {y : MethodName} {bytes cc : ByteArray} {maxL nL mc ms n index : Nat} {ret : Option FieldType} {hh : List (Nat × Nat × Nat × Nat)} {ws : List Cond} {rm : Room} {Pc : Array Value → State → Prop} {Qc : Array Value → State → Outcome → State → Prop} {free : Addr → Prop} {Ts : List Cond} {own : String} {As rest : List Value} {g : JFrame}
    (S : CallFix p m c cc nL s args Ts own) (hM : Met l y ws rm Pc Qc mc ms free) (cw : vx_CSW R s args own index y bytes maxL ret hh ws rm mc ms n) (hp : PreS s H Pc As)
    (hg : g.method = m) (hn : As.length = n) (hsize : g.locals.size = nL) (hstack : g.stack = As.reverse ++ rest) (hW : 2 * g.monitorRoom + (rest.map fun v => v.category).sum ≤ 8) (hdg : decode cc g.pc = .ok (.invokestatic index, 3)) (hf : cells + mc ≤ R.cells ∧ slots + ms ≤ R.slots) :
    va_Run p l e R s m args below meth c H locs cells slots mc ms g rest (Qc As.toArray) (free) := by
  obtain ⟨⟨hrc, hrs, hfr, hlo, hws, hcw⟩, hcode, hini, hy, hlen, hl, hstt⟩ := cw
  have hK : Back l R p e below s args y 3 8 (PreOf R mc ms Pc) (PostOf Qc mc ms free) := va_backW (hh := hh) (bytes := bytes) (maxL := maxL) (ret := ret) hM hp.1 hrc hrs hfr hlo hws hcw (fun a' U hW => word_at hW (Or.inl (by first | rfl | simp [Cond.onTables, Cond.keeps, Cond.steady])) hini)
  obtain ⟨hx, hb, hml, ho, -⟩ := S
  intro T hT X
  obtain ⟨v, vm₁, ⟨U', l2, c2, s2⟩, hW₁, X', ⟨g', mk, t, L, e1, e2, hq, h1, hL, h2, h3⟩, st⟩ := vx_callSW X hx (hh := hh) (bytes := bytes) (maxL := maxL) (ret := ret) ho hl hstt hini hcode hy hK hg (hsize.trans hml.symm) (argsL := As) (rest := rest) (fun sig h => hn.trans (hlen sig h)) hstack hW (by rw [hb]; exact hdg)
    (fun vm₁ hW₁ => ⟨hf.1, hf.2, hp.2 (T.setVm vm₁) hT hW₁⟩)
  dsimp only [Pt.U, Pt.locs, Pt.cells, Pt.slots] at X' e1 e2 h1 h2 h3 st
  subst h1; subst h2; subst h3
  exact ⟨v, (T.setVm vm₁).calling g' mk As.toArray, t, U', L, hT, X', hL, e1, e2, hq, st⟩
theorem vx_lt {D : va_G} {cl : List vw_C} {ws : va_W} {H1 : Heap} (h : va_P D cl ws H1) {k : Nat} {q : Nat × va_E} (hk : ws[k]? = some q) : q.1 < H1.size := (h k q hk).lt
end VXS
/-! ===== END ===== -/
/-! ===== BEGIN methods with a table of their own: called by a name, returning or throwing ===== -/
section VXH
/-! vx_backW, vx_callVX, vx_callSX, vx_callVW, vx_runVW, vx_runVX, vx_runSX, vx_ofWH follow the same proofs as their sisters above (Free/Laws.lean, Shelf42/LK1.lean); vx_outP calls Shelf42/NT130.lean (outThrough). -/
section
variable {l : Launch} {R : Room} {p : Program} {e : Env} {below : List Frame} {s : State} {sargs : Array Value} {y : MethodName} {len W9 : Nat}
theorem vx_backW {ws : List Cond} {rm : Room} {Pc : Array Value → State → Prop} {Qc : Array Value → State → Outcome → State → Prop} {XC : String → State → State → Prop} {mc ms : Nat} {free : Addr → Prop} {bytes : ByteArray} {maxL : Nat} {ret : Option FieldType} {hh : List (Nat × Nat × Nat × Nat)}
    (hM : vx_Met l y ws rm Pc Qc XC mc ms free) (hblind : FrameBlind Pc) (hrc : rm.cells = mc) (hrs : rm.slots = ms)
    (hframes : rm.frames + 1 ≤ R.frames) (hlocals : W9 + (maxL + 11) + rm.locals ≤ R.locals)
    (hws : ∀ w ∈ ws, ∀ a' U, s.WarmedH U.vm → w.before a' U = true) (hcode : Cond.codeWith y bytes maxL ret hh ∈ ws) (hinit : ∀ a' U, s.WarmedH U.vm → (Cond.initialized y.cls).before a' U = true) :
    vx_Back l R p e below s sargs y len W9 (PreOf R mc ms Pc) (PostOf Qc mc ms free) (vx_Post XC mc ms free) := by
  intro m meth c A g ig mk a X hg hsize hdg hW hn hp
  have h1 : (headSpec ws rm).pre.before a A.U = true := atoms_intro fun w hw => hws w hw _ _ X.warmed
  have h2 : (Cond.codeWith y bytes maxL ret hh).before a A.U = true := hws _ hcode _ _ X.warmed
  have h3 : (Cond.initialized y.cls).before a A.U = true := hinit _ _ X.warmed
  have h4 : A.cells + (headSpec ws rm).room.cells ≤ R.cells := by rw [show (headSpec ws rm).room.cells = mc from hrc]; exact hp.1
  have h5 : A.slots + (headSpec ws rm).room.slots ≤ R.slots := by rw [show (headSpec ws rm).room.slots = ms from hrs]; exact hp.2.1
  have hPc : Pc a (A.U.calling g mk a) := hblind _ _ _ _ hp.2.2
  obtain ⟨U, Ls, c0, s0⟩ := A
  dsimp only [Pt.U, Pt.locs, Pt.cells, Pt.slots] at h1 h2 h3 h4 h5 X hn hPc ⊢
  obtain ⟨m9, methY, cY, hn9, hmY, hcY, -, hlY, -⟩ := Cond.codeWith_spec h2
  cases Option.some.inj (hn9.symm.trans hn)
  obtain ⟨kY, hkY, -⟩ := className_of_methodNamed hn
  have hinitY : kY.init = .initialized := Cond.initialized_spec (findClass_of_methodNamed hn) hkY h3
  have h : At U g.method c below := by rw [hg]; exact X.here
  have hlocals9 : W9 + (maxL + 11) + (headSpec ws rm).room.locals ≤ R.locals := hlocals
  have happ : (headSpec ws rm).appliesLoose y e.platform (U.calling g mk a) = true :=
    Spec.appliesLoose_calling (g := g) h hdg hn hkY hinitY
      (X.room_calling (g := g) (R' := (headSpec ws rm).room) hsize hmY hcY hframes (by rw [hlY]; omega) h4 h5) h1
  obtain ⟨mid, hmid⟩ := h.above
  have hfr : (U.setTop g).frames = (.java g :: mid) ++ below := by rw [State.frames_setTop' g h.top, hmid]; rfl
  obtain ⟨o, s₂, hsteps, -, hend, hq⟩ := Steps.callFree hM p X.admits X.cas X.clock (acts := []) hfr happ hPc trivial
  have hq' : vx_Q Qc XC mc ms free a (U.calling g mk a) o s₂ := hq
  rw [State.frames_setTop' g h.top] at hend
  obtain ⟨g₀, hg0⟩ := Option.isSome_iff_exists.mp h.top
  obtain ⟨r, hr⟩ := State.topJava?_eq_some.mp hg0
  have hr' : (({ U with heap := s₂.heap, slotsUsed := s₂.slotsUsed } : State).setVm s₂.vm).frames = .java g₀ :: r := hr
  rcases hq' with ⟨hqc, L, hfe, hL⟩ | ⟨q, rfl, E, ce, L, hx, hce, hcv, hcl, hW₂, hsm, hL⟩
  · obtain ⟨⟨v, rfl⟩, hW₂, e2, q2, q3, q4, q5, q6⟩ := id hfe
    have e3 : s₂ = ({ (U.calling g mk a).setFrames s₂.frames with heap := s₂.heap, slotsUsed := s₂.slotsUsed } : State).setVm s₂.vm := by
      have : s₂ = ({ s₂ with vm := (U.calling g mk a).vm } : State).setVm s₂.vm := rfl
      rw [e2] at this
      exact this
    obtain ⟨c₂, i₂, len₂, hc₂, hd₂, hf₂⟩ := hend
    have hW' : U.WarmedH s₂.vm := hW₂
    have hcc : c₂ = c := by
      have h1 : s₂.code? g.method = U.code? g.method := by
        rw [State.code?_eq, State.code?_eq, hW'.alike.method?]
      exact Option.some.inj (hc₂.symm.trans (h1.trans h.code))
    subst hcc
    have hlen : len₂ = len := by rw [hdg] at hd₂; cases hd₂; rfl
    subst hlen
    have hs₂ : s₂ = (({ U with heap := s₂.heap, slotsUsed := s₂.slotsUsed } : State).setVm s₂.vm).setTop { g with pc := g.pc + len₂, stack := v.toList ++ g.stack } := by
      refine e3.trans ?_
      rw [hf₂, State.calling_eq h.top, State.setFrames_setFrames, State.setTop_of_frames _ hr', hr]
      rfl
    have hsame : U.sameButNew ({ U with heap := s₂.heap, slotsUsed := s₂.slotsUsed } : State) L mc ms := by
      refine ⟨?_, q2, q3, q4, q5, q6⟩
      obtain ⟨t, ht, -⟩ := State.frames_cons hr
      show ({ U with heap := s₂.heap, slotsUsed := s₂.slotsUsed } : State) = { U.setFrames U.frames with heap := s₂.heap, slotsUsed := s₂.slotsUsed }
      rw [State.setFrames_self ht]
    subst hg
    refine Or.inl ⟨v, ⟨(({ U with heap := s₂.heap, slotsUsed := s₂.slotsUsed } : State).setVm s₂.vm), Ls ++ L, c0 + mc, s0 + ms⟩,
      ⟨X.admits, X.cas, X.clock, X.frames, X.room, X.hears, X.method, X.code, (X.here.setHeapUsed s₂.heap s₂.slotsUsed).setVm hW'.alike, X.tail, State.WarmedH.trans X.warmed hW', X.limits, X.bytes, X.same.trans (hsame.setVm s.vm)⟩,
      ⟨g, mk, s₂, L, rfl, rfl, hqc, rfl, hL, rfl, rfl⟩, ?_⟩
    show Steps p.tables e below _ ((({ U with heap := s₂.heap, slotsUsed := s₂.slotsUsed } : State).setVm s₂.vm).setTop { g with pc := g.pc + len₂, stack := v.toList ++ g.stack })
    rw [← hs₂]
    exact hsteps
  · obtain ⟨e2, q2, q3, q4, q5, q6⟩ := id hsm
    have e3 : s₂ = ({ (U.calling g mk a).setFrames s₂.frames with heap := s₂.heap, slotsUsed := s₂.slotsUsed } : State).setVm s₂.vm := by
      have : s₂ = ({ s₂ with vm := (U.calling g mk a).vm } : State).setVm s₂.vm := rfl
      rw [e2] at this
      exact this
    have hf₂ : s₂.frames = .throwing q :: .java g :: U.frames.tail := hend
    have hW' : U.WarmedH s₂.vm := hW₂
    have hs₂ : s₂ = ((({ U with heap := s₂.heap, slotsUsed := s₂.slotsUsed } : State).setVm s₂.vm).setTop g).pushFrame (.throwing q) := by
      refine e3.trans ?_
      rw [hf₂, State.calling_eq h.top, State.setFrames_setFrames, State.pushFrame, State.frames_setTop _ hr', State.setTop_of_frames _ hr', State.setFrames_setFrames, hr]
      rfl
    have hsame : U.sameButNew ({ U with heap := s₂.heap, slotsUsed := s₂.slotsUsed } : State) L mc ms := by
      refine ⟨?_, q2, q3, q4, q5, q6⟩
      obtain ⟨t, ht, -⟩ := State.frames_cons hr
      show ({ U with heap := s₂.heap, slotsUsed := s₂.slotsUsed } : State) = { U.setFrames U.frames with heap := s₂.heap, slotsUsed := s₂.slotsUsed }
      rw [State.setFrames_self ht]
    subst hg
    refine Or.inr ⟨q, ⟨(({ U with heap := s₂.heap, slotsUsed := s₂.slotsUsed } : State).setVm s₂.vm), Ls ++ L, c0 + mc, s0 + ms⟩,
      ⟨X.admits, X.cas, X.clock, X.frames, X.room, X.hears, X.method, X.code, (X.here.setHeapUsed s₂.heap s₂.slotsUsed).setVm hW'.alike, X.tail, State.WarmedH.trans X.warmed hW', X.limits, X.bytes, X.same.trans (hsame.setVm s.vm)⟩,
      ⟨g, mk, s₂, L, E, ce, rfl, rfl, hx, hce, hcv, hcl, rfl, hL, rfl, rfl⟩, ?_⟩
    show Steps p.tables e below _ (((({ U with heap := s₂.heap, slotsUsed := s₂.slotsUsed } : State).setVm s₂.vm).setTop g).pushFrame (.throwing q))
    rw [← hs₂]
    exact hsteps
end
variable {p : Program} {l : Launch} {e : Env} {R : Room} {s : State} {m : MethodId} {args : Array Value} {below : List Frame} {meth : Method} {c : Code} {T : State} {H : Heap} {locs : List Loc} {cells slots : Nat}
theorem vx_callVX (X : Stand p l e R s m args below meth c T locs cells slots) (hexec : p.tables.exec = Jvm.exec) {own C : String} {index : Nat} {y : MethodName} {bytes : ByteArray} {maxL : Nat} {ret : Option FieldType} {hh : List (Nat × Nat × Nat × Nat)}
    (hown : s.vm.findClass own = some m.cls) (hlink : (Cond.methodLink own index y).before args s = true) (hinst : (Cond.instanceMethod y).before args s = true) (hsel : (Cond.selects C y y).before args s = true)
    (hcode : (Cond.codeWith y bytes maxL ret hh).before args s = true) (hy : y.cls ≠ "java/lang/invoke/MethodHandle" ∧ y.cls ≠ "java/lang/invoke/VarHandle")
    {W9 : Nat} {Pre : Pt → Array Value → Prop} {Post : Pt → Array Value → Option Value → Pt → Prop} {PostX : Pt → Array Value → Addr → Pt → Prop} (hK : vx_Back l R p e below s args y 3 W9 Pre Post PostX)
    {b : Addr} {cellB : Cell} (hcell : T.heap[b]? = some cellB) (hobj : cellB.vm.isStatics = false) (hcls : s.vm.findClass C = some cellB.cls)
    {g : JFrame} (hg : g.method = m) (hsize : g.locals.size = c.maxLocals) {argsL rest : List Value} (hlen : ∀ sig, parseMethodDescriptor y.desc = some sig → argsL.length = sig.parameters.length)
    (hstack : g.stack = argsL.reverse ++ .ref b :: rest) (hW : 2 * g.monitorRoom + (rest.map fun v => v.category).sum ≤ W9) (hdg : decode c.code g.pc = .ok (.invokevirtual index, 3))
    (hpre : ∀ vm₁, s.WarmedH vm₁ → Pre ⟨T.setVm vm₁, locs, cells, slots⟩ (Value.ref b :: argsL).toArray) :
    (∃ (v : Option Value) (vm₁ : Vm) (B : Pt), s.WarmedH vm₁ ∧ Stand p l e R s m args below meth c B.U B.locs B.cells B.slots ∧ Post ⟨T.setVm vm₁, locs, cells, slots⟩ (Value.ref b :: argsL).toArray v B ∧
      ∀ target, Steps p.tables e below (B.U.setTop { g with pc := g.pc + 3, stack := v.toList ++ rest }) target → Steps p.tables e below (T.setTop g) target) ∨
    (∃ (q : Addr) (vm₁ : Vm) (B : Pt), s.WarmedH vm₁ ∧ Stand p l e R s m args below meth c B.U B.locs B.cells B.slots ∧ PostX ⟨T.setVm vm₁, locs, cells, slots⟩ (Value.ref b :: argsL).toArray q B ∧
      Steps p.tables e below (T.setTop g) ((B.U.setTop { g with stack := rest }).pushFrame (.throwing q))) := by
  obtain ⟨mk, methM, hnamed, hmethM, hstM, habM⟩ := Cond.instanceMethod_spec hinst
  obtain ⟨m8, methM', cM, hn8, hmethM', -, -, -, -, -, -, hsigM⟩ := Cond.codeWith_spec hcode
  cases Option.some.inj (hn8.symm.trans hnamed)
  cases hmethM.symm.trans hmethM'
  obtain ⟨c2, r2, m2, q1, q2, q3, q4, kP, hkP, hkPi⟩ := Cond.selects_spec hsel
  cases hcls.symm.trans q1
  cases (State.methodFound?_of_named hnamed hy).symm.trans q2
  cases hnamed.symm.trans q3
  have hselP : selectMethod e.platform s.vm cellB.cls mk = .method mk := by rw [Launch.admits_selectMethod X.admits]; exact q4
  obtain ⟨vm₁, X₁, hstep₁⟩ := X.invokevirtual hexec hown hlink hnamed hmethM hstM hkP hkPi hy (a := b) (cell := cellB) hcell
    (fun z h => by rw [h] at hobj; cases hobj) hselP hmethM habM hkP hkPi (g := g) hg (argsL := argsL) (rest := rest) (hlen _ hsigM) hstack hdg
  rcases hK m meth c ⟨T.setVm vm₁, locs, cells, slots⟩ { g with stack := rest } (.invokevirtual index) mk (Value.ref b :: argsL).toArray X₁ hg hsize hdg hW (X₁.named hnamed) (hpre vm₁ X₁.warmed) with ⟨v, B, X', hpost, hsteps⟩ | ⟨q, B, X', hpost, hsteps⟩
  · exact Or.inl ⟨v, vm₁, B, X₁.warmed, X', hpost, fun target h => hstep₁ _ fun acts => by rw [doInvoke_state]; exact hsteps.trans h⟩
  · exact Or.inr ⟨q, vm₁, B, X₁.warmed, X', hpost, hstep₁ _ fun acts => by rw [doInvoke_state]; exact hsteps⟩
theorem vx_callSX (X : Stand p l e R s m args below meth c T locs cells slots) (hexec : p.tables.exec = Jvm.exec) {own : String} {index : Nat} {y : MethodName} {bytes : ByteArray} {maxL : Nat} {ret : Option FieldType} {hh : List (Nat × Nat × Nat × Nat)}
    (hown : s.vm.findClass own = some m.cls) (hlink : (Cond.methodLink own index y).before args s = true) (hstat : (Cond.static y).before args s = true) (hinit : (Cond.initialized y.cls).before args s = true)
    (hcode : (Cond.codeWith y bytes maxL ret hh).before args s = true) (hy : y.cls ≠ "java/lang/invoke/MethodHandle" ∧ y.cls ≠ "java/lang/invoke/VarHandle")
    {W9 : Nat} {Pre : Pt → Array Value → Prop} {Post : Pt → Array Value → Option Value → Pt → Prop} {PostX : Pt → Array Value → Addr → Pt → Prop} (hK : vx_Back l R p e below s args y 3 W9 Pre Post PostX)
    {g : JFrame} (hg : g.method = m) (hsize : g.locals.size = c.maxLocals) {argsL rest : List Value} (hlen : ∀ sig, parseMethodDescriptor y.desc = some sig → argsL.length = sig.parameters.length)
    (hstack : g.stack = argsL.reverse ++ rest) (hW : 2 * g.monitorRoom + (rest.map fun v => v.category).sum ≤ W9) (hdg : decode c.code g.pc = .ok (.invokestatic index, 3))
    (hpre : ∀ vm₁, s.WarmedH vm₁ → Pre ⟨T.setVm vm₁, locs, cells, slots⟩ argsL.toArray) :
    (∃ (v : Option Value) (vm₁ : Vm) (B : Pt), s.WarmedH vm₁ ∧ Stand p l e R s m args below meth c B.U B.locs B.cells B.slots ∧ Post ⟨T.setVm vm₁, locs, cells, slots⟩ argsL.toArray v B ∧
      ∀ target, Steps p.tables e below (B.U.setTop { g with pc := g.pc + 3, stack := v.toList ++ rest }) target → Steps p.tables e below (T.setTop g) target) ∨
    (∃ (q : Addr) (vm₁ : Vm) (B : Pt), s.WarmedH vm₁ ∧ Stand p l e R s m args below meth c B.U B.locs B.cells B.slots ∧ PostX ⟨T.setVm vm₁, locs, cells, slots⟩ argsL.toArray q B ∧
      Steps p.tables e below (T.setTop g) ((B.U.setTop { g with stack := rest }).pushFrame (.throwing q))) := by
  obtain ⟨mk, methM, cM, hnamed, hmethM, -, -, -, -, -, -, hsigM⟩ := Cond.codeWith_spec hcode
  have hstatic : methM.isStatic = true := Cond.static_spec hnamed hmethM hstat
  obtain ⟨kP, hkP, -⟩ := className_of_methodNamed hnamed
  have hinitP : kP.init = .initialized := Cond.initialized_spec (findClass_of_methodNamed hnamed) hkP hinit
  obtain ⟨vm₁, X₁, hstep₁⟩ := X.invokestatic hexec hown hlink hnamed hmethM hstatic hkP hinitP hy (g := g) hg (argsL := argsL) (rest := rest) (hlen _ hsigM) hstack hdg
  rcases hK m meth c ⟨T.setVm vm₁, locs, cells, slots⟩ { g with stack := rest } (.invokestatic index) mk argsL.toArray X₁ hg hsize hdg hW (X₁.named hnamed) (hpre vm₁ X₁.warmed) with ⟨v, B, X', hpost, hsteps⟩ | ⟨q, B, X', hpost, hsteps⟩
  · exact Or.inl ⟨v, vm₁, B, X₁.warmed, X', hpost, fun target h => hstep₁ _ fun acts => by rw [doInvoke_state]; exact hsteps.trans h⟩
  · exact Or.inr ⟨q, vm₁, B, X₁.warmed, X', hpost, hstep₁ _ fun acts => by rw [doInvoke_state]; exact hsteps⟩
theorem vx_callVW (X : Stand p l e R s m args below meth c T locs cells slots) (hexec : p.tables.exec = Jvm.exec) {own C : String} {index : Nat} {y : MethodName} {bytes : ByteArray} {maxL : Nat} {ret : Option FieldType} {hh : List (Nat × Nat × Nat × Nat)}
    (hown : s.vm.findClass own = some m.cls) (hlink : (Cond.methodLink own index y).before args s = true) (hinst : (Cond.instanceMethod y).before args s = true) (hsel : (Cond.selects C y y).before args s = true)
    (hcode : (Cond.codeWith y bytes maxL ret hh).before args s = true) (hy : y.cls ≠ "java/lang/invoke/MethodHandle" ∧ y.cls ≠ "java/lang/invoke/VarHandle")
    {W9 : Nat} {Pre : Pt → Array Value → Prop} {Post : Pt → Array Value → Option Value → Pt → Prop} (hK : Back l R p e below s args y 3 W9 Pre Post)
    {b : Addr} {cellB : Cell} (hcell : T.heap[b]? = some cellB) (hobj : cellB.vm.isStatics = false) (hcls : s.vm.findClass C = some cellB.cls)
    {g : JFrame} (hg : g.method = m) (hsize : g.locals.size = c.maxLocals) {argsL rest : List Value} (hlen : ∀ sig, parseMethodDescriptor y.desc = some sig → argsL.length = sig.parameters.length)
    (hstack : g.stack = argsL.reverse ++ .ref b :: rest) (hW : 2 * g.monitorRoom + (rest.map fun v => v.category).sum ≤ W9) (hdg : decode c.code g.pc = .ok (.invokevirtual index, 3))
    (hpre : ∀ vm₁, s.WarmedH vm₁ → Pre ⟨T.setVm vm₁, locs, cells, slots⟩ (Value.ref b :: argsL).toArray) :
    ∃ (v : Option Value) (vm₁ : Vm) (B : Pt), s.WarmedH vm₁ ∧ Stand p l e R s m args below meth c B.U B.locs B.cells B.slots ∧ Post ⟨T.setVm vm₁, locs, cells, slots⟩ (Value.ref b :: argsL).toArray v B ∧
      ∀ target, Steps p.tables e below (B.U.setTop { g with pc := g.pc + 3, stack := v.toList ++ rest }) target → Steps p.tables e below (T.setTop g) target := by
  obtain ⟨mk, methM, hnamed, hmethM, hstM, habM⟩ := Cond.instanceMethod_spec hinst
  obtain ⟨m8, methM', cM, hn8, hmethM', -, -, -, -, -, -, hsigM⟩ := Cond.codeWith_spec hcode
  cases Option.some.inj (hn8.symm.trans hnamed)
  cases hmethM.symm.trans hmethM'
  obtain ⟨c2, r2, m2, q1, q2, q3, q4, kP, hkP, hkPi⟩ := Cond.selects_spec hsel
  cases hcls.symm.trans q1
  cases (State.methodFound?_of_named hnamed hy).symm.trans q2
  cases hnamed.symm.trans q3
  have hselP : selectMethod e.platform s.vm cellB.cls mk = .method mk := by rw [Launch.admits_selectMethod X.admits]; exact q4
  obtain ⟨vm₁, X₁, hstep₁⟩ := X.invokevirtual hexec hown hlink hnamed hmethM hstM hkP hkPi hy (a := b) (cell := cellB) hcell
    (fun z h => by rw [h] at hobj; cases hobj) hselP hmethM habM hkP hkPi (g := g) hg (argsL := argsL) (rest := rest) (hlen _ hsigM) hstack hdg
  obtain ⟨v, B, X', hpost, hsteps⟩ := hK m meth c ⟨T.setVm vm₁, locs, cells, slots⟩ { g with stack := rest } (.invokevirtual index) mk (Value.ref b :: argsL).toArray X₁ hg hsize hdg hW (X₁.named hnamed) (hpre vm₁ X₁.warmed)
  exact ⟨v, vm₁, B, X₁.warmed, X', hpost, fun target h => hstep₁ _ fun acts => by rw [doInvoke_state]; exact hsteps.trans h⟩
abbrev vx_CVW (R : Room) (s : State) (args : Array Value) (own C : String) (index : Nat) (y : MethodName) (bytes : ByteArray) (maxL : Nat) (ret : Option FieldType) (hh : List (Nat × Nat × Nat × Nat)) (ws : List Cond) (rm : Room) (mc ms n : Nat) : Prop :=
  (rm.cells = mc ∧ rm.slots = ms ∧ rm.frames + 1 ≤ R.frames ∧ 8 + (maxL + 11) + rm.locals ≤ R.locals ∧ (∀ w ∈ ws, ∀ (a' : Array Value) (U : State), s.WarmedH U.vm → w.before a' U = true) ∧ Cond.codeWith y bytes maxL ret hh ∈ ws) ∧
  (Cond.codeWith y bytes maxL ret hh).before args s = true ∧ (Cond.initialized y.cls).before args s = true ∧ (y.cls ≠ "java/lang/invoke/MethodHandle" ∧ y.cls ≠ "java/lang/invoke/VarHandle") ∧
  (∀ sig, parseMethodDescriptor y.desc = some sig → n = sig.parameters.length) ∧ (Cond.methodLink own index y).before args s = true ∧ (Cond.instanceMethod y).before args s = true ∧ (Cond.selects C y y).before args s = true
theorem vx_cwVW {own C : String} {index maxL mc ms : Nat} {y : MethodName} {bytes : ByteArray} {ret : Option FieldType} {hh : List (Nat × Nat × Nat × Nat)} {Ts ws ws' : List Cond} {rm : Room} (n : Nat) (ht : ∀ w ∈ Ts, w.before args s = true) (hT : GoodIn Ts (wsV own index C y ws)) (hw : ws = Cond.codeWith y bytes maxL ret hh :: ws') (hrc : rm.cells = mc) (hrs : rm.slots = ms)
    (hd : y.cls = C ∧ y.cls ≠ "java/lang/invoke/MethodHandle" ∧ y.cls ≠ "java/lang/invoke/VarHandle" ∧ (parseMethodDescriptor y.desc).map (fun d => d.parameters.length) = some n) (hR : rm.frames + 1 ≤ R.frames ∧ 8 + (maxL + 11) + rm.locals ≤ R.locals) :
    vx_CVW R s args own C index y bytes maxL ret hh ws rm mc ms n := by
  obtain ⟨hC, hd⟩ := hd
  subst hC
  have ok : ∀ w ∈ wsV own index y.cls y ws, w.before args s = true := fun w h => ht w (hT w h).1
  have hG : GoodIn Ts ws := fun w h => hT w (by unfold wsV; exact List.mem_append_right _ h)
  have hc : Cond.codeWith y bytes maxL ret hh ∈ ws := by rw [hw]; exact List.mem_cons_self
  refine ⟨⟨hrc, hrs, hR.1, hR.2, pay_in ht hG, hc⟩, ht _ (hG _ hc).1, ok _ (by simp [wsV]), ⟨hd.1, hd.2.1⟩, fun sig h => ?_, ok _ (by simp [wsV]), ok _ (by simp [wsV]), ok _ (by simp [wsV])⟩
  have h2 := hd.2.2
  rw [h] at h2
  exact (Option.some.inj h2).symm
theorem vx_runVW {y : MethodName} {bytes cc : ByteArray} {maxL nL mc ms n index : Nat} {ret : Option FieldType} {hh : List (Nat × Nat × Nat × Nat)} {ws : List Cond} {rm : Room} {Pc : Array Value → State → Prop} {Qc : Array Value → State → Outcome → State → Prop} {free : Addr → Prop} {Ts : List Cond} {own C : String} {b : Addr} {As rest : List Value} {g : JFrame}
    (S : CallFix p m c cc nL s args Ts own) (hM : Met l y ws rm Pc Qc mc ms free) (cw : vx_CVW R s args own C index y bytes maxL ret hh ws rm mc ms n) (hp : PreV s H C b Pc As)
    (hg : g.method = m) (hn : As.length = n) (hsize : g.locals.size = nL) (hstack : g.stack = As.reverse ++ .ref b :: rest) (hW : 2 * g.monitorRoom + (rest.map fun v => v.category).sum ≤ 8) (hdg : decode cc g.pc = .ok (.invokevirtual index, 3)) (hf : cells + mc ≤ R.cells ∧ slots + ms ≤ R.slots) :
    va_Run p l e R s m args below meth c H locs cells slots mc ms g rest (Qc (Value.ref b :: As).toArray) free := by
  obtain ⟨⟨hrc, hrs, hfr, hlo, hws, hcw⟩, hcode, hini, hy, hlen, hl, hin, hse⟩ := cw
  have hK : Back l R p e below s args y 3 8 (PreOf R mc ms Pc) (PostOf Qc mc ms free) := va_backW (hh := hh) (bytes := bytes) (maxL := maxL) (ret := ret) hM hp.1 hrc hrs hfr hlo hws hcw (fun a' U hW => word_at hW (Or.inl (by first | rfl | simp [Cond.onTables, Cond.keeps, Cond.steady])) hini)
  obtain ⟨hx, hb, hml, ho, -⟩ := S
  obtain ⟨-, ⟨cellB, hcB, hoB, hclB⟩, hPc⟩ := hp
  intro T hT X
  obtain ⟨v, vm₁, ⟨U', l2, c2, s2⟩, hW₁, X', ⟨g', mk, t, L, e1, e2, hq, h1, hL, h2, h3⟩, st⟩ := vx_callVW X hx (C := C) (hh := hh) (bytes := bytes) (maxL := maxL) (ret := ret) ho hl hin hse hcode hy hK (by rw [hT]; exact hcB) hoB hclB hg (hsize.trans hml.symm) (argsL := As) (rest := rest) (fun sig h => hn.trans (hlen sig h)) hstack hW (by rw [hb]; exact hdg)
    (fun vm₁ hW₁ => ⟨hf.1, hf.2, hPc (T.setVm vm₁) hT hW₁⟩)
  dsimp only [Pt.U, Pt.locs, Pt.cells, Pt.slots] at X' e1 e2 h1 h2 h3 st
  subst h1; subst h2; subst h3
  exact ⟨v, (T.setVm vm₁).calling g' mk (Value.ref b :: As).toArray, t, U', L, hT, X', hL, e1, e2, hq, st⟩
section
variable {y : MethodName} {bytes cc : ByteArray} {maxL nL mc ms n index : Nat} {ret : Option FieldType} {ws : List Cond} {rm : Room} {Pc : Array Value → State → Prop} {Qc : Array Value → State → Outcome → State → Prop} {XC : String → State → State → Prop} {free : Addr → Prop} {Ts : List Cond} {own C : String} {b : Addr} {As rest : List Value} {g : JFrame}
theorem vx_runVX {hh : List (Nat × Nat × Nat × Nat)} (S : CallFix p m c cc nL s args Ts own) (hM : vx_Met l y ws rm Pc Qc XC mc ms free) (cw : vx_CVW R s args own C index y bytes maxL ret hh ws rm mc ms n) (hp : PreV s H C b Pc As)
    (hg : g.method = m) (hn : As.length = n) (hsize : g.locals.size = nL) (hstack : g.stack = As.reverse ++ .ref b :: rest) (hW : 2 * g.monitorRoom + (rest.map fun v => v.category).sum ≤ 8) (hdg : decode cc g.pc = .ok (.invokevirtual index, 3)) (hf : cells + mc ≤ R.cells ∧ slots + ms ≤ R.slots) :
    vx_Run p l e R s m args below meth c H locs cells slots mc ms g rest (Qc (Value.ref b :: As).toArray) XC free := by
  obtain ⟨⟨hrc, hrs, hfr, hlo, hws, hcw⟩, hcode, hini, hy, hlen, hl, hin, hse⟩ := cw
  have hK : vx_Back l R p e below s args y 3 8 (PreOf R mc ms Pc) (PostOf Qc mc ms free) (vx_Post XC mc ms free) := vx_backW (hh := hh) (bytes := bytes) (maxL := maxL) (ret := ret) hM hp.1 hrc hrs hfr hlo hws hcw (fun a' U hW => word_at hW (Or.inl (by first | rfl | simp [Cond.onTables, Cond.keeps, Cond.steady])) hini)
  obtain ⟨hx, hb, hml, ho, -⟩ := S
  obtain ⟨-, ⟨cellB, hcB, hoB, hclB⟩, hPc⟩ := hp
  intro T hT X
  rcases vx_callVX X hx (C := C) (hh := hh) (bytes := bytes) (maxL := maxL) (ret := ret) ho hl hin hse hcode hy hK (by rw [hT]; exact hcB) hoB hclB hg (hsize.trans hml.symm) (argsL := As) (rest := rest) (fun sig h => hn.trans (hlen sig h)) hstack hW (by rw [hb]; exact hdg)
    (fun vm₁ hW₁ => ⟨hf.1, hf.2, hPc (T.setVm vm₁) hT hW₁⟩) with ⟨v, vm₁, ⟨U', l2, c2, s2⟩, hW₁, X', ⟨g', mk, t, L, e1, e2, hq, h1, hL, h2, h3⟩, st⟩ | ⟨q, vm₁, ⟨U', l2, c2, s2⟩, hW₁, X', ⟨g', mk, t, L, E, ce, e1, e2, hq, hce, hcv, hcl, h1, hL, h2, h3⟩, st⟩
  · dsimp only [Pt.U, Pt.locs, Pt.cells, Pt.slots] at X' e1 e2 h1 h2 h3 st
    subst h1; subst h2; subst h3
    exact Or.inl ⟨v, (T.setVm vm₁).calling g' mk (Value.ref b :: As).toArray, t, U', L, hT, X', hL, e1, e2, hq, st⟩
  · dsimp only [Pt.U, Pt.locs, Pt.cells, Pt.slots] at X' e1 e2 h1 h2 h3 st hcl
    subst h1; subst h2; subst h3
    exact Or.inr ⟨q, (T.setVm vm₁).calling g' mk (Value.ref b :: As).toArray, t, U', L, E, ce, hT, X', hL, e1, e2, hq, hce, hcv, vx_cls hW₁ hcl, st⟩
theorem vx_runSX {hh : List (Nat × Nat × Nat × Nat)} (S : CallFix p m c cc nL s args Ts own) (hM : vx_Met l y ws rm Pc Qc XC mc ms free) (cw : vx_CSW R s args own index y bytes maxL ret hh ws rm mc ms n) (hp : PreS s H Pc As)
    (hg : g.method = m) (hn : As.length = n) (hsize : g.locals.size = nL) (hstack : g.stack = As.reverse ++ rest) (hW : 2 * g.monitorRoom + (rest.map fun v => v.category).sum ≤ 8) (hdg : decode cc g.pc = .ok (.invokestatic index, 3)) (hf : cells + mc ≤ R.cells ∧ slots + ms ≤ R.slots) :
    vx_Run p l e R s m args below meth c H locs cells slots mc ms g rest (Qc As.toArray) XC free := by
  obtain ⟨⟨hrc, hrs, hfr, hlo, hws, hcw⟩, hcode, hini, hy, hlen, hl, hstt⟩ := cw
  have hK : vx_Back l R p e below s args y 3 8 (PreOf R mc ms Pc) (PostOf Qc mc ms free) (vx_Post XC mc ms free) := vx_backW (hh := hh) (bytes := bytes) (maxL := maxL) (ret := ret) hM hp.1 hrc hrs hfr hlo hws hcw (fun a' U hW => word_at hW (Or.inl (by first | rfl | simp [Cond.onTables, Cond.keeps, Cond.steady])) hini)
  obtain ⟨hx, hb, hml, ho, -⟩ := S
  intro T hT X
  rcases vx_callSX X hx (hh := hh) (bytes := bytes) (maxL := maxL) (ret := ret) ho hl hstt hini hcode hy hK hg (hsize.trans hml.symm) (argsL := As) (rest := rest) (fun sig h => hn.trans (hlen sig h)) hstack hW (by rw [hb]; exact hdg)
    (fun vm₁ hW₁ => ⟨hf.1, hf.2, hp.2 (T.setVm vm₁) hT hW₁⟩) with ⟨v, vm₁, ⟨U', l2, c2, s2⟩, hW₁, X', ⟨g', mk, t, L, e1, e2, hq, h1, hL, h2, h3⟩, st⟩ | ⟨q, vm₁, ⟨U', l2, c2, s2⟩, hW₁, X', ⟨g', mk, t, L, E, ce, e1, e2, hq, hce, hcv, hcl, h1, hL, h2, h3⟩, st⟩
  · dsimp only [Pt.U, Pt.locs, Pt.cells, Pt.slots] at X' e1 e2 h1 h2 h3 st
    subst h1; subst h2; subst h3
    exact Or.inl ⟨v, (T.setVm vm₁).calling g' mk As.toArray, t, U', L, hT, X', hL, e1, e2, hq, st⟩
  · dsimp only [Pt.U, Pt.locs, Pt.cells, Pt.slots] at X' e1 e2 h1 h2 h3 st hcl
    subst h1; subst h2; subst h3
    exact Or.inr ⟨q, (T.setVm vm₁).calling g' mk As.toArray, t, U', L, E, ce, hT, X', hL, e1, e2, hq, hce, hcv, vx_cls hW₁ hcl, st⟩
end
end VXH
theorem vx_ofWH {l : Launch} {y : MethodName} {ws ws' : List Cond} {rm : Room} {Pc : Array Value → State → Prop} {Qc : Array Value → State → Outcome → State → Prop} {XC : String → State → State → Prop} {mc ms : Nat} {free : Addr → Prop} {cc : ByteArray} {maxL : Nat} {ret : Option FieldType} {hh : List (Nat × Nat × Nat × Nat)}
    (hy : plainName y.cls = true) (hw : ws = Cond.codeWith y cc maxL ret hh :: ws')
    (body : ∀ p e s m args below meth c s₁, BodyLoose p l y (headSpec ws rm) cc maxL ret e s m args below meth c s₁ → c.maxLocals = maxL → Pc args s →
      W p l e (headSpec ws rm).room s m args below meth c s.heap [] 0 0 (vx_MQ below Qc XC args s mc ms free) (entryFrame m args maxL)) : vx_Met l y ws rm Pc Qc XC mc ms free := by
  refine MetFree.of_bodyS (code := cc) (maxLocals := maxL) (ret := ret) hy ?_ ?_
  · intro args s m h hn
    obtain ⟨m9, meth, c, hn9, h1, h2, h3, h4, -, h5, h6, -⟩ := Cond.codeWith_spec (atoms_spec (ws := ws) h _ (by rw [hw]; exact List.mem_cons_self))
    cases hn.symm.trans hn9
    exact ⟨meth, c, h1, h2, h3, h4, h5, h6⟩
  · intro p e s m args below meth c s₁ B hml hP _
    have hh0 : s₁.heap = s.heap := by rw [B.state]; rfl
    obtain ⟨t, a1, o, b1, b2, b3⟩ := body p e s m args below meth c s₁ B hml hP s₁ hh0 (Stand.of_body B)
    exact ⟨t, o, a1, b1, b2, b3⟩
/-! ===== END ===== -/
end
section
/-- the name of the method of that owner and type, of so many letters, of which the tables have the code -/
def nmAt (C d : String) (n : Nat) : MethodName := match tables_1.find? (fun w => match w with | .code y _ _ _ => y.cls == C && y.desc == d && y.name.length == n | _ => false) with
  | some (.code y _ _ _) => y
  | _ => ⟨C, "", d⟩
def RX0 : String := "VariantDesk$Entry"
def TX0 : u_T := fun k => match k with
  | 0 => ("VariantDesk$Entry", "id", "[I", true)
  | 1 => ("VariantDesk$Entry", "letters", "[I", true)
  | 2 => ("VariantDesk$Entry", "rowSize", "[I", true)
  | 3 => ("VariantDesk$Entry", "calls", "[I", true)
  | 4 => ("VariantDesk$Entry", "callCount", "[I", true)
  | 5 => ("VariantDesk$Entry", "phased", "[Z", true)
  | 6 => ("VariantDesk$Entry", "sequence", "I", false)
  | 7 => ("VariantDesk$Entry", "place", "I", false)
  | 8 => ("VariantDesk$Entry", "rows", "I", false)
  | 9 => ("VariantDesk$Entry", "quality", "I", false)
  | 10 => ("VariantDesk$Entry", "passed", "Z", false)
  | 11 => ("VariantDesk$Entry", "idSize", "I", false)
  | 12 => ("VariantDesk$Entry", "oldIndex", "I", false)
  | _ => ("VariantDesk$Entry", "partner", "I", false)
def tyX0 : Nat → FieldType := fun k => match k with
  | 0 => .array .int
  | 1 => .array .int
  | 2 => .array .int
  | 3 => .array .int
  | 4 => .array .int
  | 5 => .array .boolean
  | 6 => .int
  | 7 => .int
  | 8 => .int
  | 9 => .int
  | 10 => .boolean
  | 11 => .int
  | 12 => .int
  | _ => .int
abbrev wsX00 : List Cond := u_ws RX0 TX0 14
theorem nmX0 : ∀ a, a < 14 → ∀ b, b < 14 → a ≠ b → (TX0 a).2.1 ≠ (TX0 b).2.1 := by decide +kernel
theorem tyX0_ok : ∀ k, k < 14 → parseFieldDescriptor (TX0 k).2.2.1 = some (tyX0 k) := by decide +kernel
abbrev cX0_init : ByteArray := prog_2_method_1_code
def yX0_init : MethodName := ⟨RX0, "<init>", "()V"⟩
abbrev cX0_copyFrom : ByteArray := prog_2_method_2_code
def yX0_copyFrom : MethodName := ⟨RX0, "copyFrom", "(LVariantDesk$Entry;)V"⟩
abbrev cX0_copyHead : ByteArray := prog_2_method_3_code
def yX0_copyHead : MethodName := ⟨RX0, "copyHead", "(LVariantDesk$Entry;)V"⟩
abbrev cX0_copyCalls : ByteArray := prog_2_method_4_code
def yX0_copyCalls : MethodName := ⟨RX0, "copyCalls", "(ILVariantDesk$Entry;I)V"⟩
abbrev cX0_setNoCall : ByteArray := prog_2_method_5_code
def yX0_setNoCall : MethodName := ⟨RX0, "setNoCall", "(I)V"⟩
abbrev cX0_setCall : ByteArray := prog_2_method_6_code
def yX0_setCall : MethodName := ⟨RX0, "setCall", "(III)V"⟩
abbrev cX0_callAt : ByteArray := prog_2_method_7_code
def yX0_callAt : MethodName := ⟨RX0, "callAt", "(II)I"⟩
abbrev cX0_letterAt : ByteArray := prog_2_method_8_code
def yX0_letterAt : MethodName := ⟨RX0, "letterAt", "(II)I"⟩
abbrev cX0_addLetter : ByteArray := prog_2_method_9_code
def yX0_addLetter : MethodName := ⟨RX0, "addLetter", "(II)V"⟩
abbrev cX0_addIdOctet : ByteArray := prog_2_method_10_code
def yX0_addIdOctet : MethodName := ⟨RX0, "addIdOctet", "(I)V"⟩
abbrev cX0_copyRow : ByteArray := prog_2_method_11_code
def yX0_copyRow : MethodName := ⟨RX0, "copyRow", "(ILVariantDesk$Entry;I)V"⟩
abbrev cX0_rowIs : ByteArray := prog_2_method_12_code
def yX0_rowIs : MethodName := ⟨RX0, "rowIs", "(ILVariantDesk$Entry;I)Z"⟩
abbrev cX0_hasAlts : ByteArray := prog_2_method_13_code
def yX0_hasAlts : MethodName := ⟨RX0, "hasAlts", "()Z"⟩
abbrev cX0_standsBehind : ByteArray := prog_2_method_14_code
def yX0_standsBehind : MethodName := ⟨RX0, "standsBehind", "(LVariantDesk$Entry;)Z"⟩
abbrev cX0_standsWith : ByteArray := prog_2_method_15_code
def yX0_standsWith : MethodName := ⟨RX0, "standsWith", "(LVariantDesk$Entry;)Z"⟩
abbrev cX0_hasAllRowsOf : ByteArray := prog_2_method_16_code
def yX0_hasAllRowsOf : MethodName := ⟨RX0, "hasAllRowsOf", "(LVariantDesk$Entry;)Z"⟩
abbrev cX0_makeNormal : ByteArray := prog_2_method_17_code
def yX0_makeNormal : MethodName := ⟨RX0, "makeNormal", "(LVariantDesk$Genome;)Z"⟩
abbrev cX0_shortestRow : ByteArray := prog_2_method_18_code
def yX0_shortestRow : MethodName := ⟨RX0, "shortestRow", "()I"⟩
abbrev cX0_cutEnds : ByteArray := prog_2_method_19_code
def yX0_cutEnds : MethodName := ⟨RX0, "cutEnds", "(LVariantDesk$Genome;)I"⟩
abbrev cX0_stepsToLeft : ByteArray := prog_2_method_20_code
def yX0_stepsToLeft : MethodName := ⟨RX0, "stepsToLeft", "(LVariantDesk$Genome;)I"⟩
abbrev cX0_endAlikeAfter : ByteArray := prog_2_method_21_code
def yX0_endAlikeAfter : MethodName := ⟨RX0, "endAlikeAfter", "(ILVariantDesk$Genome;)Z"⟩
abbrev cX0_movedLetter : ByteArray := prog_2_method_22_code
def yX0_movedLetter : MethodName := ⟨RX0, "movedLetter", "(IIILVariantDesk$Genome;)I"⟩
abbrev cX0_moveLeft : ByteArray := prog_2_method_23_code
def yX0_moveLeft : MethodName := ⟨RX0, "moveLeft", "(ILVariantDesk$Genome;)V"⟩
abbrev cX0_cutBeginnings : ByteArray := prog_2_method_24_code
def yX0_cutBeginnings : MethodName := ⟨RX0, "cutBeginnings", "()I"⟩
abbrev cX0_alikeAt : ByteArray := prog_2_method_25_code
def yX0_alikeAt : MethodName := ⟨RX0, "alikeAt", "(I)Z"⟩
abbrev cX0_takeAlt : ByteArray := prog_2_method_26_code
def yX0_takeAlt : MethodName := ⟨RX0, "takeAlt", "(LVariantDesk$Entry;II)V"⟩
abbrev cX0_canReach : ByteArray := prog_2_method_27_code
def yX0_canReach : MethodName := ⟨RX0, "canReach", "(I)Z"⟩
abbrev cX0_reachAsFarAs : ByteArray := prog_2_method_28_code
def yX0_reachAsFarAs : MethodName := ⟨RX0, "reachAsFarAs", "(LVariantDesk$Entry;)V"⟩
abbrev cX0_altLike : ByteArray := prog_2_method_29_code
def yX0_altLike : MethodName := ⟨RX0, "altLike", "(LVariantDesk$Entry;I)I"⟩
abbrev cX0_meansSameAs : ByteArray := prog_2_method_30_code
def yX0_meansSameAs : MethodName := ⟨RX0, "meansSameAs", "(LVariantDesk$Entry;LVariantDesk$Genome;)Z"⟩
abbrev cX0_growth : ByteArray := prog_2_method_31_code
def yX0_growth : MethodName := ⟨RX0, "growth", "()I"⟩
abbrev cX0_letterAfter : ByteArray := prog_2_method_32_code
def yX0_letterAfter : MethodName := ⟨RX0, "letterAfter", "(ILVariantDesk$Genome;)I"⟩
abbrev cX0_writeTo : ByteArray := prog_2_method_33_code
def yX0_writeTo : MethodName := ⟨RX0, "writeTo", "(LVariantDesk$Octets;ILVariantDesk$Genome;)V"⟩
abbrev cX0_writeRow : ByteArray := prog_2_method_34_code
def yX0_writeRow : MethodName := ⟨RX0, "writeRow", "(ILVariantDesk$Octets;)V"⟩
abbrev cX0_writeAlts : ByteArray := prog_2_method_35_code
def yX0_writeAlts : MethodName := ⟨RX0, "writeAlts", "(LVariantDesk$Octets;)V"⟩
abbrev cX0_writeCalls : ByteArray := prog_2_method_36_code
def yX0_writeCalls : MethodName := ⟨RX0, "writeCalls", "(ILVariantDesk$Octets;)V"⟩
def RX1 : String := "VariantDesk$Genome"
def TX1 : u_T := fun k => match k with
  | 0 => ("VariantDesk$Genome", "names", "LVariantDesk$Names;", true)
  | 1 => ("VariantDesk$Genome", "letters", "[I", true)
  | 2 => ("VariantDesk$Genome", "start", "[I", true)
  | 3 => ("VariantDesk$Genome", "size", "[I", true)
  | 4 => ("VariantDesk$Genome", "width", "[I", true)
  | 5 => ("VariantDesk$Genome", "textPlace", "[I", true)
  | 6 => ("VariantDesk$Genome", "count", "I", false)
  | _ => ("VariantDesk$Genome", "total", "I", false)
def tyX1 : Nat → FieldType := fun k => match k with
  | 0 => .object "VariantDesk$Names"
  | 1 => .array .int
  | 2 => .array .int
  | 3 => .array .int
  | 4 => .array .int
  | 5 => .array .int
  | 6 => .int
  | _ => .int
abbrev wsX10 : List Cond := u_ws RX1 TX1 8
theorem nmX1 : ∀ a, a < 8 → ∀ b, b < 8 → a ≠ b → (TX1 a).2.1 ≠ (TX1 b).2.1 := by decide +kernel
theorem tyX1_ok : ∀ k, k < 8 → parseFieldDescriptor (TX1 k).2.2.1 = some (tyX1 k) := by decide +kernel
abbrev cX1_init : ByteArray := prog_3_method_1_code
def yX1_init : MethodName := ⟨RX1, "<init>", "()V"⟩
abbrev cX1_clear : ByteArray := prog_3_method_2_code
def yX1_clear : MethodName := ⟨RX1, "clear", "()V"⟩
abbrev cX1_open : ByteArray := prog_3_method_3_code
def yX1_open : MethodName := nmAt RX1 "()V" 4
abbrev cX1_addLetter : ByteArray := prog_3_method_4_code
def yX1_addLetter : MethodName := ⟨RX1, "addLetter", "(II)V"⟩
abbrev cX1_setWidth : ByteArray := prog_3_method_5_code
def yX1_setWidth : MethodName := ⟨RX1, "setWidth", "(I)V"⟩
abbrev cX1_has : ByteArray := prog_3_method_6_code
def yX1_has : MethodName := ⟨RX1, "has", "(I)Z"⟩
abbrev cX1_sizeOf : ByteArray := prog_3_method_7_code
def yX1_sizeOf : MethodName := ⟨RX1, "sizeOf", "(I)I"⟩
abbrev cX1_letterAt : ByteArray := prog_3_method_8_code
def yX1_letterAt : MethodName := ⟨RX1, "letterAt", "(II)I"⟩
abbrev cX1_writeLetters : ByteArray := prog_3_method_9_code
def yX1_writeLetters : MethodName := ⟨RX1, "writeLetters", "(IIILVariantDesk$Octets;)V"⟩
def RX2 : String := "VariantDesk$GenomeReader"
def TX2 : u_T := fun k => match k with
  | 0 => ("VariantDesk$GenomeReader", "tape", "LVariantDesk$Octets;", true)
  | 1 => ("VariantDesk$GenomeReader", "genome", "LVariantDesk$Genome;", true)
  | 2 => ("VariantDesk$GenomeReader", "state", "I", false)
  | 3 => ("VariantDesk$GenomeReader", "at", "I", false)
  | 4 => ("VariantDesk$GenomeReader", "nameSize", "I", false)
  | 5 => ("VariantDesk$GenomeReader", "nameStart", "I", false)
  | 6 => ("VariantDesk$GenomeReader", "width", "I", false)
  | 7 => ("VariantDesk$GenomeReader", "lineSize", "I", false)
  | 8 => ("VariantDesk$GenomeReader", "lastLineSize", "I", false)
  | 9 => ("VariantDesk$GenomeReader", "fault", "I", false)
  | _ => ("VariantDesk$GenomeReader", "faultPlace", "I", false)
def tyX2 : Nat → FieldType := fun k => match k with
  | 0 => .object "VariantDesk$Octets"
  | 1 => .object "VariantDesk$Genome"
  | 2 => .int
  | 3 => .int
  | 4 => .int
  | 5 => .int
  | 6 => .int
  | 7 => .int
  | 8 => .int
  | 9 => .int
  | _ => .int
abbrev wsX20 : List Cond := u_ws RX2 TX2 11
theorem nmX2 : ∀ a, a < 11 → ∀ b, b < 11 → a ≠ b → (TX2 a).2.1 ≠ (TX2 b).2.1 := by decide +kernel
theorem tyX2_ok : ∀ k, k < 11 → parseFieldDescriptor (TX2 k).2.2.1 = some (tyX2 k) := by decide +kernel
abbrev cX2_init : ByteArray := prog_4_method_1_code
def yX2_init : MethodName := ⟨RX2, "<init>", "(LVariantDesk$Octets;LVariantDesk$Genome;)V"⟩
abbrev cX2_run : ByteArray := prog_4_method_2_code
def yX2_run : MethodName := ⟨RX2, "run", "()Z"⟩
abbrev cX2_fail : ByteArray := prog_4_method_3_code
def yX2_fail : MethodName := ⟨RX2, "fail", "(I)Z"⟩
abbrev cX2_take : ByteArray := prog_4_method_4_code
def yX2_take : MethodName := ⟨RX2, "take", "(I)Z"⟩
abbrev cX2_takeAtLineStart : ByteArray := prog_4_method_5_code
def yX2_takeAtLineStart : MethodName := ⟨RX2, "takeAtLineStart", "(I)Z"⟩
abbrev cX2_openSequence : ByteArray := prog_4_method_6_code
def yX2_openSequence : MethodName := ⟨RX2, "openSequence", "()Z"⟩
abbrev cX2_takeInName : ByteArray := prog_4_method_7_code
def yX2_takeInName : MethodName := ⟨RX2, "takeInName", "(I)Z"⟩
abbrev cX2_takeInRemark : ByteArray := prog_4_method_8_code
def yX2_takeInRemark : MethodName := ⟨RX2, "takeInRemark", "(I)Z"⟩
abbrev cX2_endNameLine : ByteArray := prog_4_method_9_code
def yX2_endNameLine : MethodName := ⟨RX2, "endNameLine", "()Z"⟩
abbrev cX2_takeInLetters : ByteArray := prog_4_method_10_code
def yX2_takeInLetters : MethodName := ⟨RX2, "takeInLetters", "(I)Z"⟩
abbrev cX2_endLetterLine : ByteArray := prog_4_method_11_code
def yX2_endLetterLine : MethodName := ⟨RX2, "endLetterLine", "()V"⟩
abbrev cX2_takeLetter : ByteArray := prog_4_method_12_code
def yX2_takeLetter : MethodName := ⟨RX2, "takeLetter", "(I)Z"⟩
abbrev cX2_isNameOctet : ByteArray := prog_4_method_13_code
def yX2_isNameOctet : MethodName := ⟨RX2, "isNameOctet", "(I)Z"⟩
def RX3 : String := "VariantDesk$Haplotype"
def TX3 : u_T := fun k => match k with
  | 0 => ("VariantDesk$Haplotype", "chosen", "[I", true)
  | 1 => ("VariantDesk$Haplotype", "from", "[I", true)
  | 2 => ("VariantDesk$Haplotype", "size", "[I", true)
  | 3 => ("VariantDesk$Haplotype", "newFrom", "[I", true)
  | 4 => ("VariantDesk$Haplotype", "newSize", "[I", true)
  | 5 => ("VariantDesk$Haplotype", "chosenCount", "I", false)
  | 6 => ("VariantDesk$Haplotype", "count", "I", false)
  | 7 => ("VariantDesk$Haplotype", "total", "I", false)
  | _ => ("VariantDesk$Haplotype", "newTotal", "I", false)
def tyX3 : Nat → FieldType := fun k => match k with
  | 0 => .array .int
  | 1 => .array .int
  | 2 => .array .int
  | 3 => .array .int
  | 4 => .array .int
  | 5 => .int
  | 6 => .int
  | 7 => .int
  | _ => .int
abbrev wsX30 : List Cond := u_ws RX3 TX3 9
theorem nmX3 : ∀ a, a < 9 → ∀ b, b < 9 → a ≠ b → (TX3 a).2.1 ≠ (TX3 b).2.1 := by decide +kernel
theorem tyX3_ok : ∀ k, k < 9 → parseFieldDescriptor (TX3 k).2.2.1 = some (tyX3 k) := by decide +kernel
abbrev cX3_init : ByteArray := prog_5_method_1_code
def yX3_init : MethodName := ⟨RX3, "<init>", "()V"⟩
abbrev cX3_clear : ByteArray := prog_5_method_2_code
def yX3_clear : MethodName := ⟨RX3, "clear", "()V"⟩
abbrev cX3_choose : ByteArray := prog_5_method_3_code
def yX3_choose : MethodName := ⟨RX3, "choose", "(LVariantDesk$Sheet;III)V"⟩
abbrev cX3_insert : ByteArray := prog_5_method_4_code
def yX3_insert : MethodName := ⟨RX3, "insert", "(LVariantDesk$Sheet;I)V"⟩
abbrev cX3_clashes : ByteArray := prog_5_method_5_code
def yX3_clashes : MethodName := ⟨RX3, "clashes", "(LVariantDesk$Sheet;)Z"⟩
abbrev cX3_putOn : ByteArray := prog_5_method_6_code
def yX3_putOn : MethodName := ⟨RX3, "putOn", "(LVariantDesk$Sheet;IILVariantDesk$Genome;ILVariantDesk$Octets;)V"⟩
abbrev cX3_carriedTo : ByteArray := prog_5_method_7_code
def yX3_carriedTo : MethodName := ⟨RX3, "carriedTo", "(I)I"⟩
abbrev cX3_backTo : ByteArray := prog_5_method_8_code
def yX3_backTo : MethodName := ⟨RX3, "backTo", "(I)I"⟩
abbrev cX3_moved : ByteArray := prog_5_method_9_code
def yX3_moved : MethodName := ⟨RX3, "moved", "(I[I[I[I[I)I"⟩
def RX4 : String := "VariantDesk$Joiner"
def TX4 : u_T := fun k => match k with
  | 0 => ("VariantDesk$Joiner", "first", "LVariantDesk$Entry;", true)
  | 1 => ("VariantDesk$Joiner", "second", "LVariantDesk$Entry;", true)
  | _ => ("VariantDesk$Joiner", "newNumber", "[I", true)
def tyX4 : Nat → FieldType := fun k => match k with
  | 0 => .object "VariantDesk$Entry"
  | 1 => .object "VariantDesk$Entry"
  | _ => .array .int
abbrev wsX40 : List Cond := u_ws RX4 TX4 3
theorem nmX4 : ∀ a, a < 3 → ∀ b, b < 3 → a ≠ b → (TX4 a).2.1 ≠ (TX4 b).2.1 := by decide +kernel
theorem tyX4_ok : ∀ k, k < 3 → parseFieldDescriptor (TX4 k).2.2.1 = some (tyX4 k) := by decide +kernel
abbrev cX4_init : ByteArray := prog_6_method_1_code
def yX4_init : MethodName := ⟨RX4, "<init>", "()V"⟩
abbrev cX4_joins : ByteArray := prog_6_method_2_code
def yX4_joins : MethodName := ⟨RX4, "joins", "(LVariantDesk$Entry;LVariantDesk$Entry;I)Z"⟩
abbrev cX4_takeAlts : ByteArray := prog_6_method_3_code
def yX4_takeAlts : MethodName := ⟨RX4, "takeAlts", "()Z"⟩
abbrev cX4_joinCalls : ByteArray := prog_6_method_4_code
def yX4_joinCalls : MethodName := ⟨RX4, "joinCalls", "(I)V"⟩
abbrev cX4_joinedPhase : ByteArray := prog_6_method_5_code
def yX4_joinedPhase : MethodName := ⟨RX4, "joinedPhase", "(I)Z"⟩
abbrev cX4_joinedCall : ByteArray := prog_6_method_6_code
def yX4_joinedCall : MethodName := ⟨RX4, "joinedCall", "(II)I"⟩
def RX5 : String := "VariantDesk$Names"
def TX5 : u_T := fun k => match k with
  | 0 => ("VariantDesk$Names", "limit", "I", true)
  | 1 => ("VariantDesk$Names", "octets", "[I", true)
  | 2 => ("VariantDesk$Names", "size", "[I", true)
  | _ => ("VariantDesk$Names", "count", "I", false)
def tyX5 : Nat → FieldType := fun k => match k with
  | 0 => .int
  | 1 => .array .int
  | 2 => .array .int
  | _ => .int
abbrev wsX50 : List Cond := u_ws RX5 TX5 4
theorem nmX5 : ∀ a, a < 4 → ∀ b, b < 4 → a ≠ b → (TX5 a).2.1 ≠ (TX5 b).2.1 := by decide +kernel
theorem tyX5_ok : ∀ k, k < 4 → parseFieldDescriptor (TX5 k).2.2.1 = some (tyX5 k) := by decide +kernel
abbrev cX5_init : ByteArray := prog_7_method_1_code
def yX5_init : MethodName := ⟨RX5, "<init>", "(I)V"⟩
abbrev cX5_clear : ByteArray := prog_7_method_2_code
def yX5_clear : MethodName := ⟨RX5, "clear", "()V"⟩
abbrev cX5_open : ByteArray := prog_7_method_3_code
def yX5_open : MethodName := nmAt RX5 "()V" 4
abbrev cX5_add : ByteArray := prog_7_method_4_code
def yX5_add : MethodName := ⟨RX5, "add", "(I)V"⟩
abbrev cX5_addAll : ByteArray := prog_7_method_5_code
def yX5_addAll : MethodName := ⟨RX5, "addAll", "(LVariantDesk$Names;)V"⟩
abbrev cX5_sizeOf : ByteArray := prog_7_method_6_code
def yX5_sizeOf : MethodName := ⟨RX5, "sizeOf", "(I)I"⟩
abbrev cX5_octetAt : ByteArray := prog_7_method_7_code
def yX5_octetAt : MethodName := ⟨RX5, "octetAt", "(II)I"⟩
abbrev cX5_indexOf : ByteArray := prog_7_method_8_code
def yX5_indexOf : MethodName := ⟨RX5, "indexOf", "(LVariantDesk$Names;I)I"⟩
abbrev cX5_isName : ByteArray := prog_7_method_9_code
def yX5_isName : MethodName := ⟨RX5, "isName", "(ILVariantDesk$Names;I)Z"⟩
abbrev cX5_indexIn : ByteArray := prog_7_method_10_code
def yX5_indexIn : MethodName := ⟨RX5, "indexIn", "(LVariantDesk$Octets;II)I"⟩
abbrev cX5_writeName : ByteArray := prog_7_method_11_code
def yX5_writeName : MethodName := ⟨RX5, "writeName", "(ILVariantDesk$Octets;)V"⟩
def RX6 : String := "VariantDesk$Octets"
def TX6 : u_T := fun k => match k with
  | 0 => ("VariantDesk$Octets", "octets", "[I", true)
  | 1 => ("VariantDesk$Octets", "size", "I", false)
  | _ => ("VariantDesk$Octets", "tooLong", "Z", false)
def tyX6 : Nat → FieldType := fun k => match k with
  | 0 => .array .int
  | 1 => .int
  | _ => .boolean
abbrev wsX60 : List Cond := u_ws RX6 TX6 3
theorem nmX6 : ∀ a, a < 3 → ∀ b, b < 3 → a ≠ b → (TX6 a).2.1 ≠ (TX6 b).2.1 := by decide +kernel
theorem tyX6_ok : ∀ k, k < 3 → parseFieldDescriptor (TX6 k).2.2.1 = some (tyX6 k) := by decide +kernel
abbrev cX6_init : ByteArray := prog_8_method_1_code
def yX6_init : MethodName := ⟨RX6, "<init>", "()V"⟩
abbrev cX6_clear : ByteArray := prog_8_method_2_code
def yX6_clear : MethodName := ⟨RX6, "clear", "()V"⟩
abbrev cX6_add : ByteArray := prog_8_method_3_code
def yX6_add : MethodName := ⟨RX6, "add", "(I)V"⟩
abbrev cX6_addText : ByteArray := prog_8_method_4_code
def yX6_addText : MethodName := ⟨RX6, "addText", "(Ljava/lang/String;)V"⟩
abbrev cX6_addPart : ByteArray := prog_8_method_5_code
def yX6_addPart : MethodName := ⟨RX6, "addPart", "([III)V"⟩
abbrev cX6_addNumber : ByteArray := prog_8_method_6_code
def yX6_addNumber : MethodName := ⟨RX6, "addNumber", "(I)V"⟩
abbrev cX6_addNumberOrPoint : ByteArray := prog_8_method_7_code
def yX6_addNumberOrPoint : MethodName := ⟨RX6, "addNumberOrPoint", "(I)V"⟩
abbrev cX6_at : ByteArray := prog_8_method_8_code
def yX6_at : MethodName := ⟨RX6, "at", "(I)I"⟩
abbrev cX6_find : ByteArray := prog_8_method_9_code
def yX6_find : MethodName := ⟨RX6, "find", "(II)I"⟩
abbrev cX6_isText : ByteArray := prog_8_method_10_code
def yX6_isText : MethodName := ⟨RX6, "isText", "(IILjava/lang/String;)Z"⟩
abbrev cX6_beginsWith : ByteArray := prog_8_method_11_code
def yX6_beginsWith : MethodName := ⟨RX6, "beginsWith", "(ILjava/lang/String;)Z"⟩
abbrev cX6_isPart : ByteArray := prog_8_method_12_code
def yX6_isPart : MethodName := ⟨RX6, "isPart", "(II[III)Z"⟩
abbrev cX6_isWord : ByteArray := prog_8_method_13_code
def yX6_isWord : MethodName := ⟨RX6, "isWord", "(II)Z"⟩
abbrev cX6_numberAt : ByteArray := prog_8_method_14_code
def yX6_numberAt : MethodName := ⟨RX6, "numberAt", "(III)I"⟩
abbrev cX6_copyFrom : ByteArray := prog_8_method_15_code
def yX6_copyFrom : MethodName := ⟨RX6, "copyFrom", "(LVariantDesk$Octets;)V"⟩
def RX7 : String := "VariantDesk$Sheet"
def TX7 : u_T := fun k => match k with
  | 0 => ("VariantDesk$Sheet", "entries", "[LVariantDesk$Entry;", true)
  | 1 => ("VariantDesk$Sheet", "names", "LVariantDesk$Names;", true)
  | _ => ("VariantDesk$Sheet", "size", "I", false)
def tyX7 : Nat → FieldType := fun k => match k with
  | 0 => .array (.object "VariantDesk$Entry")
  | 1 => .object "VariantDesk$Names"
  | _ => .int
abbrev wsX70 : List Cond := u_ws RX7 TX7 3
theorem nmX7 : ∀ a, a < 3 → ∀ b, b < 3 → a ≠ b → (TX7 a).2.1 ≠ (TX7 b).2.1 := by decide +kernel
theorem tyX7_ok : ∀ k, k < 3 → parseFieldDescriptor (TX7 k).2.2.1 = some (tyX7 k) := by decide +kernel
abbrev cX7_init : ByteArray := prog_9_method_1_code
def yX7_init : MethodName := ⟨RX7, "<init>", "()V"⟩
abbrev cX7_clear : ByteArray := prog_9_method_2_code
def yX7_clear : MethodName := ⟨RX7, "clear", "()V"⟩
abbrev cX7_canTakeSamples : ByteArray := prog_9_method_3_code
def yX7_canTakeSamples : MethodName := ⟨RX7, "canTakeSamples", "(LVariantDesk$Sheet;)Z"⟩
abbrev cX7_sizeWhenSplit : ByteArray := prog_9_method_4_code
def yX7_sizeWhenSplit : MethodName := ⟨RX7, "sizeWhenSplit", "()I"⟩
abbrev cX7_takeSplit : ByteArray := prog_9_method_5_code
def yX7_takeSplit : MethodName := ⟨RX7, "takeSplit", "(LVariantDesk$Sheet;)V"⟩
abbrev cX7_takeSplitEntry : ByteArray := prog_9_method_6_code
def yX7_takeSplitEntry : MethodName := ⟨RX7, "takeSplitEntry", "(LVariantDesk$Entry;)V"⟩
abbrev cX7_joinAll : ByteArray := prog_9_method_7_code
def yX7_joinAll : MethodName := ⟨RX7, "joinAll", "(LVariantDesk$Joiner;)V"⟩
abbrev cX7_putInOrder : ByteArray := prog_9_method_8_code
def yX7_putInOrder : MethodName := ⟨RX7, "putInOrder", "()I"⟩
abbrev cX7_sinkToPlace : ByteArray := prog_9_method_9_code
def yX7_sinkToPlace : MethodName := ⟨RX7, "sinkToPlace", "(I)V"⟩
abbrev cX7_pairWith : ByteArray := prog_9_method_10_code
def yX7_pairWith : MethodName := ⟨RX7, "pairWith", "(LVariantDesk$Sheet;)I"⟩
abbrev cX7_firstFreeLike : ByteArray := prog_9_method_11_code
def yX7_firstFreeLike : MethodName := ⟨RX7, "firstFreeLike", "(LVariantDesk$Entry;)I"⟩
abbrev cX7_takeAll : ByteArray := prog_9_method_12_code
def yX7_takeAll : MethodName := ⟨RX7, "takeAll", "(LVariantDesk$Sheet;)V"⟩
abbrev cX7_setNoCalls : ByteArray := prog_9_method_13_code
def yX7_setNoCalls : MethodName := ⟨RX7, "setNoCalls", "(LVariantDesk$Entry;II)V"⟩
abbrev cX7_moveCalls : ByteArray := prog_9_method_14_code
def yX7_moveCalls : MethodName := ⟨RX7, "moveCalls", "(LVariantDesk$Entry;LVariantDesk$Entry;II)V"⟩
abbrev cX7_swap : ByteArray := prog_9_method_15_code
def yX7_swap : MethodName := ⟨RX7, "swap", "([LVariantDesk$Entry;I[LVariantDesk$Entry;I)V"⟩
abbrev cX7_writeTo : ByteArray := prog_9_method_16_code
def yX7_writeTo : MethodName := ⟨RX7, "writeTo", "(LVariantDesk$Octets;LVariantDesk$Genome;)V"⟩
def RX8 : String := "VariantDesk$SheetReader"
def TX8 : u_T := fun k => match k with
  | 0 => ("VariantDesk$SheetReader", "tape", "LVariantDesk$Octets;", true)
  | 1 => ("VariantDesk$SheetReader", "genome", "LVariantDesk$Genome;", true)
  | 2 => ("VariantDesk$SheetReader", "sheet", "LVariantDesk$Sheet;", true)
  | 3 => ("VariantDesk$SheetReader", "starts", "[I", true)
  | 4 => ("VariantDesk$SheetReader", "begin", "I", false)
  | 5 => ("VariantDesk$SheetReader", "end", "I", false)
  | 6 => ("VariantDesk$SheetReader", "next", "I", false)
  | 7 => ("VariantDesk$SheetReader", "columns", "I", false)
  | 8 => ("VariantDesk$SheetReader", "fault", "I", false)
  | _ => ("VariantDesk$SheetReader", "faultPlace", "I", false)
def tyX8 : Nat → FieldType := fun k => match k with
  | 0 => .object "VariantDesk$Octets"
  | 1 => .object "VariantDesk$Genome"
  | 2 => .object "VariantDesk$Sheet"
  | 3 => .array .int
  | 4 => .int
  | 5 => .int
  | 6 => .int
  | 7 => .int
  | 8 => .int
  | _ => .int
abbrev wsX80 : List Cond := u_ws RX8 TX8 10
theorem nmX8 : ∀ a, a < 10 → ∀ b, b < 10 → a ≠ b → (TX8 a).2.1 ≠ (TX8 b).2.1 := by decide +kernel
theorem tyX8_ok : ∀ k, k < 10 → parseFieldDescriptor (TX8 k).2.2.1 = some (tyX8 k) := by decide +kernel
abbrev cX8_init : ByteArray := prog_10_method_1_code
def yX8_init : MethodName := ⟨RX8, "<init>", "(LVariantDesk$Octets;LVariantDesk$Genome;LVariantDesk$Sheet;)V"⟩
abbrev cX8_run : ByteArray := prog_10_method_2_code
def yX8_run : MethodName := ⟨RX8, "run", "()Z"⟩
abbrev cX8_fail : ByteArray := prog_10_method_3_code
def yX8_fail : MethodName := ⟨RX8, "fail", "(II)Z"⟩
abbrev cX8_takeLine : ByteArray := prog_10_method_4_code
def yX8_takeLine : MethodName := ⟨RX8, "takeLine", "()Z"⟩
abbrev cX8_takeFirstLine : ByteArray := prog_10_method_5_code
def yX8_takeFirstLine : MethodName := ⟨RX8, "takeFirstLine", "()Z"⟩
abbrev cX8_takeLinesToHead : ByteArray := prog_10_method_6_code
def yX8_takeLinesToHead : MethodName := ⟨RX8, "takeLinesToHead", "()Z"⟩
abbrev cX8_cutColumns : ByteArray := prog_10_method_7_code
def yX8_cutColumns : MethodName := ⟨RX8, "cutColumns", "()V"⟩
abbrev cX8_takeHead : ByteArray := prog_10_method_8_code
def yX8_takeHead : MethodName := ⟨RX8, "takeHead", "()Z"⟩
abbrev cX8_takeSampleName : ByteArray := prog_10_method_9_code
def yX8_takeSampleName : MethodName := ⟨RX8, "takeSampleName", "(II)Z"⟩
abbrev cX8_takeEntry : ByteArray := prog_10_method_10_code
def yX8_takeEntry : MethodName := ⟨RX8, "takeEntry", "(LVariantDesk$Entry;)Z"⟩
abbrev cX8_failColumn : ByteArray := prog_10_method_11_code
def yX8_failColumn : MethodName := ⟨RX8, "failColumn", "(I)Z"⟩
abbrev cX8_columnIs : ByteArray := prog_10_method_12_code
def yX8_columnIs : MethodName := ⟨RX8, "columnIs", "(ILjava/lang/String;)Z"⟩
abbrev cX8_takeSequence : ByteArray := prog_10_method_13_code
def yX8_takeSequence : MethodName := ⟨RX8, "takeSequence", "(LVariantDesk$Entry;)Z"⟩
abbrev cX8_takePlace : ByteArray := prog_10_method_14_code
def yX8_takePlace : MethodName := ⟨RX8, "takePlace", "(LVariantDesk$Entry;)Z"⟩
abbrev cX8_takeId : ByteArray := prog_10_method_15_code
def yX8_takeId : MethodName := ⟨RX8, "takeId", "(LVariantDesk$Entry;)Z"⟩
abbrev cX8_takeRow : ByteArray := prog_10_method_16_code
def yX8_takeRow : MethodName := ⟨RX8, "takeRow", "(LVariantDesk$Entry;III)Z"⟩
abbrev cX8_refIsThere : ByteArray := prog_10_method_17_code
def yX8_refIsThere : MethodName := ⟨RX8, "refIsThere", "(LVariantDesk$Entry;)Z"⟩
abbrev cX8_takeAlts : ByteArray := prog_10_method_18_code
def yX8_takeAlts : MethodName := ⟨RX8, "takeAlts", "(LVariantDesk$Entry;)Z"⟩
abbrev cX8_takeAlt : ByteArray := prog_10_method_19_code
def yX8_takeAlt : MethodName := ⟨RX8, "takeAlt", "(LVariantDesk$Entry;II)Z"⟩
abbrev cX8_takeQuality : ByteArray := prog_10_method_20_code
def yX8_takeQuality : MethodName := ⟨RX8, "takeQuality", "(LVariantDesk$Entry;)Z"⟩
abbrev cX8_takePassed : ByteArray := prog_10_method_21_code
def yX8_takePassed : MethodName := ⟨RX8, "takePassed", "(LVariantDesk$Entry;)Z"⟩
abbrev cX8_takeAllCalls : ByteArray := prog_10_method_22_code
def yX8_takeAllCalls : MethodName := ⟨RX8, "takeAllCalls", "(LVariantDesk$Entry;)Z"⟩
abbrev cX8_takeCalls : ByteArray := prog_10_method_23_code
def yX8_takeCalls : MethodName := ⟨RX8, "takeCalls", "(LVariantDesk$Entry;III)Z"⟩
abbrev cX8_callAt : ByteArray := prog_10_method_24_code
def yX8_callAt : MethodName := ⟨RX8, "callAt", "(III)I"⟩
def RX9 : String := "VariantDesk"
def TX9 : u_T := fun k => match k with
  | 0 => ("VariantDesk", "tape", "LVariantDesk$Octets;", true)
  | 1 => ("VariantDesk", "sheets", "[LVariantDesk$Sheet;", true)
  | 2 => ("VariantDesk", "joiner", "LVariantDesk$Joiner;", true)
  | 3 => ("VariantDesk", "haplotype", "LVariantDesk$Haplotype;", true)
  | 4 => ("VariantDesk", "text", "LVariantDesk$Octets;", false)
  | 5 => ("VariantDesk", "spareText", "LVariantDesk$Octets;", false)
  | 6 => ("VariantDesk", "genome", "LVariantDesk$Genome;", false)
  | 7 => ("VariantDesk", "spareGenome", "LVariantDesk$Genome;", false)
  | 8 => ("VariantDesk", "spareSheet", "LVariantDesk$Sheet;", false)
  | _ => ("VariantDesk", "faultPlace", "I", false)
def tyX9 : Nat → FieldType := fun k => match k with
  | 0 => .object "VariantDesk$Octets"
  | 1 => .array (.object "VariantDesk$Sheet")
  | 2 => .object "VariantDesk$Joiner"
  | 3 => .object "VariantDesk$Haplotype"
  | 4 => .object "VariantDesk$Octets"
  | 5 => .object "VariantDesk$Octets"
  | 6 => .object "VariantDesk$Genome"
  | 7 => .object "VariantDesk$Genome"
  | 8 => .object "VariantDesk$Sheet"
  | _ => .int
abbrev wsX90 : List Cond := u_ws RX9 TX9 10
theorem nmX9 : ∀ a, a < 10 → ∀ b, b < 10 → a ≠ b → (TX9 a).2.1 ≠ (TX9 b).2.1 := by decide +kernel
theorem tyX9_ok : ∀ k, k < 10 → parseFieldDescriptor (TX9 k).2.2.1 = some (tyX9 k) := by decide +kernel
abbrev cX9_init : ByteArray := prog_1_method_1_code
def yX9_init : MethodName := ⟨RX9, "<init>", "()V"⟩
abbrev cX9_feed : ByteArray := prog_1_method_2_code
def yX9_feed : MethodName := ⟨RX9, "feed", "(IJ)I"⟩
abbrev cX9_reference : ByteArray := prog_1_method_3_code
def yX9_reference : MethodName := ⟨RX9, "reference", "()I"⟩
abbrev cX9_read : ByteArray := prog_1_method_4_code
def yX9_read : MethodName := ⟨RX9, "read", "(I)I"⟩
abbrev cX9_place : ByteArray := prog_1_method_5_code
def yX9_place : MethodName := ⟨RX9, "place", "()I"⟩
abbrev cX9_sequence : ByteArray := prog_1_method_6_code
def yX9_sequence : MethodName := ⟨RX9, "sequence", "(II)I"⟩
abbrev cX9_letter : ByteArray := prog_1_method_7_code
def yX9_letter : MethodName := ⟨RX9, "letter", "(II)I"⟩
abbrev cX9_table : ByteArray := prog_1_method_8_code
def yX9_table : MethodName := ⟨RX9, "table", "(II)I"⟩
abbrev cX9_record : ByteArray := prog_1_method_9_code
def yX9_record : MethodName := ⟨RX9, "record", "(III)I"⟩
abbrev cX9_row : ByteArray := prog_1_method_10_code
def yX9_row : MethodName := ⟨RX9, "row", "(IIII)I"⟩
abbrev cX9_call : ByteArray := prog_1_method_11_code
def yX9_call : MethodName := ⟨RX9, "call", "(IIII)I"⟩
abbrev cX9_normalise : ByteArray := prog_1_method_12_code
def yX9_normalise : MethodName := ⟨RX9, "normalise", "(I)I"⟩
abbrev cX9_split : ByteArray := prog_1_method_13_code
def yX9_split : MethodName := ⟨RX9, "split", "(I)I"⟩
abbrev cX9_join : ByteArray := prog_1_method_14_code
def yX9_join : MethodName := ⟨RX9, "join", "(I)I"⟩
abbrev cX9_sort : ByteArray := prog_1_method_15_code
def yX9_sort : MethodName := ⟨RX9, "sort", "(I)I"⟩
abbrev cX9_merge : ByteArray := prog_1_method_16_code
def yX9_merge : MethodName := ⟨RX9, "merge", "()I"⟩
abbrev cX9_apply : ByteArray := prog_1_method_17_code
def yX9_apply : MethodName := ⟨RX9, "apply", "(IIII)I"⟩
abbrev cX9_carried : ByteArray := prog_1_method_18_code
def yX9_carried : MethodName := ⟨RX9, "carried", "(I)I"⟩
abbrev cX9_back : ByteArray := prog_1_method_19_code
def yX9_back : MethodName := ⟨RX9, "back", "(I)I"⟩
abbrev cX9_same : ByteArray := prog_1_method_20_code
def yX9_same : MethodName := ⟨RX9, "same", "(IIII)Z"⟩
abbrev cX9_write : ByteArray := prog_1_method_21_code
def yX9_write : MethodName := ⟨RX9, "write", "(I)I"⟩
abbrev cX9_out : ByteArray := prog_1_method_22_code
def yX9_out : MethodName := ⟨RX9, "out", "(I)I"⟩
abbrev cX9_again : ByteArray := prog_1_method_23_code
def yX9_again : MethodName := ⟨RX9, "again", "()I"⟩
abbrev cX9_sheetAt : ByteArray := prog_1_method_24_code
def yX9_sheetAt : MethodName := ⟨RX9, "sheetAt", "(I)LVariantDesk$Sheet;"⟩
abbrev cX9_entryAt : ByteArray := prog_1_method_25_code
def yX9_entryAt : MethodName := ⟨RX9, "entryAt", "(II)LVariantDesk$Entry;"⟩
abbrev cX9_checkSample : ByteArray := prog_1_method_26_code
def yX9_checkSample : MethodName := ⟨RX9, "checkSample", "(II)V"⟩
abbrev cX9_checkSequence : ByteArray := prog_1_method_27_code
def yX9_checkSequence : MethodName := ⟨RX9, "checkSequence", "(I)V"⟩
abbrev cX9_useSpareSheet : ByteArray := prog_1_method_28_code
def yX9_useSpareSheet : MethodName := ⟨RX9, "useSpareSheet", "(I)V"⟩
abbrev cX9_letterOf : ByteArray := prog_1_method_29_code
def yX9_letterOf : MethodName := ⟨RX9, "letterOf", "(I)I"⟩
def RX10 : String := "VariantDeskModel"
def TX10 : u_T := fun k => match k with
  | 0 => ("VariantDeskModel", "thrown", "I", false)
  | 1 => ("VariantDeskModel", "tape", "[B", true)
  | 2 => ("VariantDeskModel", "taped", "I", false)
  | 3 => ("VariantDeskModel", "place", "I", false)
  | 4 => ("VariantDeskModel", "seqMany", "I", false)
  | 5 => ("VariantDeskModel", "seqName", "[B", true)
  | 6 => ("VariantDeskModel", "seqNameSize", "[I", true)
  | 7 => ("VariantDeskModel", "letters", "[B", true)
  | 8 => ("VariantDeskModel", "seqFrom", "[I", true)
  | 9 => ("VariantDeskModel", "seqSize", "[I", true)
  | 10 => ("VariantDeskModel", "seqFirst", "[I", true)
  | 11 => ("VariantDeskModel", "seqWidth", "[I", true)
  | 12 => ("VariantDeskModel", "newMany", "I", false)
  | 13 => ("VariantDeskModel", "newName", "[B", true)
  | 14 => ("VariantDeskModel", "newNameSize", "[I", true)
  | 15 => ("VariantDeskModel", "newLetters", "[B", true)
  | 16 => ("VariantDeskModel", "newFrom", "[I", true)
  | 17 => ("VariantDeskModel", "newSize", "[I", true)
  | 18 => ("VariantDeskModel", "newFirst", "[I", true)
  | 19 => ("VariantDeskModel", "newWidth", "[I", true)
  | 20 => ("VariantDeskModel", "many", "[I", true)
  | 21 => ("VariantDeskModel", "samples", "[I", true)
  | 22 => ("VariantDeskModel", "sampleName", "[B", true)
  | 23 => ("VariantDeskModel", "sampleSize", "[I", true)
  | 24 => ("VariantDeskModel", "seqOf", "[I", true)
  | 25 => ("VariantDeskModel", "placeOf", "[I", true)
  | 26 => ("VariantDeskModel", "id", "[B", true)
  | 27 => ("VariantDeskModel", "idSize", "[I", true)
  | 28 => ("VariantDeskModel", "alts", "[I", true)
  | 29 => ("VariantDeskModel", "row", "[B", true)
  | 30 => ("VariantDeskModel", "rowSize", "[I", true)
  | 31 => ("VariantDeskModel", "quality", "[I", true)
  | 32 => ("VariantDeskModel", "passed", "[Z", true)
  | 33 => ("VariantDeskModel", "calls", "[I", true)
  | 34 => ("VariantDeskModel", "callMany", "[I", true)
  | 35 => ("VariantDeskModel", "phased", "[Z", true)
  | 36 => ("VariantDeskModel", "out", "[B", true)
  | 37 => ("VariantDeskModel", "outSize", "I", false)
  | 38 => ("VariantDeskModel", "isOn", "Z", false)
  | 39 => ("VariantDeskModel", "onSize", "I", false)
  | 40 => ("VariantDeskModel", "onLength", "I", false)
  | 41 => ("VariantDeskModel", "carriedTo", "[I", true)
  | 42 => ("VariantDeskModel", "backTo", "[I", true)
  | 43 => ("VariantDeskModel", "fault", "I", false)
  | 44 => ("VariantDeskModel", "faultAt", "I", false)
  | 45 => ("VariantDeskModel", "newLetterMany", "I", false)
  | 46 => ("VariantDeskModel", "numbers", "[I", true)
  | 47 => ("VariantDeskModel", "partner", "[I", true)
  | 48 => ("VariantDeskModel", "partnerOf", "[I", true)
  | 49 => ("VariantDeskModel", "made", "[B", true)
  | 50 => ("VariantDeskModel", "madeFrom", "[I", true)
  | 51 => ("VariantDeskModel", "madeSize", "I", false)
  | _ => ("VariantDeskModel", "written", "I", false)
def tyX10 : Nat → FieldType := fun k => match k with
  | 0 => .int
  | 1 => .array .byte
  | 2 => .int
  | 3 => .int
  | 4 => .int
  | 5 => .array .byte
  | 6 => .array .int
  | 7 => .array .byte
  | 8 => .array .int
  | 9 => .array .int
  | 10 => .array .int
  | 11 => .array .int
  | 12 => .int
  | 13 => .array .byte
  | 14 => .array .int
  | 15 => .array .byte
  | 16 => .array .int
  | 17 => .array .int
  | 18 => .array .int
  | 19 => .array .int
  | 20 => .array .int
  | 21 => .array .int
  | 22 => .array .byte
  | 23 => .array .int
  | 24 => .array .int
  | 25 => .array .int
  | 26 => .array .byte
  | 27 => .array .int
  | 28 => .array .int
  | 29 => .array .byte
  | 30 => .array .int
  | 31 => .array .int
  | 32 => .array .boolean
  | 33 => .array .int
  | 34 => .array .int
  | 35 => .array .boolean
  | 36 => .array .byte
  | 37 => .int
  | 38 => .boolean
  | 39 => .int
  | 40 => .int
  | 41 => .array .int
  | 42 => .array .int
  | 43 => .int
  | 44 => .int
  | 45 => .int
  | 46 => .array .int
  | 47 => .array .int
  | 48 => .array .int
  | 49 => .array .byte
  | 50 => .array .int
  | 51 => .int
  | _ => .int
abbrev wsX100 : List Cond := u_ws RX10 TX10 53
theorem nmX10 : ∀ a, a < 53 → ∀ b, b < 53 → a ≠ b → (TX10 a).2.1 ≠ (TX10 b).2.1 := by decide +kernel
theorem tyX10_ok : ∀ k, k < 53 → parseFieldDescriptor (TX10 k).2.2.1 = some (tyX10 k) := by decide +kernel
abbrev cX10_init : ByteArray := prog_12_method_1_code
def yX10_init : MethodName := ⟨RX10, "<init>", "()V"⟩
abbrev cX10_thrown : ByteArray := prog_12_method_2_code
def yX10_thrown : MethodName := ⟨RX10, "thrown", "()I"⟩
abbrev cX10_goes : ByteArray := prog_12_method_3_code
def yX10_goes : MethodName := ⟨RX10, "goes", "(Z)Z"⟩
abbrev cX10_in : ByteArray := prog_12_method_4_code
def yX10_in : MethodName := ⟨RX10, "in", "(III)Z"⟩
abbrev cX10_feed : ByteArray := prog_12_method_5_code
def yX10_feed : MethodName := ⟨RX10, "feed", "(IJ)I"⟩
abbrev cX10_letterOf : ByteArray := prog_12_method_6_code
def yX10_letterOf : MethodName := ⟨RX10, "letterOf", "(I)I"⟩
abbrev cX10_at : ByteArray := prog_12_method_7_code
def yX10_at : MethodName := ⟨RX10, "at", "(I)I"⟩
abbrev cX10_bad : ByteArray := prog_12_method_8_code
def yX10_bad : MethodName := ⟨RX10, "bad", "(II)V"⟩
abbrev cX10_isNameSign : ByteArray := prog_12_method_9_code
def yX10_isNameSign : MethodName := ⟨RX10, "isNameSign", "(I)Z"⟩
abbrev cX10_isOld : ByteArray := prog_12_method_10_code
def yX10_isOld : MethodName := ⟨RX10, "isOld", "(I)Z"⟩
abbrev cX10_readName : ByteArray := prog_12_method_11_code
def yX10_readName : MethodName := ⟨RX10, "readName", "(I)I"⟩
abbrev cX10_readLetters : ByteArray := prog_12_method_12_code
def yX10_readLetters : MethodName := ⟨RX10, "readLetters", "(I)I"⟩
abbrev cX10_reference : ByteArray := prog_12_method_13_code
def yX10_reference : MethodName := ⟨RX10, "reference", "()I"⟩
abbrev cX10_refAt : ByteArray := prog_12_method_14_code
def yX10_refAt : MethodName := ⟨RX10, "refAt", "(II)I"⟩
abbrev cX10_copy : ByteArray := prog_12_method_15_code
def yX10_copy : MethodName := ⟨RX10, "copy", "(II)V"⟩
abbrev cX10_copyCalls : ByteArray := prog_12_method_16_code
def yX10_copyCalls : MethodName := ⟨RX10, "copyCalls", "(IIII)V"⟩
abbrev cX10_noCalls : ByteArray := prog_12_method_17_code
def yX10_noCalls : MethodName := ⟨RX10, "noCalls", "(II)V"⟩
abbrev cX10_copyTable : ByteArray := prog_12_method_18_code
def yX10_copyTable : MethodName := ⟨RX10, "copyTable", "(II)V"⟩
abbrev cX10_copySample : ByteArray := prog_12_method_19_code
def yX10_copySample : MethodName := ⟨RX10, "copySample", "(IIII)V"⟩
abbrev cX10_sameRow : ByteArray := prog_12_method_20_code
def yX10_sameRow : MethodName := ⟨RX10, "sameRow", "(IIII)Z"⟩
abbrev cX10_lineEnd : ByteArray := prog_12_method_21_code
def yX10_lineEnd : MethodName := ⟨RX10, "lineEnd", "(I)I"⟩
abbrev cX10_sizeOf : ByteArray := prog_12_method_22_code
def yX10_sizeOf : MethodName := ⟨RX10, "sizeOf", "(I)I"⟩
abbrev cX10_eightOf : ByteArray := prog_12_method_23_code
def yX10_eightOf : MethodName := ⟨RX10, "eightOf", "(II)J"⟩
abbrev cX10_octetOf : ByteArray := prog_12_method_24_code
def yX10_octetOf : MethodName := ⟨RX10, "octetOf", "(II)I"⟩
abbrev cX10_begins : ByteArray := prog_12_method_25_code
def yX10_begins : MethodName := ⟨RX10, "begins", "(III)Z"⟩
abbrev cX10_isText : ByteArray := prog_12_method_26_code
def yX10_isText : MethodName := ⟨RX10, "isText", "(III)Z"⟩
abbrev cX10_columnEnd : ByteArray := prog_12_method_27_code
def yX10_columnEnd : MethodName := ⟨RX10, "columnEnd", "(II)I"⟩
abbrev cX10_columns : ByteArray := prog_12_method_28_code
def yX10_columns : MethodName := ⟨RX10, "columns", "(II)I"⟩
abbrev cX10_isShown : ByteArray := prog_12_method_29_code
def yX10_isShown : MethodName := ⟨RX10, "isShown", "(II)Z"⟩
abbrev cX10_readHead : ByteArray := prog_12_method_30_code
def yX10_readHead : MethodName := ⟨RX10, "readHead", "(II)Z"⟩
abbrev cX10_sameName : ByteArray := prog_12_method_31_code
def yX10_sameName : MethodName := ⟨RX10, "sameName", "(IIII)Z"⟩
abbrev cX10_numberOf : ByteArray := prog_12_method_32_code
def yX10_numberOf : MethodName := ⟨RX10, "numberOf", "(III)I"⟩
abbrev cX10_sequenceNamed : ByteArray := prog_12_method_33_code
def yX10_sequenceNamed : MethodName := ⟨RX10, "sequenceNamed", "(II)I"⟩
abbrev cX10_readRow : ByteArray := prog_12_method_34_code
def yX10_readRow : MethodName := ⟨RX10, "readRow", "(IIII)Z"⟩
abbrev cX10_readRef : ByteArray := prog_12_method_35_code
def yX10_readRef : MethodName := ⟨RX10, "readRef", "(III)V"⟩
abbrev cX10_readAlts : ByteArray := prog_12_method_36_code
def yX10_readAlts : MethodName := ⟨RX10, "readAlts", "(III)V"⟩
abbrev cX10_callOf : ByteArray := prog_12_method_37_code
def yX10_callOf : MethodName := ⟨RX10, "callOf", "(II)I"⟩
abbrev cX10_readCalls : ByteArray := prog_12_method_38_code
def yX10_readCalls : MethodName := ⟨RX10, "readCalls", "(IIII)V"⟩
abbrev cX10_readColumn : ByteArray := prog_12_method_39_code
def yX10_readColumn : MethodName := ⟨RX10, "readColumn", "(IIII)V"⟩
abbrev cX10_readRecord : ByteArray := prog_12_method_40_code
def yX10_readRecord : MethodName := ⟨RX10, "readRecord", "(II)V"⟩
abbrev cX10_needLine : ByteArray := prog_12_method_41_code
def yX10_needLine : MethodName := ⟨RX10, "needLine", "(I)I"⟩
abbrev cX10_readTable : ByteArray := prog_12_method_42_code
def yX10_readTable : MethodName := ⟨RX10, "readTable", "()V"⟩
abbrev cX10_read : ByteArray := prog_12_method_43_code
def yX10_read : MethodName := ⟨RX10, "read", "(I)I"⟩
abbrev cX10_place : ByteArray := prog_12_method_44_code
def yX10_place : MethodName := ⟨RX10, "place", "()I"⟩
abbrev cX10_sequence : ByteArray := prog_12_method_45_code
def yX10_sequence : MethodName := ⟨RX10, "sequence", "(II)I"⟩
abbrev cX10_letter : ByteArray := prog_12_method_46_code
def yX10_letter : MethodName := ⟨RX10, "letter", "(II)I"⟩
abbrev cX10_table : ByteArray := prog_12_method_47_code
def yX10_table : MethodName := ⟨RX10, "table", "(II)I"⟩
abbrev cX10_isRecord : ByteArray := prog_12_method_48_code
def yX10_isRecord : MethodName := ⟨RX10, "isRecord", "(II)Z"⟩
abbrev cX10_record : ByteArray := prog_12_method_49_code
def yX10_record : MethodName := ⟨RX10, "record", "(III)I"⟩
abbrev cX10_row : ByteArray := prog_12_method_50_code
def yX10_row : MethodName := ⟨RX10, "row", "(IIII)I"⟩
abbrev cX10_call : ByteArray := prog_12_method_51_code
def yX10_call : MethodName := ⟨RX10, "call", "(IIII)I"⟩
abbrev cX10_lastOf : ByteArray := prog_12_method_52_code
def yX10_lastOf : MethodName := ⟨RX10, "lastOf", "(II)I"⟩
abbrev cX10_endAlike : ByteArray := prog_12_method_53_code
def yX10_endAlike : MethodName := ⟨RX10, "endAlike", "(I)Z"⟩
abbrev cX10_beginAlike : ByteArray := prog_12_method_54_code
def yX10_beginAlike : MethodName := ⟨RX10, "beginAlike", "(I)Z"⟩
abbrev cX10_allLong : ByteArray := prog_12_method_55_code
def yX10_allLong : MethodName := ⟨RX10, "allLong", "(I)Z"⟩
abbrev cX10_toFront : ByteArray := prog_12_method_56_code
def yX10_toFront : MethodName := ⟨RX10, "toFront", "(II)V"⟩
abbrev cX10_fromFront : ByteArray := prog_12_method_57_code
def yX10_fromFront : MethodName := ⟨RX10, "fromFront", "(I)V"⟩
abbrev cX10_makeNormal : ByteArray := prog_12_method_58_code
def yX10_makeNormal : MethodName := ⟨RX10, "makeNormal", "(I)Z"⟩
abbrev cX10_normalise : ByteArray := prog_12_method_59_code
def yX10_normalise : MethodName := ⟨RX10, "normalise", "(I)I"⟩
abbrev cX10_split : ByteArray := prog_12_method_60_code
def yX10_split : MethodName := ⟨RX10, "split", "(I)I"⟩
abbrev cX10_longer : ByteArray := prog_12_method_61_code
def yX10_longer : MethodName := ⟨RX10, "longer", "(IIIII)V"⟩
abbrev cX10_tryJoin : ByteArray := prog_12_method_62_code
def yX10_tryJoin : MethodName := ⟨RX10, "tryJoin", "(III)Z"⟩
abbrev cX10_callAt : ByteArray := prog_12_method_63_code
def yX10_callAt : MethodName := ⟨RX10, "callAt", "(III)I"⟩
abbrev cX10_joinCalls : ByteArray := prog_12_method_64_code
def yX10_joinCalls : MethodName := ⟨RX10, "joinCalls", "(IIII)V"⟩
abbrev cX10_join : ByteArray := prog_12_method_65_code
def yX10_join : MethodName := ⟨RX10, "join", "(I)I"⟩
abbrev cX10_isBefore : ByteArray := prog_12_method_66_code
def yX10_isBefore : MethodName := ⟨RX10, "isBefore", "(II)Z"⟩
abbrev cX10_rank : ByteArray := prog_12_method_67_code
def yX10_rank : MethodName := ⟨RX10, "rank", "(II)I"⟩
abbrev cX10_sortInto : ByteArray := prog_12_method_68_code
def yX10_sortInto : MethodName := ⟨RX10, "sortInto", "(II)I"⟩
abbrev cX10_sort : ByteArray := prog_12_method_69_code
def yX10_sort : MethodName := ⟨RX10, "sort", "(I)I"⟩
abbrev cX10_sameRecord : ByteArray := prog_12_method_70_code
def yX10_sameRecord : MethodName := ⟨RX10, "sameRecord", "(II)Z"⟩
abbrev cX10_merge : ByteArray := prog_12_method_71_code
def yX10_merge : MethodName := ⟨RX10, "merge", "()I"⟩
abbrev cX10_add : ByteArray := prog_12_method_72_code
def yX10_add : MethodName := ⟨RX10, "add", "(II)V"⟩
abbrev cX10_addRow : ByteArray := prog_12_method_73_code
def yX10_addRow : MethodName := ⟨RX10, "addRow", "(II)I"⟩
abbrev cX10_nextCalled : ByteArray := prog_12_method_74_code
def yX10_nextCalled : MethodName := ⟨RX10, "nextCalled", "(IIIII)I"⟩
abbrev cX10_calledMany : ByteArray := prog_12_method_75_code
def yX10_calledMany : MethodName := ⟨RX10, "calledMany", "(IIII)I"⟩
abbrev cX10_apply : ByteArray := prog_12_method_76_code
def yX10_apply : MethodName := ⟨RX10, "apply", "(IIII)I"⟩
abbrev cX10_carried : ByteArray := prog_12_method_77_code
def yX10_carried : MethodName := ⟨RX10, "carried", "(I)I"⟩
abbrev cX10_back : ByteArray := prog_12_method_78_code
def yX10_back : MethodName := ⟨RX10, "back", "(I)I"⟩
abbrev cX10_lengthWith : ByteArray := prog_12_method_79_code
def yX10_lengthWith : MethodName := ⟨RX10, "lengthWith", "(I)I"⟩
abbrev cX10_letterWith : ByteArray := prog_12_method_80_code
def yX10_letterWith : MethodName := ⟨RX10, "letterWith", "(II)I"⟩
abbrev cX10_same : ByteArray := prog_12_method_81_code
def yX10_same : MethodName := ⟨RX10, "same", "(IIII)Z"⟩
abbrev cX10_put : ByteArray := prog_12_method_82_code
def yX10_put : MethodName := ⟨RX10, "put", "(I)V"⟩
abbrev cX10_putText : ByteArray := prog_12_method_83_code
def yX10_putText : MethodName := ⟨RX10, "putText", "(I)V"⟩
abbrev cX10_putNumber : ByteArray := prog_12_method_84_code
def yX10_putNumber : MethodName := ⟨RX10, "putNumber", "(I)V"⟩
abbrev cX10_putRow : ByteArray := prog_12_method_85_code
def yX10_putRow : MethodName := ⟨RX10, "putRow", "(II)V"⟩
abbrev cX10_putCall : ByteArray := prog_12_method_86_code
def yX10_putCall : MethodName := ⟨RX10, "putCall", "(I)V"⟩
abbrev cX10_putRecord : ByteArray := prog_12_method_87_code
def yX10_putRecord : MethodName := ⟨RX10, "putRecord", "(II)V"⟩
abbrev cX10_write : ByteArray := prog_12_method_88_code
def yX10_write : MethodName := ⟨RX10, "write", "(I)I"⟩
abbrev cX10_out : ByteArray := prog_12_method_89_code
def yX10_out : MethodName := ⟨RX10, "out", "(I)I"⟩
abbrev cX10_again : ByteArray := prog_12_method_90_code
def yX10_again : MethodName := ⟨RX10, "again", "()I"⟩
def RJ9 : String := "java/lang/Math"
abbrev cJ9_max_7cf53 : ByteArray := prog_16_method_65_code
def yJ9_max_7cf53 : MethodName := ⟨RJ9, "max", "(II)I"⟩
abbrev cJ9_min_7cf53 : ByteArray := prog_16_method_69_code
def yJ9_min_7cf53 : MethodName := ⟨RJ9, "min", "(II)I"⟩
def RJ0 : String := "java/lang/String"
abbrev cJ0_length_8abf5 : ByteArray := prog_18_method_54_code
def yJ0_length_8abf5 : MethodName := ⟨RJ0, "length", "()I"⟩
abbrev cJ0_charAt_5068e : ByteArray := prog_18_method_56_code
def yJ0_charAt_5068e : MethodName := ⟨RJ0, "charAt", "(I)C"⟩
abbrev cJ0_coder_7d493 : ByteArray := prog_18_method_152_code
def yJ0_coder_7d493 : MethodName := ⟨RJ0, "coder", "()B"⟩
abbrev cJ0_isLatin1_aae02 : ByteArray := prog_18_method_154_code
def yJ0_isLatin1_aae02 : MethodName := ⟨RJ0, "isLatin1", "()Z"⟩
abbrev cJ0_checkIndex_df160 : ByteArray := prog_18_method_155_code
def yJ0_checkIndex_df160 : MethodName := ⟨RJ0, "checkIndex", "(II)V"⟩
def RJ1 : String := "java/lang/StringLatin1"
abbrev cJ1_charAt_3b067 : ByteArray := prog_19_method_2_code
def yJ1_charAt_3b067 : MethodName := ⟨RJ1, "charAt", "([BI)C"⟩
def RJ2 : String := "java/lang/StringUTF16"
abbrev cJ2_getChar_3b067 : ByteArray := prog_20_method_5_code
def yJ2_getChar_3b067 : MethodName := ⟨RJ2, "getChar", "([BI)C"⟩
abbrev cJ2_length_9d52b : ByteArray := prog_20_method_6_code
def yJ2_length_9d52b : MethodName := ⟨RJ2, "length", "([B)I"⟩
abbrev cJ2_charAt_3b067 : ByteArray := prog_20_method_83_code
def yJ2_charAt_3b067 : MethodName := ⟨RJ2, "charAt", "([BI)C"⟩
abbrev cJ2_checkIndex_2214a : ByteArray := prog_20_method_91_code
def yJ2_checkIndex_2214a : MethodName := ⟨RJ2, "checkIndex", "(I[B)V"⟩
def RJ10 : String := "java/lang/System"
def RJ3 : String := "jdk/internal/util/Preconditions"
abbrev cJ3_checkIndex_8e157 : ByteArray := prog_23_method_11_code
def yJ3_checkIndex_8e157 : MethodName := ⟨RJ3, "checkIndex", "(IILjava/util/function/BiFunction;)I"⟩
def RL : String := "VariantDeskLaw"
abbrev cL_feed : ByteArray := method_3_code
def yL_feed : MethodName := ⟨RL, "feed", "(LVariantDesk;IJ[J)I"⟩
abbrev cL_read : ByteArray := method_4_code
def yL_read : MethodName := ⟨RL, "read", "(LVariantDesk;I[J)I"⟩
abbrev cL_sequence : ByteArray := method_5_code
def yL_sequence : MethodName := ⟨RL, "sequence", "(LVariantDesk;II[J)I"⟩
abbrev cL_letter : ByteArray := method_6_code
def yL_letter : MethodName := ⟨RL, "letter", "(LVariantDesk;II[J)I"⟩
abbrev cL_table : ByteArray := method_7_code
def yL_table : MethodName := ⟨RL, "table", "(LVariantDesk;II[J)I"⟩
abbrev cL_record : ByteArray := method_8_code
def yL_record : MethodName := ⟨RL, "record", "(LVariantDesk;III[J)I"⟩
abbrev cL_row : ByteArray := method_9_code
def yL_row : MethodName := ⟨RL, "row", "(LVariantDesk;IIII[J)I"⟩
abbrev cL_call : ByteArray := method_10_code
def yL_call : MethodName := ⟨RL, "call", "(LVariantDesk;IIII[J)I"⟩
abbrev cL_normalise : ByteArray := method_11_code
def yL_normalise : MethodName := ⟨RL, "normalise", "(LVariantDesk;I[J)I"⟩
abbrev cL_split : ByteArray := method_12_code
def yL_split : MethodName := ⟨RL, "split", "(LVariantDesk;I[J)I"⟩
abbrev cL_join : ByteArray := method_13_code
def yL_join : MethodName := ⟨RL, "join", "(LVariantDesk;I[J)I"⟩
abbrev cL_sort : ByteArray := method_14_code
def yL_sort : MethodName := ⟨RL, "sort", "(LVariantDesk;I[J)I"⟩
abbrev cL_apply : ByteArray := method_15_code
def yL_apply : MethodName := ⟨RL, "apply", "(LVariantDesk;IIII[J)I"⟩
abbrev cL_same : ByteArray := method_16_code
def yL_same : MethodName := ⟨RL, "same", "(LVariantDesk;IIII[J)I"⟩
abbrev cL_write : ByteArray := method_17_code
def yL_write : MethodName := ⟨RL, "write", "(LVariantDesk;I[J)I"⟩
abbrev cL_law : ByteArray := code
def yL_law : MethodName := ⟨RL, "law", "([I)Z"⟩
abbrev vwCl : List vw_C := [(RX0, TX0, 14), (RX1, TX1, 8), (RX2, TX2, 11), (RX3, TX3, 9), (RX4, TX4, 3), (RX5, TX5, 4), (RX6, TX6, 3), (RX7, TX7, 3), (RX8, TX8, 10), (RX9, TX9, 10), (RX10, TX10, 53)]
end
section
theorem dX0_init_0 : decode cX0_init 0 = .ok (.aload_n 0, 1) := by decide +kernel
theorem dX0_init_1 : decode cX0_init 1 = .ok (.invokespecial 3, 3) := by decide +kernel
theorem dX0_init_4 : decode cX0_init 4 = .ok (.aload_n 0, 1) := by decide +kernel
theorem dX0_init_5 : decode cX0_init 5 = .ok (.bipush 20, 2) := by decide +kernel
theorem dX0_init_7 : decode cX0_init 7 = .ok (.newarray .int, 2) := by decide +kernel
theorem dX0_init_9 : decode cX0_init 9 = .ok (.putfield 9, 3) := by decide +kernel
theorem dX0_init_12 : decode cX0_init 12 = .ok (.aload_n 0, 1) := by decide +kernel
theorem dX0_init_13 : decode cX0_init 13 = .ok (.bipush 96, 2) := by decide +kernel
theorem dX0_init_15 : decode cX0_init 15 = .ok (.newarray .int, 2) := by decide +kernel
theorem dX0_init_17 : decode cX0_init 17 = .ok (.putfield 15, 3) := by decide +kernel
theorem dX0_init_20 : decode cX0_init 20 = .ok (.aload_n 0, 1) := by decide +kernel
theorem dX0_init_21 : decode cX0_init 21 = .ok (.iconst 4, 1) := by decide +kernel
theorem dX0_init_22 : decode cX0_init 22 = .ok (.newarray .int, 2) := by decide +kernel
theorem dX0_init_24 : decode cX0_init 24 = .ok (.putfield 18, 3) := by decide +kernel
theorem dX0_init_27 : decode cX0_init 27 = .ok (.aload_n 0, 1) := by decide +kernel
theorem dX0_init_28 : decode cX0_init 28 = .ok (.bipush 6, 2) := by decide +kernel
theorem dX0_init_30 : decode cX0_init 30 = .ok (.newarray .int, 2) := by decide +kernel
theorem dX0_init_32 : decode cX0_init 32 = .ok (.putfield 21, 3) := by decide +kernel
theorem dX0_init_35 : decode cX0_init 35 = .ok (.aload_n 0, 1) := by decide +kernel
theorem dX0_init_36 : decode cX0_init 36 = .ok (.iconst 3, 1) := by decide +kernel
theorem dX0_init_37 : decode cX0_init 37 = .ok (.newarray .int, 2) := by decide +kernel
theorem dX0_init_39 : decode cX0_init 39 = .ok (.putfield 24, 3) := by decide +kernel
theorem dX0_init_42 : decode cX0_init 42 = .ok (.aload_n 0, 1) := by decide +kernel
theorem dX0_init_43 : decode cX0_init 43 = .ok (.iconst 3, 1) := by decide +kernel
theorem dX0_init_44 : decode cX0_init 44 = .ok (.newarray .boolean, 2) := by decide +kernel
theorem dX0_init_46 : decode cX0_init 46 = .ok (.putfield 27, 3) := by decide +kernel
theorem dX0_init_49 : decode cX0_init 49 = .ok (.return_, 1) := by decide +kernel
theorem dX0_copyFrom_0 : decode cX0_copyFrom 0 = .ok (.aload_n 0, 1) := by decide +kernel
theorem dX0_copyFrom_1 : decode cX0_copyFrom 1 = .ok (.aload_n 1, 1) := by decide +kernel
theorem dX0_copyFrom_2 : decode cX0_copyFrom 2 = .ok (.invokevirtual 31, 3) := by decide +kernel
theorem dX0_copyFrom_5 : decode cX0_copyFrom 5 = .ok (.aload_n 1, 1) := by decide +kernel
theorem dX0_copyFrom_6 : decode cX0_copyFrom 6 = .ok (.getfield 15, 3) := by decide +kernel
theorem dX0_copyFrom_9 : decode cX0_copyFrom 9 = .ok (.iconst 0, 1) := by decide +kernel
theorem dX0_copyFrom_10 : decode cX0_copyFrom 10 = .ok (.aload_n 0, 1) := by decide +kernel
theorem dX0_copyFrom_11 : decode cX0_copyFrom 11 = .ok (.getfield 15, 3) := by decide +kernel
theorem dX0_copyFrom_14 : decode cX0_copyFrom 14 = .ok (.iconst 0, 1) := by decide +kernel
theorem dX0_copyFrom_15 : decode cX0_copyFrom 15 = .ok (.aload_n 0, 1) := by decide +kernel
theorem dX0_copyFrom_16 : decode cX0_copyFrom 16 = .ok (.getfield 15, 3) := by decide +kernel
theorem dX0_copyFrom_19 : decode cX0_copyFrom 19 = .ok (.arraylength, 1) := by decide +kernel
theorem dX0_copyFrom_20 : decode cX0_copyFrom 20 = .ok (.invokestatic 35, 3) := by decide +kernel
theorem dX0_copyFrom_23 : decode cX0_copyFrom 23 = .ok (.aload_n 1, 1) := by decide +kernel
theorem dX0_copyFrom_24 : decode cX0_copyFrom 24 = .ok (.getfield 18, 3) := by decide +kernel
theorem dX0_copyFrom_27 : decode cX0_copyFrom 27 = .ok (.iconst 0, 1) := by decide +kernel
theorem dX0_copyFrom_28 : decode cX0_copyFrom 28 = .ok (.aload_n 0, 1) := by decide +kernel
theorem dX0_copyFrom_29 : decode cX0_copyFrom 29 = .ok (.getfield 18, 3) := by decide +kernel
theorem dX0_copyFrom_32 : decode cX0_copyFrom 32 = .ok (.iconst 0, 1) := by decide +kernel
theorem dX0_copyFrom_33 : decode cX0_copyFrom 33 = .ok (.iconst 4, 1) := by decide +kernel
theorem dX0_copyFrom_34 : decode cX0_copyFrom 34 = .ok (.invokestatic 35, 3) := by decide +kernel
theorem dX0_copyFrom_37 : decode cX0_copyFrom 37 = .ok (.aload_n 0, 1) := by decide +kernel
theorem dX0_copyFrom_38 : decode cX0_copyFrom 38 = .ok (.aload_n 1, 1) := by decide +kernel
theorem dX0_copyFrom_39 : decode cX0_copyFrom 39 = .ok (.getfield 41, 3) := by decide +kernel
theorem dX0_copyFrom_42 : decode cX0_copyFrom 42 = .ok (.putfield 41, 3) := by decide +kernel
theorem dX0_copyFrom_45 : decode cX0_copyFrom 45 = .ok (.iconst 0, 1) := by decide +kernel
theorem dX0_copyFrom_46 : decode cX0_copyFrom 46 = .ok (.istore_n 2, 1) := by decide +kernel
theorem dX0_copyFrom_47 : decode cX0_copyFrom 47 = .ok (.iload_n 2, 1) := by decide +kernel
theorem dX0_copyFrom_48 : decode cX0_copyFrom 48 = .ok (.iconst 3, 1) := by decide +kernel
theorem dX0_copyFrom_49 : decode cX0_copyFrom 49 = .ok (.if_icmp .ge 16, 3) := by decide +kernel
theorem dX0_copyFrom_52 : decode cX0_copyFrom 52 = .ok (.aload_n 0, 1) := by decide +kernel
theorem dX0_copyFrom_53 : decode cX0_copyFrom 53 = .ok (.iload_n 2, 1) := by decide +kernel
theorem dX0_copyFrom_54 : decode cX0_copyFrom 54 = .ok (.aload_n 1, 1) := by decide +kernel
theorem dX0_copyFrom_55 : decode cX0_copyFrom 55 = .ok (.iload_n 2, 1) := by decide +kernel
theorem dX0_copyFrom_56 : decode cX0_copyFrom 56 = .ok (.invokevirtual 45, 3) := by decide +kernel
theorem dX0_copyFrom_59 : decode cX0_copyFrom 59 = .ok (.iinc 2 1, 3) := by decide +kernel
theorem dX0_copyFrom_62 : decode cX0_copyFrom 62 = .ok (.goto (-15), 3) := by decide +kernel
theorem dX0_copyFrom_65 : decode cX0_copyFrom 65 = .ok (.return_, 1) := by decide +kernel
theorem dX0_copyHead_0 : decode cX0_copyHead 0 = .ok (.aload_n 0, 1) := by decide +kernel
theorem dX0_copyHead_1 : decode cX0_copyHead 1 = .ok (.aload_n 1, 1) := by decide +kernel
theorem dX0_copyHead_2 : decode cX0_copyHead 2 = .ok (.getfield 49, 3) := by decide +kernel
theorem dX0_copyHead_5 : decode cX0_copyHead 5 = .ok (.putfield 49, 3) := by decide +kernel
theorem dX0_copyHead_8 : decode cX0_copyHead 8 = .ok (.aload_n 0, 1) := by decide +kernel
theorem dX0_copyHead_9 : decode cX0_copyHead 9 = .ok (.aload_n 1, 1) := by decide +kernel
theorem dX0_copyHead_10 : decode cX0_copyHead 10 = .ok (.getfield 52, 3) := by decide +kernel
theorem dX0_copyHead_13 : decode cX0_copyHead 13 = .ok (.putfield 52, 3) := by decide +kernel
theorem dX0_copyHead_16 : decode cX0_copyHead 16 = .ok (.aload_n 0, 1) := by decide +kernel
theorem dX0_copyHead_17 : decode cX0_copyHead 17 = .ok (.aload_n 1, 1) := by decide +kernel
theorem dX0_copyHead_18 : decode cX0_copyHead 18 = .ok (.getfield 55, 3) := by decide +kernel
theorem dX0_copyHead_21 : decode cX0_copyHead 21 = .ok (.putfield 55, 3) := by decide +kernel
theorem dX0_copyHead_24 : decode cX0_copyHead 24 = .ok (.aload_n 0, 1) := by decide +kernel
theorem dX0_copyHead_25 : decode cX0_copyHead 25 = .ok (.aload_n 1, 1) := by decide +kernel
theorem dX0_copyHead_26 : decode cX0_copyHead 26 = .ok (.getfield 58, 3) := by decide +kernel
theorem dX0_copyHead_29 : decode cX0_copyHead 29 = .ok (.putfield 58, 3) := by decide +kernel
theorem dX0_copyHead_32 : decode cX0_copyHead 32 = .ok (.aload_n 0, 1) := by decide +kernel
theorem dX0_copyHead_33 : decode cX0_copyHead 33 = .ok (.aload_n 1, 1) := by decide +kernel
theorem dX0_copyHead_34 : decode cX0_copyHead 34 = .ok (.getfield 62, 3) := by decide +kernel
theorem dX0_copyHead_37 : decode cX0_copyHead 37 = .ok (.putfield 62, 3) := by decide +kernel
theorem dX0_copyHead_40 : decode cX0_copyHead 40 = .ok (.aload_n 1, 1) := by decide +kernel
theorem dX0_copyHead_41 : decode cX0_copyHead 41 = .ok (.getfield 9, 3) := by decide +kernel
theorem dX0_copyHead_44 : decode cX0_copyHead 44 = .ok (.iconst 0, 1) := by decide +kernel
theorem dX0_copyHead_45 : decode cX0_copyHead 45 = .ok (.aload_n 0, 1) := by decide +kernel
theorem dX0_copyHead_46 : decode cX0_copyHead 46 = .ok (.getfield 9, 3) := by decide +kernel
theorem dX0_copyHead_49 : decode cX0_copyHead 49 = .ok (.iconst 0, 1) := by decide +kernel
theorem dX0_copyHead_50 : decode cX0_copyHead 50 = .ok (.bipush 20, 2) := by decide +kernel
theorem dX0_copyHead_52 : decode cX0_copyHead 52 = .ok (.invokestatic 35, 3) := by decide +kernel
theorem dX0_copyHead_55 : decode cX0_copyHead 55 = .ok (.return_, 1) := by decide +kernel
theorem dX0_copyCalls_0 : decode cX0_copyCalls 0 = .ok (.iconst 0, 1) := by decide +kernel
theorem dX0_copyCalls_1 : decode cX0_copyCalls 1 = .ok (.istore 4, 2) := by decide +kernel
theorem dX0_copyCalls_3 : decode cX0_copyCalls 3 = .ok (.iload 4, 2) := by decide +kernel
theorem dX0_copyCalls_5 : decode cX0_copyCalls 5 = .ok (.iconst 2, 1) := by decide +kernel
theorem dX0_copyCalls_6 : decode cX0_copyCalls 6 = .ok (.if_icmp .ge 31, 3) := by decide +kernel
theorem dX0_copyCalls_9 : decode cX0_copyCalls 9 = .ok (.aload_n 0, 1) := by decide +kernel
theorem dX0_copyCalls_10 : decode cX0_copyCalls 10 = .ok (.getfield 21, 3) := by decide +kernel
theorem dX0_copyCalls_13 : decode cX0_copyCalls 13 = .ok (.iload_n 1, 1) := by decide +kernel
theorem dX0_copyCalls_14 : decode cX0_copyCalls 14 = .ok (.iconst 2, 1) := by decide +kernel
theorem dX0_copyCalls_15 : decode cX0_copyCalls 15 = .ok (.imul, 1) := by decide +kernel
theorem dX0_copyCalls_16 : decode cX0_copyCalls 16 = .ok (.iload 4, 2) := by decide +kernel
theorem dX0_copyCalls_18 : decode cX0_copyCalls 18 = .ok (.iadd, 1) := by decide +kernel
theorem dX0_copyCalls_19 : decode cX0_copyCalls 19 = .ok (.aload_n 2, 1) := by decide +kernel
theorem dX0_copyCalls_20 : decode cX0_copyCalls 20 = .ok (.getfield 21, 3) := by decide +kernel
theorem dX0_copyCalls_23 : decode cX0_copyCalls 23 = .ok (.iload_n 3, 1) := by decide +kernel
theorem dX0_copyCalls_24 : decode cX0_copyCalls 24 = .ok (.iconst 2, 1) := by decide +kernel
theorem dX0_copyCalls_25 : decode cX0_copyCalls 25 = .ok (.imul, 1) := by decide +kernel
theorem dX0_copyCalls_26 : decode cX0_copyCalls 26 = .ok (.iload 4, 2) := by decide +kernel
theorem dX0_copyCalls_28 : decode cX0_copyCalls 28 = .ok (.iadd, 1) := by decide +kernel
theorem dX0_copyCalls_29 : decode cX0_copyCalls 29 = .ok (.iaload, 1) := by decide +kernel
theorem dX0_copyCalls_30 : decode cX0_copyCalls 30 = .ok (.iastore, 1) := by decide +kernel
theorem dX0_copyCalls_31 : decode cX0_copyCalls 31 = .ok (.iinc 4 1, 3) := by decide +kernel
theorem dX0_copyCalls_34 : decode cX0_copyCalls 34 = .ok (.goto (-31), 3) := by decide +kernel
theorem dX0_copyCalls_37 : decode cX0_copyCalls 37 = .ok (.aload_n 0, 1) := by decide +kernel
theorem dX0_copyCalls_38 : decode cX0_copyCalls 38 = .ok (.getfield 24, 3) := by decide +kernel
theorem dX0_copyCalls_41 : decode cX0_copyCalls 41 = .ok (.iload_n 1, 1) := by decide +kernel
theorem dX0_copyCalls_42 : decode cX0_copyCalls 42 = .ok (.aload_n 2, 1) := by decide +kernel
theorem dX0_copyCalls_43 : decode cX0_copyCalls 43 = .ok (.getfield 24, 3) := by decide +kernel
theorem dX0_copyCalls_46 : decode cX0_copyCalls 46 = .ok (.iload_n 3, 1) := by decide +kernel
theorem dX0_copyCalls_47 : decode cX0_copyCalls 47 = .ok (.iaload, 1) := by decide +kernel
theorem dX0_copyCalls_48 : decode cX0_copyCalls 48 = .ok (.iastore, 1) := by decide +kernel
theorem dX0_copyCalls_49 : decode cX0_copyCalls 49 = .ok (.aload_n 0, 1) := by decide +kernel
theorem dX0_copyCalls_50 : decode cX0_copyCalls 50 = .ok (.getfield 27, 3) := by decide +kernel
theorem dX0_copyCalls_53 : decode cX0_copyCalls 53 = .ok (.iload_n 1, 1) := by decide +kernel
theorem dX0_copyCalls_54 : decode cX0_copyCalls 54 = .ok (.aload_n 2, 1) := by decide +kernel
theorem dX0_copyCalls_55 : decode cX0_copyCalls 55 = .ok (.getfield 27, 3) := by decide +kernel
theorem dX0_copyCalls_58 : decode cX0_copyCalls 58 = .ok (.iload_n 3, 1) := by decide +kernel
theorem dX0_copyCalls_59 : decode cX0_copyCalls 59 = .ok (.baload, 1) := by decide +kernel
theorem dX0_copyCalls_60 : decode cX0_copyCalls 60 = .ok (.bastore, 1) := by decide +kernel
theorem dX0_copyCalls_61 : decode cX0_copyCalls 61 = .ok (.return_, 1) := by decide +kernel
theorem dX0_setNoCall_0 : decode cX0_setNoCall 0 = .ok (.aload_n 0, 1) := by decide +kernel
theorem dX0_setNoCall_1 : decode cX0_setNoCall 1 = .ok (.iload_n 1, 1) := by decide +kernel
theorem dX0_setNoCall_2 : decode cX0_setNoCall 2 = .ok (.iconst 0, 1) := by decide +kernel
theorem dX0_setNoCall_3 : decode cX0_setNoCall 3 = .ok (.iconst (-1), 1) := by decide +kernel
theorem dX0_setNoCall_4 : decode cX0_setNoCall 4 = .ok (.invokevirtual 65, 3) := by decide +kernel
theorem dX0_setNoCall_7 : decode cX0_setNoCall 7 = .ok (.aload_n 0, 1) := by decide +kernel
theorem dX0_setNoCall_8 : decode cX0_setNoCall 8 = .ok (.getfield 24, 3) := by decide +kernel
theorem dX0_setNoCall_11 : decode cX0_setNoCall 11 = .ok (.iload_n 1, 1) := by decide +kernel
theorem dX0_setNoCall_12 : decode cX0_setNoCall 12 = .ok (.iconst 1, 1) := by decide +kernel
theorem dX0_setNoCall_13 : decode cX0_setNoCall 13 = .ok (.iastore, 1) := by decide +kernel
theorem dX0_setNoCall_14 : decode cX0_setNoCall 14 = .ok (.aload_n 0, 1) := by decide +kernel
theorem dX0_setNoCall_15 : decode cX0_setNoCall 15 = .ok (.getfield 27, 3) := by decide +kernel
theorem dX0_setNoCall_18 : decode cX0_setNoCall 18 = .ok (.iload_n 1, 1) := by decide +kernel
theorem dX0_setNoCall_19 : decode cX0_setNoCall 19 = .ok (.iconst 0, 1) := by decide +kernel
theorem dX0_setNoCall_20 : decode cX0_setNoCall 20 = .ok (.bastore, 1) := by decide +kernel
theorem dX0_setNoCall_21 : decode cX0_setNoCall 21 = .ok (.return_, 1) := by decide +kernel
theorem dX0_setCall_0 : decode cX0_setCall 0 = .ok (.aload_n 0, 1) := by decide +kernel
theorem dX0_setCall_1 : decode cX0_setCall 1 = .ok (.getfield 21, 3) := by decide +kernel
theorem dX0_setCall_4 : decode cX0_setCall 4 = .ok (.iload_n 1, 1) := by decide +kernel
theorem dX0_setCall_5 : decode cX0_setCall 5 = .ok (.iconst 2, 1) := by decide +kernel
theorem dX0_setCall_6 : decode cX0_setCall 6 = .ok (.imul, 1) := by decide +kernel
theorem dX0_setCall_7 : decode cX0_setCall 7 = .ok (.iload_n 2, 1) := by decide +kernel
theorem dX0_setCall_8 : decode cX0_setCall 8 = .ok (.iadd, 1) := by decide +kernel
theorem dX0_setCall_9 : decode cX0_setCall 9 = .ok (.iload_n 3, 1) := by decide +kernel
theorem dX0_setCall_10 : decode cX0_setCall 10 = .ok (.iastore, 1) := by decide +kernel
theorem dX0_setCall_11 : decode cX0_setCall 11 = .ok (.return_, 1) := by decide +kernel
theorem dX0_callAt_0 : decode cX0_callAt 0 = .ok (.iload_n 2, 1) := by decide +kernel
theorem dX0_callAt_1 : decode cX0_callAt 1 = .ok (.aload_n 0, 1) := by decide +kernel
theorem dX0_callAt_2 : decode cX0_callAt 2 = .ok (.getfield 24, 3) := by decide +kernel
theorem dX0_callAt_5 : decode cX0_callAt 5 = .ok (.iload_n 1, 1) := by decide +kernel
theorem dX0_callAt_6 : decode cX0_callAt 6 = .ok (.iaload, 1) := by decide +kernel
theorem dX0_callAt_7 : decode cX0_callAt 7 = .ok (.if_icmp .ge 16, 3) := by decide +kernel
theorem dX0_callAt_10 : decode cX0_callAt 10 = .ok (.aload_n 0, 1) := by decide +kernel
theorem dX0_callAt_11 : decode cX0_callAt 11 = .ok (.getfield 21, 3) := by decide +kernel
theorem dX0_callAt_14 : decode cX0_callAt 14 = .ok (.iload_n 1, 1) := by decide +kernel
theorem dX0_callAt_15 : decode cX0_callAt 15 = .ok (.iconst 2, 1) := by decide +kernel
theorem dX0_callAt_16 : decode cX0_callAt 16 = .ok (.imul, 1) := by decide +kernel
theorem dX0_callAt_17 : decode cX0_callAt 17 = .ok (.iload_n 2, 1) := by decide +kernel
theorem dX0_callAt_18 : decode cX0_callAt 18 = .ok (.iadd, 1) := by decide +kernel
theorem dX0_callAt_19 : decode cX0_callAt 19 = .ok (.iaload, 1) := by decide +kernel
theorem dX0_callAt_20 : decode cX0_callAt 20 = .ok (.goto 4, 3) := by decide +kernel
theorem dX0_callAt_23 : decode cX0_callAt 23 = .ok (.iconst (-1), 1) := by decide +kernel
theorem dX0_callAt_24 : decode cX0_callAt 24 = .ok (.ireturn, 1) := by decide +kernel
theorem dX0_letterAt_0 : decode cX0_letterAt 0 = .ok (.iload_n 2, 1) := by decide +kernel
theorem dX0_letterAt_1 : decode cX0_letterAt 1 = .ok (.ifCond .lt 27, 3) := by decide +kernel
theorem dX0_letterAt_4 : decode cX0_letterAt 4 = .ok (.iload_n 2, 1) := by decide +kernel
theorem dX0_letterAt_5 : decode cX0_letterAt 5 = .ok (.aload_n 0, 1) := by decide +kernel
theorem dX0_letterAt_6 : decode cX0_letterAt 6 = .ok (.getfield 18, 3) := by decide +kernel
theorem dX0_letterAt_9 : decode cX0_letterAt 9 = .ok (.iload_n 1, 1) := by decide +kernel
theorem dX0_letterAt_10 : decode cX0_letterAt 10 = .ok (.iaload, 1) := by decide +kernel
theorem dX0_letterAt_11 : decode cX0_letterAt 11 = .ok (.if_icmp .ge 17, 3) := by decide +kernel
theorem dX0_letterAt_14 : decode cX0_letterAt 14 = .ok (.aload_n 0, 1) := by decide +kernel
theorem dX0_letterAt_15 : decode cX0_letterAt 15 = .ok (.getfield 15, 3) := by decide +kernel
theorem dX0_letterAt_18 : decode cX0_letterAt 18 = .ok (.iload_n 1, 1) := by decide +kernel
theorem dX0_letterAt_19 : decode cX0_letterAt 19 = .ok (.bipush 24, 2) := by decide +kernel
theorem dX0_letterAt_21 : decode cX0_letterAt 21 = .ok (.imul, 1) := by decide +kernel
theorem dX0_letterAt_22 : decode cX0_letterAt 22 = .ok (.iload_n 2, 1) := by decide +kernel
theorem dX0_letterAt_23 : decode cX0_letterAt 23 = .ok (.iadd, 1) := by decide +kernel
theorem dX0_letterAt_24 : decode cX0_letterAt 24 = .ok (.iaload, 1) := by decide +kernel
theorem dX0_letterAt_25 : decode cX0_letterAt 25 = .ok (.goto 4, 3) := by decide +kernel
theorem dX0_letterAt_28 : decode cX0_letterAt 28 = .ok (.iconst (-1), 1) := by decide +kernel
theorem dX0_letterAt_29 : decode cX0_letterAt 29 = .ok (.ireturn, 1) := by decide +kernel
theorem dX0_addLetter_0 : decode cX0_addLetter 0 = .ok (.aload_n 0, 1) := by decide +kernel
theorem dX0_addLetter_1 : decode cX0_addLetter 1 = .ok (.getfield 18, 3) := by decide +kernel
theorem dX0_addLetter_4 : decode cX0_addLetter 4 = .ok (.iload_n 1, 1) := by decide +kernel
theorem dX0_addLetter_5 : decode cX0_addLetter 5 = .ok (.iaload, 1) := by decide +kernel
theorem dX0_addLetter_6 : decode cX0_addLetter 6 = .ok (.bipush 24, 2) := by decide +kernel
theorem dX0_addLetter_8 : decode cX0_addLetter 8 = .ok (.if_icmp .ge 30, 3) := by decide +kernel
theorem dX0_addLetter_11 : decode cX0_addLetter 11 = .ok (.aload_n 0, 1) := by decide +kernel
theorem dX0_addLetter_12 : decode cX0_addLetter 12 = .ok (.getfield 15, 3) := by decide +kernel
theorem dX0_addLetter_15 : decode cX0_addLetter 15 = .ok (.iload_n 1, 1) := by decide +kernel
theorem dX0_addLetter_16 : decode cX0_addLetter 16 = .ok (.bipush 24, 2) := by decide +kernel
theorem dX0_addLetter_18 : decode cX0_addLetter 18 = .ok (.imul, 1) := by decide +kernel
theorem dX0_addLetter_19 : decode cX0_addLetter 19 = .ok (.aload_n 0, 1) := by decide +kernel
theorem dX0_addLetter_20 : decode cX0_addLetter 20 = .ok (.getfield 18, 3) := by decide +kernel
theorem dX0_addLetter_23 : decode cX0_addLetter 23 = .ok (.iload_n 1, 1) := by decide +kernel
theorem dX0_addLetter_24 : decode cX0_addLetter 24 = .ok (.iaload, 1) := by decide +kernel
theorem dX0_addLetter_25 : decode cX0_addLetter 25 = .ok (.iadd, 1) := by decide +kernel
theorem dX0_addLetter_26 : decode cX0_addLetter 26 = .ok (.iload_n 2, 1) := by decide +kernel
theorem dX0_addLetter_27 : decode cX0_addLetter 27 = .ok (.iastore, 1) := by decide +kernel
theorem dX0_addLetter_28 : decode cX0_addLetter 28 = .ok (.aload_n 0, 1) := by decide +kernel
theorem dX0_addLetter_29 : decode cX0_addLetter 29 = .ok (.getfield 18, 3) := by decide +kernel
theorem dX0_addLetter_32 : decode cX0_addLetter 32 = .ok (.iload_n 1, 1) := by decide +kernel
theorem dX0_addLetter_33 : decode cX0_addLetter 33 = .ok (.dup2, 1) := by decide +kernel
theorem dX0_addLetter_34 : decode cX0_addLetter 34 = .ok (.iaload, 1) := by decide +kernel
theorem dX0_addLetter_35 : decode cX0_addLetter 35 = .ok (.iconst 1, 1) := by decide +kernel
theorem dX0_addLetter_36 : decode cX0_addLetter 36 = .ok (.iadd, 1) := by decide +kernel
theorem dX0_addLetter_37 : decode cX0_addLetter 37 = .ok (.iastore, 1) := by decide +kernel
theorem dX0_addLetter_38 : decode cX0_addLetter 38 = .ok (.return_, 1) := by decide +kernel
theorem dX0_addIdOctet_0 : decode cX0_addIdOctet 0 = .ok (.aload_n 0, 1) := by decide +kernel
theorem dX0_addIdOctet_1 : decode cX0_addIdOctet 1 = .ok (.getfield 62, 3) := by decide +kernel
theorem dX0_addIdOctet_4 : decode cX0_addIdOctet 4 = .ok (.bipush 20, 2) := by decide +kernel
theorem dX0_addIdOctet_6 : decode cX0_addIdOctet 6 = .ok (.if_icmp .ge 23, 3) := by decide +kernel
theorem dX0_addIdOctet_9 : decode cX0_addIdOctet 9 = .ok (.aload_n 0, 1) := by decide +kernel
theorem dX0_addIdOctet_10 : decode cX0_addIdOctet 10 = .ok (.getfield 9, 3) := by decide +kernel
theorem dX0_addIdOctet_13 : decode cX0_addIdOctet 13 = .ok (.aload_n 0, 1) := by decide +kernel
theorem dX0_addIdOctet_14 : decode cX0_addIdOctet 14 = .ok (.getfield 62, 3) := by decide +kernel
theorem dX0_addIdOctet_17 : decode cX0_addIdOctet 17 = .ok (.iload_n 1, 1) := by decide +kernel
theorem dX0_addIdOctet_18 : decode cX0_addIdOctet 18 = .ok (.iastore, 1) := by decide +kernel
theorem dX0_addIdOctet_19 : decode cX0_addIdOctet 19 = .ok (.aload_n 0, 1) := by decide +kernel
theorem dX0_addIdOctet_20 : decode cX0_addIdOctet 20 = .ok (.dup, 1) := by decide +kernel
theorem dX0_addIdOctet_21 : decode cX0_addIdOctet 21 = .ok (.getfield 62, 3) := by decide +kernel
theorem dX0_addIdOctet_24 : decode cX0_addIdOctet 24 = .ok (.iconst 1, 1) := by decide +kernel
theorem dX0_addIdOctet_25 : decode cX0_addIdOctet 25 = .ok (.iadd, 1) := by decide +kernel
theorem dX0_addIdOctet_26 : decode cX0_addIdOctet 26 = .ok (.putfield 62, 3) := by decide +kernel
theorem dX0_addIdOctet_29 : decode cX0_addIdOctet 29 = .ok (.return_, 1) := by decide +kernel
theorem dX0_copyRow_0 : decode cX0_copyRow 0 = .ok (.iload_n 3, 1) := by decide +kernel
theorem dX0_copyRow_1 : decode cX0_copyRow 1 = .ok (.bipush 24, 2) := by decide +kernel
theorem dX0_copyRow_3 : decode cX0_copyRow 3 = .ok (.imul, 1) := by decide +kernel
theorem dX0_copyRow_4 : decode cX0_copyRow 4 = .ok (.istore 4, 2) := by decide +kernel
theorem dX0_copyRow_6 : decode cX0_copyRow 6 = .ok (.aload_n 2, 1) := by decide +kernel
theorem dX0_copyRow_7 : decode cX0_copyRow 7 = .ok (.getfield 15, 3) := by decide +kernel
theorem dX0_copyRow_10 : decode cX0_copyRow 10 = .ok (.iload 4, 2) := by decide +kernel
theorem dX0_copyRow_12 : decode cX0_copyRow 12 = .ok (.aload_n 0, 1) := by decide +kernel
theorem dX0_copyRow_13 : decode cX0_copyRow 13 = .ok (.getfield 15, 3) := by decide +kernel
theorem dX0_copyRow_16 : decode cX0_copyRow 16 = .ok (.iload_n 1, 1) := by decide +kernel
theorem dX0_copyRow_17 : decode cX0_copyRow 17 = .ok (.bipush 24, 2) := by decide +kernel
theorem dX0_copyRow_19 : decode cX0_copyRow 19 = .ok (.imul, 1) := by decide +kernel
theorem dX0_copyRow_20 : decode cX0_copyRow 20 = .ok (.bipush 24, 2) := by decide +kernel
theorem dX0_copyRow_22 : decode cX0_copyRow 22 = .ok (.invokestatic 35, 3) := by decide +kernel
theorem dX0_copyRow_25 : decode cX0_copyRow 25 = .ok (.aload_n 0, 1) := by decide +kernel
theorem dX0_copyRow_26 : decode cX0_copyRow 26 = .ok (.getfield 18, 3) := by decide +kernel
theorem dX0_copyRow_29 : decode cX0_copyRow 29 = .ok (.iload_n 1, 1) := by decide +kernel
theorem dX0_copyRow_30 : decode cX0_copyRow 30 = .ok (.aload_n 2, 1) := by decide +kernel
theorem dX0_copyRow_31 : decode cX0_copyRow 31 = .ok (.getfield 18, 3) := by decide +kernel
theorem dX0_copyRow_34 : decode cX0_copyRow 34 = .ok (.iload_n 3, 1) := by decide +kernel
theorem dX0_copyRow_35 : decode cX0_copyRow 35 = .ok (.iaload, 1) := by decide +kernel
theorem dX0_copyRow_36 : decode cX0_copyRow 36 = .ok (.iastore, 1) := by decide +kernel
theorem dX0_copyRow_37 : decode cX0_copyRow 37 = .ok (.return_, 1) := by decide +kernel
theorem dX0_rowIs_0 : decode cX0_rowIs 0 = .ok (.aload_n 0, 1) := by decide +kernel
theorem dX0_rowIs_1 : decode cX0_rowIs 1 = .ok (.getfield 18, 3) := by decide +kernel
theorem dX0_rowIs_4 : decode cX0_rowIs 4 = .ok (.iload_n 1, 1) := by decide +kernel
theorem dX0_rowIs_5 : decode cX0_rowIs 5 = .ok (.iaload, 1) := by decide +kernel
theorem dX0_rowIs_6 : decode cX0_rowIs 6 = .ok (.aload_n 2, 1) := by decide +kernel
theorem dX0_rowIs_7 : decode cX0_rowIs 7 = .ok (.getfield 18, 3) := by decide +kernel
theorem dX0_rowIs_10 : decode cX0_rowIs 10 = .ok (.iload_n 3, 1) := by decide +kernel
theorem dX0_rowIs_11 : decode cX0_rowIs 11 = .ok (.iaload, 1) := by decide +kernel
theorem dX0_rowIs_12 : decode cX0_rowIs 12 = .ok (.if_icmp .eq 5, 3) := by decide +kernel
theorem dX0_rowIs_15 : decode cX0_rowIs 15 = .ok (.iconst 0, 1) := by decide +kernel
theorem dX0_rowIs_16 : decode cX0_rowIs 16 = .ok (.ireturn, 1) := by decide +kernel
theorem dX0_rowIs_17 : decode cX0_rowIs 17 = .ok (.iconst 0, 1) := by decide +kernel
theorem dX0_rowIs_18 : decode cX0_rowIs 18 = .ok (.istore 4, 2) := by decide +kernel
theorem dX0_rowIs_20 : decode cX0_rowIs 20 = .ok (.iload 4, 2) := by decide +kernel
theorem dX0_rowIs_22 : decode cX0_rowIs 22 = .ok (.aload_n 0, 1) := by decide +kernel
theorem dX0_rowIs_23 : decode cX0_rowIs 23 = .ok (.getfield 18, 3) := by decide +kernel
theorem dX0_rowIs_26 : decode cX0_rowIs 26 = .ok (.iload_n 1, 1) := by decide +kernel
theorem dX0_rowIs_27 : decode cX0_rowIs 27 = .ok (.iaload, 1) := by decide +kernel
theorem dX0_rowIs_28 : decode cX0_rowIs 28 = .ok (.if_icmp .ge 28, 3) := by decide +kernel
theorem dX0_rowIs_31 : decode cX0_rowIs 31 = .ok (.aload_n 0, 1) := by decide +kernel
theorem dX0_rowIs_32 : decode cX0_rowIs 32 = .ok (.iload_n 1, 1) := by decide +kernel
theorem dX0_rowIs_33 : decode cX0_rowIs 33 = .ok (.iload 4, 2) := by decide +kernel
theorem dX0_rowIs_35 : decode cX0_rowIs 35 = .ok (.invokevirtual 69, 3) := by decide +kernel
theorem dX0_rowIs_38 : decode cX0_rowIs 38 = .ok (.aload_n 2, 1) := by decide +kernel
theorem dX0_rowIs_39 : decode cX0_rowIs 39 = .ok (.iload_n 3, 1) := by decide +kernel
theorem dX0_rowIs_40 : decode cX0_rowIs 40 = .ok (.iload 4, 2) := by decide +kernel
theorem dX0_rowIs_42 : decode cX0_rowIs 42 = .ok (.invokevirtual 69, 3) := by decide +kernel
theorem dX0_rowIs_45 : decode cX0_rowIs 45 = .ok (.if_icmp .eq 5, 3) := by decide +kernel
theorem dX0_rowIs_48 : decode cX0_rowIs 48 = .ok (.iconst 0, 1) := by decide +kernel
theorem dX0_rowIs_49 : decode cX0_rowIs 49 = .ok (.ireturn, 1) := by decide +kernel
theorem dX0_rowIs_50 : decode cX0_rowIs 50 = .ok (.iinc 4 1, 3) := by decide +kernel
theorem dX0_rowIs_53 : decode cX0_rowIs 53 = .ok (.goto (-33), 3) := by decide +kernel
theorem dX0_rowIs_56 : decode cX0_rowIs 56 = .ok (.iconst 1, 1) := by decide +kernel
theorem dX0_rowIs_57 : decode cX0_rowIs 57 = .ok (.ireturn, 1) := by decide +kernel
theorem dX0_hasAlts_0 : decode cX0_hasAlts 0 = .ok (.aload_n 0, 1) := by decide +kernel
theorem dX0_hasAlts_1 : decode cX0_hasAlts 1 = .ok (.getfield 41, 3) := by decide +kernel
theorem dX0_hasAlts_4 : decode cX0_hasAlts 4 = .ok (.iconst 1, 1) := by decide +kernel
theorem dX0_hasAlts_5 : decode cX0_hasAlts 5 = .ok (.if_icmp .le 7, 3) := by decide +kernel
theorem dX0_hasAlts_8 : decode cX0_hasAlts 8 = .ok (.iconst 1, 1) := by decide +kernel
theorem dX0_hasAlts_9 : decode cX0_hasAlts 9 = .ok (.goto 4, 3) := by decide +kernel
theorem dX0_hasAlts_12 : decode cX0_hasAlts 12 = .ok (.iconst 0, 1) := by decide +kernel
theorem dX0_hasAlts_13 : decode cX0_hasAlts 13 = .ok (.ireturn, 1) := by decide +kernel
theorem dX0_standsBehind_0 : decode cX0_standsBehind 0 = .ok (.aload_n 0, 1) := by decide +kernel
theorem dX0_standsBehind_1 : decode cX0_standsBehind 1 = .ok (.getfield 49, 3) := by decide +kernel
theorem dX0_standsBehind_4 : decode cX0_standsBehind 4 = .ok (.aload_n 1, 1) := by decide +kernel
theorem dX0_standsBehind_5 : decode cX0_standsBehind 5 = .ok (.getfield 49, 3) := by decide +kernel
theorem dX0_standsBehind_8 : decode cX0_standsBehind 8 = .ok (.if_icmp .gt 25, 3) := by decide +kernel
theorem dX0_standsBehind_11 : decode cX0_standsBehind 11 = .ok (.aload_n 0, 1) := by decide +kernel
theorem dX0_standsBehind_12 : decode cX0_standsBehind 12 = .ok (.getfield 49, 3) := by decide +kernel
theorem dX0_standsBehind_15 : decode cX0_standsBehind 15 = .ok (.aload_n 1, 1) := by decide +kernel
theorem dX0_standsBehind_16 : decode cX0_standsBehind 16 = .ok (.getfield 49, 3) := by decide +kernel
theorem dX0_standsBehind_19 : decode cX0_standsBehind 19 = .ok (.if_icmp .ne 18, 3) := by decide +kernel
theorem dX0_standsBehind_22 : decode cX0_standsBehind 22 = .ok (.aload_n 0, 1) := by decide +kernel
theorem dX0_standsBehind_23 : decode cX0_standsBehind 23 = .ok (.getfield 52, 3) := by decide +kernel
theorem dX0_standsBehind_26 : decode cX0_standsBehind 26 = .ok (.aload_n 1, 1) := by decide +kernel
theorem dX0_standsBehind_27 : decode cX0_standsBehind 27 = .ok (.getfield 52, 3) := by decide +kernel
theorem dX0_standsBehind_30 : decode cX0_standsBehind 30 = .ok (.if_icmp .le 7, 3) := by decide +kernel
theorem dX0_standsBehind_33 : decode cX0_standsBehind 33 = .ok (.iconst 1, 1) := by decide +kernel
theorem dX0_standsBehind_34 : decode cX0_standsBehind 34 = .ok (.goto 4, 3) := by decide +kernel
theorem dX0_standsBehind_37 : decode cX0_standsBehind 37 = .ok (.iconst 0, 1) := by decide +kernel
theorem dX0_standsBehind_38 : decode cX0_standsBehind 38 = .ok (.ireturn, 1) := by decide +kernel
theorem dX0_standsWith_0 : decode cX0_standsWith 0 = .ok (.aload_n 0, 1) := by decide +kernel
theorem dX0_standsWith_1 : decode cX0_standsWith 1 = .ok (.getfield 49, 3) := by decide +kernel
theorem dX0_standsWith_4 : decode cX0_standsWith 4 = .ok (.aload_n 1, 1) := by decide +kernel
theorem dX0_standsWith_5 : decode cX0_standsWith 5 = .ok (.getfield 49, 3) := by decide +kernel
theorem dX0_standsWith_8 : decode cX0_standsWith 8 = .ok (.if_icmp .ne 18, 3) := by decide +kernel
theorem dX0_standsWith_11 : decode cX0_standsWith 11 = .ok (.aload_n 0, 1) := by decide +kernel
theorem dX0_standsWith_12 : decode cX0_standsWith 12 = .ok (.getfield 52, 3) := by decide +kernel
theorem dX0_standsWith_15 : decode cX0_standsWith 15 = .ok (.aload_n 1, 1) := by decide +kernel
theorem dX0_standsWith_16 : decode cX0_standsWith 16 = .ok (.getfield 52, 3) := by decide +kernel
theorem dX0_standsWith_19 : decode cX0_standsWith 19 = .ok (.if_icmp .ne 7, 3) := by decide +kernel
theorem dX0_standsWith_22 : decode cX0_standsWith 22 = .ok (.iconst 1, 1) := by decide +kernel
theorem dX0_standsWith_23 : decode cX0_standsWith 23 = .ok (.goto 4, 3) := by decide +kernel
theorem dX0_standsWith_26 : decode cX0_standsWith 26 = .ok (.iconst 0, 1) := by decide +kernel
theorem dX0_standsWith_27 : decode cX0_standsWith 27 = .ok (.ireturn, 1) := by decide +kernel
theorem dX0_hasAllRowsOf_0 : decode cX0_hasAllRowsOf 0 = .ok (.aload_n 0, 1) := by decide +kernel
theorem dX0_hasAllRowsOf_1 : decode cX0_hasAllRowsOf 1 = .ok (.getfield 41, 3) := by decide +kernel
theorem dX0_hasAllRowsOf_4 : decode cX0_hasAllRowsOf 4 = .ok (.aload_n 1, 1) := by decide +kernel
theorem dX0_hasAllRowsOf_5 : decode cX0_hasAllRowsOf 5 = .ok (.getfield 41, 3) := by decide +kernel
theorem dX0_hasAllRowsOf_8 : decode cX0_hasAllRowsOf 8 = .ok (.if_icmp .eq 5, 3) := by decide +kernel
theorem dX0_hasAllRowsOf_11 : decode cX0_hasAllRowsOf 11 = .ok (.iconst 0, 1) := by decide +kernel
theorem dX0_hasAllRowsOf_12 : decode cX0_hasAllRowsOf 12 = .ok (.ireturn, 1) := by decide +kernel
theorem dX0_hasAllRowsOf_13 : decode cX0_hasAllRowsOf 13 = .ok (.iconst 0, 1) := by decide +kernel
theorem dX0_hasAllRowsOf_14 : decode cX0_hasAllRowsOf 14 = .ok (.istore_n 2, 1) := by decide +kernel
theorem dX0_hasAllRowsOf_15 : decode cX0_hasAllRowsOf 15 = .ok (.iload_n 2, 1) := by decide +kernel
theorem dX0_hasAllRowsOf_16 : decode cX0_hasAllRowsOf 16 = .ok (.aload_n 0, 1) := by decide +kernel
theorem dX0_hasAllRowsOf_17 : decode cX0_hasAllRowsOf 17 = .ok (.getfield 41, 3) := by decide +kernel
theorem dX0_hasAllRowsOf_20 : decode cX0_hasAllRowsOf 20 = .ok (.if_icmp .ge 21, 3) := by decide +kernel
theorem dX0_hasAllRowsOf_23 : decode cX0_hasAllRowsOf 23 = .ok (.aload_n 0, 1) := by decide +kernel
theorem dX0_hasAllRowsOf_24 : decode cX0_hasAllRowsOf 24 = .ok (.iload_n 2, 1) := by decide +kernel
theorem dX0_hasAllRowsOf_25 : decode cX0_hasAllRowsOf 25 = .ok (.aload_n 1, 1) := by decide +kernel
theorem dX0_hasAllRowsOf_26 : decode cX0_hasAllRowsOf 26 = .ok (.iload_n 2, 1) := by decide +kernel
theorem dX0_hasAllRowsOf_27 : decode cX0_hasAllRowsOf 27 = .ok (.invokevirtual 73, 3) := by decide +kernel
theorem dX0_hasAllRowsOf_30 : decode cX0_hasAllRowsOf 30 = .ok (.ifCond .ne 5, 3) := by decide +kernel
theorem dX0_hasAllRowsOf_33 : decode cX0_hasAllRowsOf 33 = .ok (.iconst 0, 1) := by decide +kernel
theorem dX0_hasAllRowsOf_34 : decode cX0_hasAllRowsOf 34 = .ok (.ireturn, 1) := by decide +kernel
theorem dX0_hasAllRowsOf_35 : decode cX0_hasAllRowsOf 35 = .ok (.iinc 2 1, 3) := by decide +kernel
theorem dX0_hasAllRowsOf_38 : decode cX0_hasAllRowsOf 38 = .ok (.goto (-23), 3) := by decide +kernel
theorem dX0_hasAllRowsOf_41 : decode cX0_hasAllRowsOf 41 = .ok (.iconst 1, 1) := by decide +kernel
theorem dX0_hasAllRowsOf_42 : decode cX0_hasAllRowsOf 42 = .ok (.ireturn, 1) := by decide +kernel
theorem dX0_makeNormal_0 : decode cX0_makeNormal 0 = .ok (.aload_n 0, 1) := by decide +kernel
theorem dX0_makeNormal_1 : decode cX0_makeNormal 1 = .ok (.invokevirtual 77, 3) := by decide +kernel
theorem dX0_makeNormal_4 : decode cX0_makeNormal 4 = .ok (.ifCond .ne 5, 3) := by decide +kernel
theorem dX0_makeNormal_7 : decode cX0_makeNormal 7 = .ok (.iconst 0, 1) := by decide +kernel
theorem dX0_makeNormal_8 : decode cX0_makeNormal 8 = .ok (.ireturn, 1) := by decide +kernel
theorem dX0_makeNormal_9 : decode cX0_makeNormal 9 = .ok (.aload_n 0, 1) := by decide +kernel
theorem dX0_makeNormal_10 : decode cX0_makeNormal 10 = .ok (.aload_n 1, 1) := by decide +kernel
theorem dX0_makeNormal_11 : decode cX0_makeNormal 11 = .ok (.invokevirtual 81, 3) := by decide +kernel
theorem dX0_makeNormal_14 : decode cX0_makeNormal 14 = .ok (.istore_n 2, 1) := by decide +kernel
theorem dX0_makeNormal_15 : decode cX0_makeNormal 15 = .ok (.aload_n 0, 1) := by decide +kernel
theorem dX0_makeNormal_16 : decode cX0_makeNormal 16 = .ok (.invokevirtual 85, 3) := by decide +kernel
theorem dX0_makeNormal_19 : decode cX0_makeNormal 19 = .ok (.iconst 1, 1) := by decide +kernel
theorem dX0_makeNormal_20 : decode cX0_makeNormal 20 = .ok (.if_icmp .ne 11, 3) := by decide +kernel
theorem dX0_makeNormal_23 : decode cX0_makeNormal 23 = .ok (.aload_n 0, 1) := by decide +kernel
theorem dX0_makeNormal_24 : decode cX0_makeNormal 24 = .ok (.aload_n 1, 1) := by decide +kernel
theorem dX0_makeNormal_25 : decode cX0_makeNormal 25 = .ok (.invokevirtual 89, 3) := by decide +kernel
theorem dX0_makeNormal_28 : decode cX0_makeNormal 28 = .ok (.goto 4, 3) := by decide +kernel
theorem dX0_makeNormal_31 : decode cX0_makeNormal 31 = .ok (.iconst 0, 1) := by decide +kernel
theorem dX0_makeNormal_32 : decode cX0_makeNormal 32 = .ok (.istore_n 3, 1) := by decide +kernel
theorem dX0_makeNormal_33 : decode cX0_makeNormal 33 = .ok (.aload_n 0, 1) := by decide +kernel
theorem dX0_makeNormal_34 : decode cX0_makeNormal 34 = .ok (.iload_n 3, 1) := by decide +kernel
theorem dX0_makeNormal_35 : decode cX0_makeNormal 35 = .ok (.aload_n 1, 1) := by decide +kernel
theorem dX0_makeNormal_36 : decode cX0_makeNormal 36 = .ok (.invokevirtual 92, 3) := by decide +kernel
theorem dX0_makeNormal_39 : decode cX0_makeNormal 39 = .ok (.aload_n 0, 1) := by decide +kernel
theorem dX0_makeNormal_40 : decode cX0_makeNormal 40 = .ok (.invokevirtual 96, 3) := by decide +kernel
theorem dX0_makeNormal_43 : decode cX0_makeNormal 43 = .ok (.istore 4, 2) := by decide +kernel
theorem dX0_makeNormal_45 : decode cX0_makeNormal 45 = .ok (.iload_n 2, 1) := by decide +kernel
theorem dX0_makeNormal_46 : decode cX0_makeNormal 46 = .ok (.iload_n 3, 1) := by decide +kernel
theorem dX0_makeNormal_47 : decode cX0_makeNormal 47 = .ok (.iadd, 1) := by decide +kernel
theorem dX0_makeNormal_48 : decode cX0_makeNormal 48 = .ok (.iload 4, 2) := by decide +kernel
theorem dX0_makeNormal_50 : decode cX0_makeNormal 50 = .ok (.iadd, 1) := by decide +kernel
theorem dX0_makeNormal_51 : decode cX0_makeNormal 51 = .ok (.ifCond .le 7, 3) := by decide +kernel
theorem dX0_makeNormal_54 : decode cX0_makeNormal 54 = .ok (.iconst 1, 1) := by decide +kernel
theorem dX0_makeNormal_55 : decode cX0_makeNormal 55 = .ok (.goto 4, 3) := by decide +kernel
theorem dX0_makeNormal_58 : decode cX0_makeNormal 58 = .ok (.iconst 0, 1) := by decide +kernel
theorem dX0_makeNormal_59 : decode cX0_makeNormal 59 = .ok (.ireturn, 1) := by decide +kernel
theorem dX0_shortestRow_0 : decode cX0_shortestRow 0 = .ok (.bipush 24, 2) := by decide +kernel
theorem dX0_shortestRow_2 : decode cX0_shortestRow 2 = .ok (.istore_n 1, 1) := by decide +kernel
theorem dX0_shortestRow_3 : decode cX0_shortestRow 3 = .ok (.iconst 0, 1) := by decide +kernel
theorem dX0_shortestRow_4 : decode cX0_shortestRow 4 = .ok (.istore_n 2, 1) := by decide +kernel
theorem dX0_shortestRow_5 : decode cX0_shortestRow 5 = .ok (.iload_n 2, 1) := by decide +kernel
theorem dX0_shortestRow_6 : decode cX0_shortestRow 6 = .ok (.aload_n 0, 1) := by decide +kernel
theorem dX0_shortestRow_7 : decode cX0_shortestRow 7 = .ok (.getfield 41, 3) := by decide +kernel
theorem dX0_shortestRow_10 : decode cX0_shortestRow 10 = .ok (.if_icmp .ge 20, 3) := by decide +kernel
theorem dX0_shortestRow_13 : decode cX0_shortestRow 13 = .ok (.iload_n 1, 1) := by decide +kernel
theorem dX0_shortestRow_14 : decode cX0_shortestRow 14 = .ok (.aload_n 0, 1) := by decide +kernel
theorem dX0_shortestRow_15 : decode cX0_shortestRow 15 = .ok (.getfield 18, 3) := by decide +kernel
theorem dX0_shortestRow_18 : decode cX0_shortestRow 18 = .ok (.iload_n 2, 1) := by decide +kernel
theorem dX0_shortestRow_19 : decode cX0_shortestRow 19 = .ok (.iaload, 1) := by decide +kernel
theorem dX0_shortestRow_20 : decode cX0_shortestRow 20 = .ok (.invokestatic 99, 3) := by decide +kernel
theorem dX0_shortestRow_23 : decode cX0_shortestRow 23 = .ok (.istore_n 1, 1) := by decide +kernel
theorem dX0_shortestRow_24 : decode cX0_shortestRow 24 = .ok (.iinc 2 1, 3) := by decide +kernel
theorem dX0_shortestRow_27 : decode cX0_shortestRow 27 = .ok (.goto (-22), 3) := by decide +kernel
theorem dX0_shortestRow_30 : decode cX0_shortestRow 30 = .ok (.iload_n 1, 1) := by decide +kernel
theorem dX0_shortestRow_31 : decode cX0_shortestRow 31 = .ok (.ireturn, 1) := by decide +kernel
theorem dX0_cutEnds_0 : decode cX0_cutEnds 0 = .ok (.aload_n 0, 1) := by decide +kernel
theorem dX0_cutEnds_1 : decode cX0_cutEnds 1 = .ok (.invokevirtual 85, 3) := by decide +kernel
theorem dX0_cutEnds_4 : decode cX0_cutEnds 4 = .ok (.iconst 1, 1) := by decide +kernel
theorem dX0_cutEnds_5 : decode cX0_cutEnds 5 = .ok (.isub, 1) := by decide +kernel
theorem dX0_cutEnds_6 : decode cX0_cutEnds 6 = .ok (.istore_n 2, 1) := by decide +kernel
theorem dX0_cutEnds_7 : decode cX0_cutEnds 7 = .ok (.iconst 0, 1) := by decide +kernel
theorem dX0_cutEnds_8 : decode cX0_cutEnds 8 = .ok (.istore_n 3, 1) := by decide +kernel
theorem dX0_cutEnds_9 : decode cX0_cutEnds 9 = .ok (.iload_n 3, 1) := by decide +kernel
theorem dX0_cutEnds_10 : decode cX0_cutEnds 10 = .ok (.iload_n 2, 1) := by decide +kernel
theorem dX0_cutEnds_11 : decode cX0_cutEnds 11 = .ok (.if_icmp .ge 47, 3) := by decide +kernel
theorem dX0_cutEnds_14 : decode cX0_cutEnds 14 = .ok (.aload_n 0, 1) := by decide +kernel
theorem dX0_cutEnds_15 : decode cX0_cutEnds 15 = .ok (.iconst 0, 1) := by decide +kernel
theorem dX0_cutEnds_16 : decode cX0_cutEnds 16 = .ok (.aload_n 1, 1) := by decide +kernel
theorem dX0_cutEnds_17 : decode cX0_cutEnds 17 = .ok (.invokevirtual 104, 3) := by decide +kernel
theorem dX0_cutEnds_20 : decode cX0_cutEnds 20 = .ok (.ifCond .eq 38, 3) := by decide +kernel
theorem dX0_cutEnds_23 : decode cX0_cutEnds 23 = .ok (.iconst 0, 1) := by decide +kernel
theorem dX0_cutEnds_24 : decode cX0_cutEnds 24 = .ok (.istore 4, 2) := by decide +kernel
theorem dX0_cutEnds_26 : decode cX0_cutEnds 26 = .ok (.iload 4, 2) := by decide +kernel
theorem dX0_cutEnds_28 : decode cX0_cutEnds 28 = .ok (.aload_n 0, 1) := by decide +kernel
theorem dX0_cutEnds_29 : decode cX0_cutEnds 29 = .ok (.getfield 41, 3) := by decide +kernel
theorem dX0_cutEnds_32 : decode cX0_cutEnds 32 = .ok (.if_icmp .ge 20, 3) := by decide +kernel
theorem dX0_cutEnds_35 : decode cX0_cutEnds 35 = .ok (.aload_n 0, 1) := by decide +kernel
theorem dX0_cutEnds_36 : decode cX0_cutEnds 36 = .ok (.getfield 18, 3) := by decide +kernel
theorem dX0_cutEnds_39 : decode cX0_cutEnds 39 = .ok (.iload 4, 2) := by decide +kernel
theorem dX0_cutEnds_41 : decode cX0_cutEnds 41 = .ok (.dup2, 1) := by decide +kernel
theorem dX0_cutEnds_42 : decode cX0_cutEnds 42 = .ok (.iaload, 1) := by decide +kernel
theorem dX0_cutEnds_43 : decode cX0_cutEnds 43 = .ok (.iconst 1, 1) := by decide +kernel
theorem dX0_cutEnds_44 : decode cX0_cutEnds 44 = .ok (.isub, 1) := by decide +kernel
theorem dX0_cutEnds_45 : decode cX0_cutEnds 45 = .ok (.iastore, 1) := by decide +kernel
theorem dX0_cutEnds_46 : decode cX0_cutEnds 46 = .ok (.iinc 4 1, 3) := by decide +kernel
theorem dX0_cutEnds_49 : decode cX0_cutEnds 49 = .ok (.goto (-23), 3) := by decide +kernel
theorem dX0_cutEnds_52 : decode cX0_cutEnds 52 = .ok (.iinc 3 1, 3) := by decide +kernel
theorem dX0_cutEnds_55 : decode cX0_cutEnds 55 = .ok (.goto (-46), 3) := by decide +kernel
theorem dX0_cutEnds_58 : decode cX0_cutEnds 58 = .ok (.iload_n 3, 1) := by decide +kernel
theorem dX0_cutEnds_59 : decode cX0_cutEnds 59 = .ok (.ireturn, 1) := by decide +kernel
theorem dX0_stepsToLeft_0 : decode cX0_stepsToLeft 0 = .ok (.iconst 0, 1) := by decide +kernel
theorem dX0_stepsToLeft_1 : decode cX0_stepsToLeft 1 = .ok (.istore_n 2, 1) := by decide +kernel
theorem dX0_stepsToLeft_2 : decode cX0_stepsToLeft 2 = .ok (.iload_n 2, 1) := by decide +kernel
theorem dX0_stepsToLeft_3 : decode cX0_stepsToLeft 3 = .ok (.aload_n 0, 1) := by decide +kernel
theorem dX0_stepsToLeft_4 : decode cX0_stepsToLeft 4 = .ok (.getfield 52, 3) := by decide +kernel
theorem dX0_stepsToLeft_7 : decode cX0_stepsToLeft 7 = .ok (.iconst 1, 1) := by decide +kernel
theorem dX0_stepsToLeft_8 : decode cX0_stepsToLeft 8 = .ok (.isub, 1) := by decide +kernel
theorem dX0_stepsToLeft_9 : decode cX0_stepsToLeft 9 = .ok (.if_icmp .ge 18, 3) := by decide +kernel
theorem dX0_stepsToLeft_12 : decode cX0_stepsToLeft 12 = .ok (.aload_n 0, 1) := by decide +kernel
theorem dX0_stepsToLeft_13 : decode cX0_stepsToLeft 13 = .ok (.iload_n 2, 1) := by decide +kernel
theorem dX0_stepsToLeft_14 : decode cX0_stepsToLeft 14 = .ok (.aload_n 1, 1) := by decide +kernel
theorem dX0_stepsToLeft_15 : decode cX0_stepsToLeft 15 = .ok (.invokevirtual 104, 3) := by decide +kernel
theorem dX0_stepsToLeft_18 : decode cX0_stepsToLeft 18 = .ok (.ifCond .eq 9, 3) := by decide +kernel
theorem dX0_stepsToLeft_21 : decode cX0_stepsToLeft 21 = .ok (.iinc 2 1, 3) := by decide +kernel
theorem dX0_stepsToLeft_24 : decode cX0_stepsToLeft 24 = .ok (.goto (-22), 3) := by decide +kernel
theorem dX0_stepsToLeft_27 : decode cX0_stepsToLeft 27 = .ok (.iload_n 2, 1) := by decide +kernel
theorem dX0_stepsToLeft_28 : decode cX0_stepsToLeft 28 = .ok (.ireturn, 1) := by decide +kernel
theorem dX0_endAlikeAfter_0 : decode cX0_endAlikeAfter 0 = .ok (.aload_n 0, 1) := by decide +kernel
theorem dX0_endAlikeAfter_1 : decode cX0_endAlikeAfter 1 = .ok (.iconst 0, 1) := by decide +kernel
theorem dX0_endAlikeAfter_2 : decode cX0_endAlikeAfter 2 = .ok (.aload_n 0, 1) := by decide +kernel
theorem dX0_endAlikeAfter_3 : decode cX0_endAlikeAfter 3 = .ok (.getfield 18, 3) := by decide +kernel
theorem dX0_endAlikeAfter_6 : decode cX0_endAlikeAfter 6 = .ok (.iconst 0, 1) := by decide +kernel
theorem dX0_endAlikeAfter_7 : decode cX0_endAlikeAfter 7 = .ok (.iaload, 1) := by decide +kernel
theorem dX0_endAlikeAfter_8 : decode cX0_endAlikeAfter 8 = .ok (.iconst 1, 1) := by decide +kernel
theorem dX0_endAlikeAfter_9 : decode cX0_endAlikeAfter 9 = .ok (.isub, 1) := by decide +kernel
theorem dX0_endAlikeAfter_10 : decode cX0_endAlikeAfter 10 = .ok (.iload_n 1, 1) := by decide +kernel
theorem dX0_endAlikeAfter_11 : decode cX0_endAlikeAfter 11 = .ok (.aload_n 2, 1) := by decide +kernel
theorem dX0_endAlikeAfter_12 : decode cX0_endAlikeAfter 12 = .ok (.invokevirtual 108, 3) := by decide +kernel
theorem dX0_endAlikeAfter_15 : decode cX0_endAlikeAfter 15 = .ok (.istore_n 3, 1) := by decide +kernel
theorem dX0_endAlikeAfter_16 : decode cX0_endAlikeAfter 16 = .ok (.iconst 1, 1) := by decide +kernel
theorem dX0_endAlikeAfter_17 : decode cX0_endAlikeAfter 17 = .ok (.istore 4, 2) := by decide +kernel
theorem dX0_endAlikeAfter_19 : decode cX0_endAlikeAfter 19 = .ok (.iload 4, 2) := by decide +kernel
theorem dX0_endAlikeAfter_21 : decode cX0_endAlikeAfter 21 = .ok (.aload_n 0, 1) := by decide +kernel
theorem dX0_endAlikeAfter_22 : decode cX0_endAlikeAfter 22 = .ok (.getfield 41, 3) := by decide +kernel
theorem dX0_endAlikeAfter_25 : decode cX0_endAlikeAfter 25 = .ok (.if_icmp .ge 32, 3) := by decide +kernel
theorem dX0_endAlikeAfter_28 : decode cX0_endAlikeAfter 28 = .ok (.aload_n 0, 1) := by decide +kernel
theorem dX0_endAlikeAfter_29 : decode cX0_endAlikeAfter 29 = .ok (.iload 4, 2) := by decide +kernel
theorem dX0_endAlikeAfter_31 : decode cX0_endAlikeAfter 31 = .ok (.aload_n 0, 1) := by decide +kernel
theorem dX0_endAlikeAfter_32 : decode cX0_endAlikeAfter 32 = .ok (.getfield 18, 3) := by decide +kernel
theorem dX0_endAlikeAfter_35 : decode cX0_endAlikeAfter 35 = .ok (.iload 4, 2) := by decide +kernel
theorem dX0_endAlikeAfter_37 : decode cX0_endAlikeAfter 37 = .ok (.iaload, 1) := by decide +kernel
theorem dX0_endAlikeAfter_38 : decode cX0_endAlikeAfter 38 = .ok (.iconst 1, 1) := by decide +kernel
theorem dX0_endAlikeAfter_39 : decode cX0_endAlikeAfter 39 = .ok (.isub, 1) := by decide +kernel
theorem dX0_endAlikeAfter_40 : decode cX0_endAlikeAfter 40 = .ok (.iload_n 1, 1) := by decide +kernel
theorem dX0_endAlikeAfter_41 : decode cX0_endAlikeAfter 41 = .ok (.aload_n 2, 1) := by decide +kernel
theorem dX0_endAlikeAfter_42 : decode cX0_endAlikeAfter 42 = .ok (.invokevirtual 108, 3) := by decide +kernel
theorem dX0_endAlikeAfter_45 : decode cX0_endAlikeAfter 45 = .ok (.iload_n 3, 1) := by decide +kernel
theorem dX0_endAlikeAfter_46 : decode cX0_endAlikeAfter 46 = .ok (.if_icmp .eq 5, 3) := by decide +kernel
theorem dX0_endAlikeAfter_49 : decode cX0_endAlikeAfter 49 = .ok (.iconst 0, 1) := by decide +kernel
theorem dX0_endAlikeAfter_50 : decode cX0_endAlikeAfter 50 = .ok (.ireturn, 1) := by decide +kernel
theorem dX0_endAlikeAfter_51 : decode cX0_endAlikeAfter 51 = .ok (.iinc 4 1, 3) := by decide +kernel
theorem dX0_endAlikeAfter_54 : decode cX0_endAlikeAfter 54 = .ok (.goto (-35), 3) := by decide +kernel
theorem dX0_endAlikeAfter_57 : decode cX0_endAlikeAfter 57 = .ok (.iconst 1, 1) := by decide +kernel
theorem dX0_endAlikeAfter_58 : decode cX0_endAlikeAfter 58 = .ok (.ireturn, 1) := by decide +kernel
theorem dX0_movedLetter_0 : decode cX0_movedLetter 0 = .ok (.iload_n 2, 1) := by decide +kernel
theorem dX0_movedLetter_1 : decode cX0_movedLetter 1 = .ok (.iload_n 3, 1) := by decide +kernel
theorem dX0_movedLetter_2 : decode cX0_movedLetter 2 = .ok (.if_icmp .ge 23, 3) := by decide +kernel
theorem dX0_movedLetter_5 : decode cX0_movedLetter 5 = .ok (.aload 4, 2) := by decide +kernel
theorem dX0_movedLetter_7 : decode cX0_movedLetter 7 = .ok (.aload_n 0, 1) := by decide +kernel
theorem dX0_movedLetter_8 : decode cX0_movedLetter 8 = .ok (.getfield 49, 3) := by decide +kernel
theorem dX0_movedLetter_11 : decode cX0_movedLetter 11 = .ok (.aload_n 0, 1) := by decide +kernel
theorem dX0_movedLetter_12 : decode cX0_movedLetter 12 = .ok (.getfield 52, 3) := by decide +kernel
theorem dX0_movedLetter_15 : decode cX0_movedLetter 15 = .ok (.iload_n 3, 1) := by decide +kernel
theorem dX0_movedLetter_16 : decode cX0_movedLetter 16 = .ok (.isub, 1) := by decide +kernel
theorem dX0_movedLetter_17 : decode cX0_movedLetter 17 = .ok (.iload_n 2, 1) := by decide +kernel
theorem dX0_movedLetter_18 : decode cX0_movedLetter 18 = .ok (.iadd, 1) := by decide +kernel
theorem dX0_movedLetter_19 : decode cX0_movedLetter 19 = .ok (.invokevirtual 112, 3) := by decide +kernel
theorem dX0_movedLetter_22 : decode cX0_movedLetter 22 = .ok (.goto 11, 3) := by decide +kernel
theorem dX0_movedLetter_25 : decode cX0_movedLetter 25 = .ok (.aload_n 0, 1) := by decide +kernel
theorem dX0_movedLetter_26 : decode cX0_movedLetter 26 = .ok (.iload_n 1, 1) := by decide +kernel
theorem dX0_movedLetter_27 : decode cX0_movedLetter 27 = .ok (.iload_n 2, 1) := by decide +kernel
theorem dX0_movedLetter_28 : decode cX0_movedLetter 28 = .ok (.iload_n 3, 1) := by decide +kernel
theorem dX0_movedLetter_29 : decode cX0_movedLetter 29 = .ok (.isub, 1) := by decide +kernel
theorem dX0_movedLetter_30 : decode cX0_movedLetter 30 = .ok (.invokevirtual 69, 3) := by decide +kernel
theorem dX0_movedLetter_33 : decode cX0_movedLetter 33 = .ok (.ireturn, 1) := by decide +kernel
theorem dX0_moveLeft_0 : decode cX0_moveLeft 0 = .ok (.iconst 0, 1) := by decide +kernel
theorem dX0_moveLeft_1 : decode cX0_moveLeft 1 = .ok (.istore_n 3, 1) := by decide +kernel
theorem dX0_moveLeft_2 : decode cX0_moveLeft 2 = .ok (.iload_n 3, 1) := by decide +kernel
theorem dX0_moveLeft_3 : decode cX0_moveLeft 3 = .ok (.aload_n 0, 1) := by decide +kernel
theorem dX0_moveLeft_4 : decode cX0_moveLeft 4 = .ok (.getfield 41, 3) := by decide +kernel
theorem dX0_moveLeft_7 : decode cX0_moveLeft 7 = .ok (.if_icmp .ge 51, 3) := by decide +kernel
theorem dX0_moveLeft_10 : decode cX0_moveLeft 10 = .ok (.aload_n 0, 1) := by decide +kernel
theorem dX0_moveLeft_11 : decode cX0_moveLeft 11 = .ok (.getfield 18, 3) := by decide +kernel
theorem dX0_moveLeft_14 : decode cX0_moveLeft 14 = .ok (.iload_n 3, 1) := by decide +kernel
theorem dX0_moveLeft_15 : decode cX0_moveLeft 15 = .ok (.iaload, 1) := by decide +kernel
theorem dX0_moveLeft_16 : decode cX0_moveLeft 16 = .ok (.iconst 1, 1) := by decide +kernel
theorem dX0_moveLeft_17 : decode cX0_moveLeft 17 = .ok (.isub, 1) := by decide +kernel
theorem dX0_moveLeft_18 : decode cX0_moveLeft 18 = .ok (.istore 4, 2) := by decide +kernel
theorem dX0_moveLeft_20 : decode cX0_moveLeft 20 = .ok (.iload 4, 2) := by decide +kernel
theorem dX0_moveLeft_22 : decode cX0_moveLeft 22 = .ok (.ifCond .lt 30, 3) := by decide +kernel
theorem dX0_moveLeft_25 : decode cX0_moveLeft 25 = .ok (.aload_n 0, 1) := by decide +kernel
theorem dX0_moveLeft_26 : decode cX0_moveLeft 26 = .ok (.getfield 15, 3) := by decide +kernel
theorem dX0_moveLeft_29 : decode cX0_moveLeft 29 = .ok (.iload_n 3, 1) := by decide +kernel
theorem dX0_moveLeft_30 : decode cX0_moveLeft 30 = .ok (.bipush 24, 2) := by decide +kernel
theorem dX0_moveLeft_32 : decode cX0_moveLeft 32 = .ok (.imul, 1) := by decide +kernel
theorem dX0_moveLeft_33 : decode cX0_moveLeft 33 = .ok (.iload 4, 2) := by decide +kernel
theorem dX0_moveLeft_35 : decode cX0_moveLeft 35 = .ok (.iadd, 1) := by decide +kernel
theorem dX0_moveLeft_36 : decode cX0_moveLeft 36 = .ok (.aload_n 0, 1) := by decide +kernel
theorem dX0_moveLeft_37 : decode cX0_moveLeft 37 = .ok (.iload_n 3, 1) := by decide +kernel
theorem dX0_moveLeft_38 : decode cX0_moveLeft 38 = .ok (.iload 4, 2) := by decide +kernel
theorem dX0_moveLeft_40 : decode cX0_moveLeft 40 = .ok (.iload_n 1, 1) := by decide +kernel
theorem dX0_moveLeft_41 : decode cX0_moveLeft 41 = .ok (.aload_n 2, 1) := by decide +kernel
theorem dX0_moveLeft_42 : decode cX0_moveLeft 42 = .ok (.invokevirtual 108, 3) := by decide +kernel
theorem dX0_moveLeft_45 : decode cX0_moveLeft 45 = .ok (.iastore, 1) := by decide +kernel
theorem dX0_moveLeft_46 : decode cX0_moveLeft 46 = .ok (.iinc 4 (-1), 3) := by decide +kernel
theorem dX0_moveLeft_49 : decode cX0_moveLeft 49 = .ok (.goto (-29), 3) := by decide +kernel
theorem dX0_moveLeft_52 : decode cX0_moveLeft 52 = .ok (.iinc 3 1, 3) := by decide +kernel
theorem dX0_moveLeft_55 : decode cX0_moveLeft 55 = .ok (.goto (-53), 3) := by decide +kernel
theorem dX0_moveLeft_58 : decode cX0_moveLeft 58 = .ok (.aload_n 0, 1) := by decide +kernel
theorem dX0_moveLeft_59 : decode cX0_moveLeft 59 = .ok (.dup, 1) := by decide +kernel
theorem dX0_moveLeft_60 : decode cX0_moveLeft 60 = .ok (.getfield 52, 3) := by decide +kernel
theorem dX0_moveLeft_63 : decode cX0_moveLeft 63 = .ok (.iload_n 1, 1) := by decide +kernel
theorem dX0_moveLeft_64 : decode cX0_moveLeft 64 = .ok (.isub, 1) := by decide +kernel
theorem dX0_moveLeft_65 : decode cX0_moveLeft 65 = .ok (.putfield 52, 3) := by decide +kernel
theorem dX0_moveLeft_68 : decode cX0_moveLeft 68 = .ok (.return_, 1) := by decide +kernel
theorem dX0_cutBeginnings_0 : decode cX0_cutBeginnings 0 = .ok (.aload_n 0, 1) := by decide +kernel
theorem dX0_cutBeginnings_1 : decode cX0_cutBeginnings 1 = .ok (.invokevirtual 85, 3) := by decide +kernel
theorem dX0_cutBeginnings_4 : decode cX0_cutBeginnings 4 = .ok (.iconst 1, 1) := by decide +kernel
theorem dX0_cutBeginnings_5 : decode cX0_cutBeginnings 5 = .ok (.isub, 1) := by decide +kernel
theorem dX0_cutBeginnings_6 : decode cX0_cutBeginnings 6 = .ok (.istore_n 1, 1) := by decide +kernel
theorem dX0_cutBeginnings_7 : decode cX0_cutBeginnings 7 = .ok (.iconst 0, 1) := by decide +kernel
theorem dX0_cutBeginnings_8 : decode cX0_cutBeginnings 8 = .ok (.istore_n 2, 1) := by decide +kernel
theorem dX0_cutBeginnings_9 : decode cX0_cutBeginnings 9 = .ok (.iload_n 2, 1) := by decide +kernel
theorem dX0_cutBeginnings_10 : decode cX0_cutBeginnings 10 = .ok (.iload_n 1, 1) := by decide +kernel
theorem dX0_cutBeginnings_11 : decode cX0_cutBeginnings 11 = .ok (.if_icmp .ge 17, 3) := by decide +kernel
theorem dX0_cutBeginnings_14 : decode cX0_cutBeginnings 14 = .ok (.aload_n 0, 1) := by decide +kernel
theorem dX0_cutBeginnings_15 : decode cX0_cutBeginnings 15 = .ok (.iload_n 2, 1) := by decide +kernel
theorem dX0_cutBeginnings_16 : decode cX0_cutBeginnings 16 = .ok (.invokevirtual 115, 3) := by decide +kernel
theorem dX0_cutBeginnings_19 : decode cX0_cutBeginnings 19 = .ok (.ifCond .eq 9, 3) := by decide +kernel
theorem dX0_cutBeginnings_22 : decode cX0_cutBeginnings 22 = .ok (.iinc 2 1, 3) := by decide +kernel
theorem dX0_cutBeginnings_25 : decode cX0_cutBeginnings 25 = .ok (.goto (-16), 3) := by decide +kernel
theorem dX0_cutBeginnings_28 : decode cX0_cutBeginnings 28 = .ok (.iconst 0, 1) := by decide +kernel
theorem dX0_cutBeginnings_29 : decode cX0_cutBeginnings 29 = .ok (.istore_n 3, 1) := by decide +kernel
theorem dX0_cutBeginnings_30 : decode cX0_cutBeginnings 30 = .ok (.iload_n 3, 1) := by decide +kernel
theorem dX0_cutBeginnings_31 : decode cX0_cutBeginnings 31 = .ok (.aload_n 0, 1) := by decide +kernel
theorem dX0_cutBeginnings_32 : decode cX0_cutBeginnings 32 = .ok (.getfield 41, 3) := by decide +kernel
theorem dX0_cutBeginnings_35 : decode cX0_cutBeginnings 35 = .ok (.if_icmp .ge 57, 3) := by decide +kernel
theorem dX0_cutBeginnings_38 : decode cX0_cutBeginnings 38 = .ok (.aload_n 0, 1) := by decide +kernel
theorem dX0_cutBeginnings_39 : decode cX0_cutBeginnings 39 = .ok (.getfield 18, 3) := by decide +kernel
theorem dX0_cutBeginnings_42 : decode cX0_cutBeginnings 42 = .ok (.iload_n 3, 1) := by decide +kernel
theorem dX0_cutBeginnings_43 : decode cX0_cutBeginnings 43 = .ok (.iaload, 1) := by decide +kernel
theorem dX0_cutBeginnings_44 : decode cX0_cutBeginnings 44 = .ok (.istore 4, 2) := by decide +kernel
theorem dX0_cutBeginnings_46 : decode cX0_cutBeginnings 46 = .ok (.aload_n 0, 1) := by decide +kernel
theorem dX0_cutBeginnings_47 : decode cX0_cutBeginnings 47 = .ok (.getfield 18, 3) := by decide +kernel
theorem dX0_cutBeginnings_50 : decode cX0_cutBeginnings 50 = .ok (.iload_n 3, 1) := by decide +kernel
theorem dX0_cutBeginnings_51 : decode cX0_cutBeginnings 51 = .ok (.iconst 0, 1) := by decide +kernel
theorem dX0_cutBeginnings_52 : decode cX0_cutBeginnings 52 = .ok (.iastore, 1) := by decide +kernel
theorem dX0_cutBeginnings_53 : decode cX0_cutBeginnings 53 = .ok (.iload_n 2, 1) := by decide +kernel
theorem dX0_cutBeginnings_54 : decode cX0_cutBeginnings 54 = .ok (.istore 5, 2) := by decide +kernel
theorem dX0_cutBeginnings_56 : decode cX0_cutBeginnings 56 = .ok (.iload 5, 2) := by decide +kernel
theorem dX0_cutBeginnings_58 : decode cX0_cutBeginnings 58 = .ok (.iload 4, 2) := by decide +kernel
theorem dX0_cutBeginnings_60 : decode cX0_cutBeginnings 60 = .ok (.if_icmp .ge 26, 3) := by decide +kernel
theorem dX0_cutBeginnings_63 : decode cX0_cutBeginnings 63 = .ok (.aload_n 0, 1) := by decide +kernel
theorem dX0_cutBeginnings_64 : decode cX0_cutBeginnings 64 = .ok (.iload_n 3, 1) := by decide +kernel
theorem dX0_cutBeginnings_65 : decode cX0_cutBeginnings 65 = .ok (.aload_n 0, 1) := by decide +kernel
theorem dX0_cutBeginnings_66 : decode cX0_cutBeginnings 66 = .ok (.getfield 15, 3) := by decide +kernel
theorem dX0_cutBeginnings_69 : decode cX0_cutBeginnings 69 = .ok (.iload_n 3, 1) := by decide +kernel
theorem dX0_cutBeginnings_70 : decode cX0_cutBeginnings 70 = .ok (.bipush 24, 2) := by decide +kernel
theorem dX0_cutBeginnings_72 : decode cX0_cutBeginnings 72 = .ok (.imul, 1) := by decide +kernel
theorem dX0_cutBeginnings_73 : decode cX0_cutBeginnings 73 = .ok (.iload 5, 2) := by decide +kernel
theorem dX0_cutBeginnings_75 : decode cX0_cutBeginnings 75 = .ok (.iadd, 1) := by decide +kernel
theorem dX0_cutBeginnings_76 : decode cX0_cutBeginnings 76 = .ok (.iaload, 1) := by decide +kernel
theorem dX0_cutBeginnings_77 : decode cX0_cutBeginnings 77 = .ok (.invokevirtual 119, 3) := by decide +kernel
theorem dX0_cutBeginnings_80 : decode cX0_cutBeginnings 80 = .ok (.iinc 5 1, 3) := by decide +kernel
theorem dX0_cutBeginnings_83 : decode cX0_cutBeginnings 83 = .ok (.goto (-27), 3) := by decide +kernel
theorem dX0_cutBeginnings_86 : decode cX0_cutBeginnings 86 = .ok (.iinc 3 1, 3) := by decide +kernel
theorem dX0_cutBeginnings_89 : decode cX0_cutBeginnings 89 = .ok (.goto (-59), 3) := by decide +kernel
theorem dX0_cutBeginnings_92 : decode cX0_cutBeginnings 92 = .ok (.aload_n 0, 1) := by decide +kernel
theorem dX0_cutBeginnings_93 : decode cX0_cutBeginnings 93 = .ok (.dup, 1) := by decide +kernel
theorem dX0_cutBeginnings_94 : decode cX0_cutBeginnings 94 = .ok (.getfield 52, 3) := by decide +kernel
theorem dX0_cutBeginnings_97 : decode cX0_cutBeginnings 97 = .ok (.iload_n 2, 1) := by decide +kernel
theorem dX0_cutBeginnings_98 : decode cX0_cutBeginnings 98 = .ok (.iadd, 1) := by decide +kernel
theorem dX0_cutBeginnings_99 : decode cX0_cutBeginnings 99 = .ok (.putfield 52, 3) := by decide +kernel
theorem dX0_cutBeginnings_102 : decode cX0_cutBeginnings 102 = .ok (.iload_n 2, 1) := by decide +kernel
theorem dX0_cutBeginnings_103 : decode cX0_cutBeginnings 103 = .ok (.ireturn, 1) := by decide +kernel
theorem dX0_alikeAt_0 : decode cX0_alikeAt 0 = .ok (.iconst 1, 1) := by decide +kernel
theorem dX0_alikeAt_1 : decode cX0_alikeAt 1 = .ok (.istore_n 2, 1) := by decide +kernel
theorem dX0_alikeAt_2 : decode cX0_alikeAt 2 = .ok (.iload_n 2, 1) := by decide +kernel
theorem dX0_alikeAt_3 : decode cX0_alikeAt 3 = .ok (.aload_n 0, 1) := by decide +kernel
theorem dX0_alikeAt_4 : decode cX0_alikeAt 4 = .ok (.getfield 41, 3) := by decide +kernel
theorem dX0_alikeAt_7 : decode cX0_alikeAt 7 = .ok (.if_icmp .ge 26, 3) := by decide +kernel
theorem dX0_alikeAt_10 : decode cX0_alikeAt 10 = .ok (.aload_n 0, 1) := by decide +kernel
theorem dX0_alikeAt_11 : decode cX0_alikeAt 11 = .ok (.iload_n 2, 1) := by decide +kernel
theorem dX0_alikeAt_12 : decode cX0_alikeAt 12 = .ok (.iload_n 1, 1) := by decide +kernel
theorem dX0_alikeAt_13 : decode cX0_alikeAt 13 = .ok (.invokevirtual 69, 3) := by decide +kernel
theorem dX0_alikeAt_16 : decode cX0_alikeAt 16 = .ok (.aload_n 0, 1) := by decide +kernel
theorem dX0_alikeAt_17 : decode cX0_alikeAt 17 = .ok (.iconst 0, 1) := by decide +kernel
theorem dX0_alikeAt_18 : decode cX0_alikeAt 18 = .ok (.iload_n 1, 1) := by decide +kernel
theorem dX0_alikeAt_19 : decode cX0_alikeAt 19 = .ok (.invokevirtual 69, 3) := by decide +kernel
theorem dX0_alikeAt_22 : decode cX0_alikeAt 22 = .ok (.if_icmp .eq 5, 3) := by decide +kernel
theorem dX0_alikeAt_25 : decode cX0_alikeAt 25 = .ok (.iconst 0, 1) := by decide +kernel
theorem dX0_alikeAt_26 : decode cX0_alikeAt 26 = .ok (.ireturn, 1) := by decide +kernel
theorem dX0_alikeAt_27 : decode cX0_alikeAt 27 = .ok (.iinc 2 1, 3) := by decide +kernel
theorem dX0_alikeAt_30 : decode cX0_alikeAt 30 = .ok (.goto (-28), 3) := by decide +kernel
theorem dX0_alikeAt_33 : decode cX0_alikeAt 33 = .ok (.iconst 1, 1) := by decide +kernel
theorem dX0_alikeAt_34 : decode cX0_alikeAt 34 = .ok (.ireturn, 1) := by decide +kernel
theorem dX0_takeAlt_0 : decode cX0_takeAlt 0 = .ok (.aload_n 0, 1) := by decide +kernel
theorem dX0_takeAlt_1 : decode cX0_takeAlt 1 = .ok (.aload_n 1, 1) := by decide +kernel
theorem dX0_takeAlt_2 : decode cX0_takeAlt 2 = .ok (.invokevirtual 123, 3) := by decide +kernel
theorem dX0_takeAlt_5 : decode cX0_takeAlt 5 = .ok (.aload_n 0, 1) := by decide +kernel
theorem dX0_takeAlt_6 : decode cX0_takeAlt 6 = .ok (.iconst 1, 1) := by decide +kernel
theorem dX0_takeAlt_7 : decode cX0_takeAlt 7 = .ok (.aload_n 1, 1) := by decide +kernel
theorem dX0_takeAlt_8 : decode cX0_takeAlt 8 = .ok (.iload_n 2, 1) := by decide +kernel
theorem dX0_takeAlt_9 : decode cX0_takeAlt 9 = .ok (.invokevirtual 126, 3) := by decide +kernel
theorem dX0_takeAlt_12 : decode cX0_takeAlt 12 = .ok (.aload_n 0, 1) := by decide +kernel
theorem dX0_takeAlt_13 : decode cX0_takeAlt 13 = .ok (.iconst 2, 1) := by decide +kernel
theorem dX0_takeAlt_14 : decode cX0_takeAlt 14 = .ok (.putfield 41, 3) := by decide +kernel
theorem dX0_takeAlt_17 : decode cX0_takeAlt 17 = .ok (.iconst 0, 1) := by decide +kernel
theorem dX0_takeAlt_18 : decode cX0_takeAlt 18 = .ok (.istore 4, 2) := by decide +kernel
theorem dX0_takeAlt_20 : decode cX0_takeAlt 20 = .ok (.iload 4, 2) := by decide +kernel
theorem dX0_takeAlt_22 : decode cX0_takeAlt 22 = .ok (.iload_n 3, 1) := by decide +kernel
theorem dX0_takeAlt_23 : decode cX0_takeAlt 23 = .ok (.if_icmp .ge 64, 3) := by decide +kernel
theorem dX0_takeAlt_26 : decode cX0_takeAlt 26 = .ok (.iconst 0, 1) := by decide +kernel
theorem dX0_takeAlt_27 : decode cX0_takeAlt 27 = .ok (.istore 5, 2) := by decide +kernel
theorem dX0_takeAlt_29 : decode cX0_takeAlt 29 = .ok (.iload 5, 2) := by decide +kernel
theorem dX0_takeAlt_31 : decode cX0_takeAlt 31 = .ok (.aload_n 0, 1) := by decide +kernel
theorem dX0_takeAlt_32 : decode cX0_takeAlt 32 = .ok (.getfield 24, 3) := by decide +kernel
theorem dX0_takeAlt_35 : decode cX0_takeAlt 35 = .ok (.iload 4, 2) := by decide +kernel
theorem dX0_takeAlt_37 : decode cX0_takeAlt 37 = .ok (.iaload, 1) := by decide +kernel
theorem dX0_takeAlt_38 : decode cX0_takeAlt 38 = .ok (.if_icmp .ge 43, 3) := by decide +kernel
theorem dX0_takeAlt_41 : decode cX0_takeAlt 41 = .ok (.aload_n 0, 1) := by decide +kernel
theorem dX0_takeAlt_42 : decode cX0_takeAlt 42 = .ok (.iload 4, 2) := by decide +kernel
theorem dX0_takeAlt_44 : decode cX0_takeAlt 44 = .ok (.iload 5, 2) := by decide +kernel
theorem dX0_takeAlt_46 : decode cX0_takeAlt 46 = .ok (.invokevirtual 129, 3) := by decide +kernel
theorem dX0_takeAlt_49 : decode cX0_takeAlt 49 = .ok (.istore 6, 2) := by decide +kernel
theorem dX0_takeAlt_51 : decode cX0_takeAlt 51 = .ok (.iload 6, 2) := by decide +kernel
theorem dX0_takeAlt_53 : decode cX0_takeAlt 53 = .ok (.ifCond .le 22, 3) := by decide +kernel
theorem dX0_takeAlt_56 : decode cX0_takeAlt 56 = .ok (.aload_n 0, 1) := by decide +kernel
theorem dX0_takeAlt_57 : decode cX0_takeAlt 57 = .ok (.iload 4, 2) := by decide +kernel
theorem dX0_takeAlt_59 : decode cX0_takeAlt 59 = .ok (.iload 5, 2) := by decide +kernel
theorem dX0_takeAlt_61 : decode cX0_takeAlt 61 = .ok (.iload 6, 2) := by decide +kernel
theorem dX0_takeAlt_63 : decode cX0_takeAlt 63 = .ok (.iload_n 2, 1) := by decide +kernel
theorem dX0_takeAlt_64 : decode cX0_takeAlt 64 = .ok (.if_icmp .ne 7, 3) := by decide +kernel
theorem dX0_takeAlt_67 : decode cX0_takeAlt 67 = .ok (.iconst 1, 1) := by decide +kernel
theorem dX0_takeAlt_68 : decode cX0_takeAlt 68 = .ok (.goto 4, 3) := by decide +kernel
theorem dX0_takeAlt_71 : decode cX0_takeAlt 71 = .ok (.iconst 0, 1) := by decide +kernel
theorem dX0_takeAlt_72 : decode cX0_takeAlt 72 = .ok (.invokevirtual 65, 3) := by decide +kernel
theorem dX0_takeAlt_75 : decode cX0_takeAlt 75 = .ok (.iinc 5 1, 3) := by decide +kernel
theorem dX0_takeAlt_78 : decode cX0_takeAlt 78 = .ok (.goto (-49), 3) := by decide +kernel
theorem dX0_takeAlt_81 : decode cX0_takeAlt 81 = .ok (.iinc 4 1, 3) := by decide +kernel
theorem dX0_takeAlt_84 : decode cX0_takeAlt 84 = .ok (.goto (-64), 3) := by decide +kernel
theorem dX0_takeAlt_87 : decode cX0_takeAlt 87 = .ok (.return_, 1) := by decide +kernel
theorem dX0_canReach_0 : decode cX0_canReach 0 = .ok (.iconst 0, 1) := by decide +kernel
theorem dX0_canReach_1 : decode cX0_canReach 1 = .ok (.istore_n 2, 1) := by decide +kernel
theorem dX0_canReach_2 : decode cX0_canReach 2 = .ok (.iload_n 2, 1) := by decide +kernel
theorem dX0_canReach_3 : decode cX0_canReach 3 = .ok (.aload_n 0, 1) := by decide +kernel
theorem dX0_canReach_4 : decode cX0_canReach 4 = .ok (.getfield 41, 3) := by decide +kernel
theorem dX0_canReach_7 : decode cX0_canReach 7 = .ok (.if_icmp .ge 31, 3) := by decide +kernel
theorem dX0_canReach_10 : decode cX0_canReach 10 = .ok (.aload_n 0, 1) := by decide +kernel
theorem dX0_canReach_11 : decode cX0_canReach 11 = .ok (.getfield 18, 3) := by decide +kernel
theorem dX0_canReach_14 : decode cX0_canReach 14 = .ok (.iload_n 2, 1) := by decide +kernel
theorem dX0_canReach_15 : decode cX0_canReach 15 = .ok (.iaload, 1) := by decide +kernel
theorem dX0_canReach_16 : decode cX0_canReach 16 = .ok (.iload_n 1, 1) := by decide +kernel
theorem dX0_canReach_17 : decode cX0_canReach 17 = .ok (.iadd, 1) := by decide +kernel
theorem dX0_canReach_18 : decode cX0_canReach 18 = .ok (.aload_n 0, 1) := by decide +kernel
theorem dX0_canReach_19 : decode cX0_canReach 19 = .ok (.getfield 18, 3) := by decide +kernel
theorem dX0_canReach_22 : decode cX0_canReach 22 = .ok (.iconst 0, 1) := by decide +kernel
theorem dX0_canReach_23 : decode cX0_canReach 23 = .ok (.iaload, 1) := by decide +kernel
theorem dX0_canReach_24 : decode cX0_canReach 24 = .ok (.isub, 1) := by decide +kernel
theorem dX0_canReach_25 : decode cX0_canReach 25 = .ok (.bipush 24, 2) := by decide +kernel
theorem dX0_canReach_27 : decode cX0_canReach 27 = .ok (.if_icmp .le 5, 3) := by decide +kernel
theorem dX0_canReach_30 : decode cX0_canReach 30 = .ok (.iconst 0, 1) := by decide +kernel
theorem dX0_canReach_31 : decode cX0_canReach 31 = .ok (.ireturn, 1) := by decide +kernel
theorem dX0_canReach_32 : decode cX0_canReach 32 = .ok (.iinc 2 1, 3) := by decide +kernel
theorem dX0_canReach_35 : decode cX0_canReach 35 = .ok (.goto (-33), 3) := by decide +kernel
theorem dX0_canReach_38 : decode cX0_canReach 38 = .ok (.iconst 1, 1) := by decide +kernel
theorem dX0_canReach_39 : decode cX0_canReach 39 = .ok (.ireturn, 1) := by decide +kernel
theorem dX0_reachAsFarAs_0 : decode cX0_reachAsFarAs 0 = .ok (.aload_n 0, 1) := by decide +kernel
theorem dX0_reachAsFarAs_1 : decode cX0_reachAsFarAs 1 = .ok (.getfield 18, 3) := by decide +kernel
theorem dX0_reachAsFarAs_4 : decode cX0_reachAsFarAs 4 = .ok (.iconst 0, 1) := by decide +kernel
theorem dX0_reachAsFarAs_5 : decode cX0_reachAsFarAs 5 = .ok (.iaload, 1) := by decide +kernel
theorem dX0_reachAsFarAs_6 : decode cX0_reachAsFarAs 6 = .ok (.istore_n 2, 1) := by decide +kernel
theorem dX0_reachAsFarAs_7 : decode cX0_reachAsFarAs 7 = .ok (.iconst 0, 1) := by decide +kernel
theorem dX0_reachAsFarAs_8 : decode cX0_reachAsFarAs 8 = .ok (.istore_n 3, 1) := by decide +kernel
theorem dX0_reachAsFarAs_9 : decode cX0_reachAsFarAs 9 = .ok (.iload_n 3, 1) := by decide +kernel
theorem dX0_reachAsFarAs_10 : decode cX0_reachAsFarAs 10 = .ok (.aload_n 0, 1) := by decide +kernel
theorem dX0_reachAsFarAs_11 : decode cX0_reachAsFarAs 11 = .ok (.getfield 41, 3) := by decide +kernel
theorem dX0_reachAsFarAs_14 : decode cX0_reachAsFarAs 14 = .ok (.if_icmp .ge 41, 3) := by decide +kernel
theorem dX0_reachAsFarAs_17 : decode cX0_reachAsFarAs 17 = .ok (.iload_n 2, 1) := by decide +kernel
theorem dX0_reachAsFarAs_18 : decode cX0_reachAsFarAs 18 = .ok (.istore 4, 2) := by decide +kernel
theorem dX0_reachAsFarAs_20 : decode cX0_reachAsFarAs 20 = .ok (.iload 4, 2) := by decide +kernel
theorem dX0_reachAsFarAs_22 : decode cX0_reachAsFarAs 22 = .ok (.aload_n 1, 1) := by decide +kernel
theorem dX0_reachAsFarAs_23 : decode cX0_reachAsFarAs 23 = .ok (.getfield 18, 3) := by decide +kernel
theorem dX0_reachAsFarAs_26 : decode cX0_reachAsFarAs 26 = .ok (.iconst 0, 1) := by decide +kernel
theorem dX0_reachAsFarAs_27 : decode cX0_reachAsFarAs 27 = .ok (.iaload, 1) := by decide +kernel
theorem dX0_reachAsFarAs_28 : decode cX0_reachAsFarAs 28 = .ok (.if_icmp .ge 21, 3) := by decide +kernel
theorem dX0_reachAsFarAs_31 : decode cX0_reachAsFarAs 31 = .ok (.aload_n 0, 1) := by decide +kernel
theorem dX0_reachAsFarAs_32 : decode cX0_reachAsFarAs 32 = .ok (.iload_n 3, 1) := by decide +kernel
theorem dX0_reachAsFarAs_33 : decode cX0_reachAsFarAs 33 = .ok (.aload_n 1, 1) := by decide +kernel
theorem dX0_reachAsFarAs_34 : decode cX0_reachAsFarAs 34 = .ok (.iconst 0, 1) := by decide +kernel
theorem dX0_reachAsFarAs_35 : decode cX0_reachAsFarAs 35 = .ok (.iload 4, 2) := by decide +kernel
theorem dX0_reachAsFarAs_37 : decode cX0_reachAsFarAs 37 = .ok (.invokevirtual 69, 3) := by decide +kernel
theorem dX0_reachAsFarAs_40 : decode cX0_reachAsFarAs 40 = .ok (.invokevirtual 119, 3) := by decide +kernel
theorem dX0_reachAsFarAs_43 : decode cX0_reachAsFarAs 43 = .ok (.iinc 4 1, 3) := by decide +kernel
theorem dX0_reachAsFarAs_46 : decode cX0_reachAsFarAs 46 = .ok (.goto (-26), 3) := by decide +kernel
theorem dX0_reachAsFarAs_49 : decode cX0_reachAsFarAs 49 = .ok (.iinc 3 1, 3) := by decide +kernel
theorem dX0_reachAsFarAs_52 : decode cX0_reachAsFarAs 52 = .ok (.goto (-43), 3) := by decide +kernel
theorem dX0_reachAsFarAs_55 : decode cX0_reachAsFarAs 55 = .ok (.return_, 1) := by decide +kernel
theorem dX0_altLike_0 : decode cX0_altLike 0 = .ok (.iconst 1, 1) := by decide +kernel
theorem dX0_altLike_1 : decode cX0_altLike 1 = .ok (.istore_n 3, 1) := by decide +kernel
theorem dX0_altLike_2 : decode cX0_altLike 2 = .ok (.iload_n 3, 1) := by decide +kernel
theorem dX0_altLike_3 : decode cX0_altLike 3 = .ok (.aload_n 0, 1) := by decide +kernel
theorem dX0_altLike_4 : decode cX0_altLike 4 = .ok (.getfield 41, 3) := by decide +kernel
theorem dX0_altLike_7 : decode cX0_altLike 7 = .ok (.if_icmp .ge 21, 3) := by decide +kernel
theorem dX0_altLike_10 : decode cX0_altLike 10 = .ok (.aload_n 0, 1) := by decide +kernel
theorem dX0_altLike_11 : decode cX0_altLike 11 = .ok (.iload_n 3, 1) := by decide +kernel
theorem dX0_altLike_12 : decode cX0_altLike 12 = .ok (.aload_n 1, 1) := by decide +kernel
theorem dX0_altLike_13 : decode cX0_altLike 13 = .ok (.iload_n 2, 1) := by decide +kernel
theorem dX0_altLike_14 : decode cX0_altLike 14 = .ok (.invokevirtual 73, 3) := by decide +kernel
theorem dX0_altLike_17 : decode cX0_altLike 17 = .ok (.ifCond .eq 5, 3) := by decide +kernel
theorem dX0_altLike_20 : decode cX0_altLike 20 = .ok (.iload_n 3, 1) := by decide +kernel
theorem dX0_altLike_21 : decode cX0_altLike 21 = .ok (.ireturn, 1) := by decide +kernel
theorem dX0_altLike_22 : decode cX0_altLike 22 = .ok (.iinc 3 1, 3) := by decide +kernel
theorem dX0_altLike_25 : decode cX0_altLike 25 = .ok (.goto (-23), 3) := by decide +kernel
theorem dX0_altLike_28 : decode cX0_altLike 28 = .ok (.iconst (-1), 1) := by decide +kernel
theorem dX0_altLike_29 : decode cX0_altLike 29 = .ok (.ireturn, 1) := by decide +kernel
theorem dX0_meansSameAs_0 : decode cX0_meansSameAs 0 = .ok (.aload_n 0, 1) := by decide +kernel
theorem dX0_meansSameAs_1 : decode cX0_meansSameAs 1 = .ok (.getfield 41, 3) := by decide +kernel
theorem dX0_meansSameAs_4 : decode cX0_meansSameAs 4 = .ok (.iconst 2, 1) := by decide +kernel
theorem dX0_meansSameAs_5 : decode cX0_meansSameAs 5 = .ok (.if_icmp .ne 33, 3) := by decide +kernel
theorem dX0_meansSameAs_8 : decode cX0_meansSameAs 8 = .ok (.aload_n 1, 1) := by decide +kernel
theorem dX0_meansSameAs_9 : decode cX0_meansSameAs 9 = .ok (.getfield 41, 3) := by decide +kernel
theorem dX0_meansSameAs_12 : decode cX0_meansSameAs 12 = .ok (.iconst 2, 1) := by decide +kernel
theorem dX0_meansSameAs_13 : decode cX0_meansSameAs 13 = .ok (.if_icmp .ne 25, 3) := by decide +kernel
theorem dX0_meansSameAs_16 : decode cX0_meansSameAs 16 = .ok (.aload_n 0, 1) := by decide +kernel
theorem dX0_meansSameAs_17 : decode cX0_meansSameAs 17 = .ok (.getfield 49, 3) := by decide +kernel
theorem dX0_meansSameAs_20 : decode cX0_meansSameAs 20 = .ok (.aload_n 1, 1) := by decide +kernel
theorem dX0_meansSameAs_21 : decode cX0_meansSameAs 21 = .ok (.getfield 49, 3) := by decide +kernel
theorem dX0_meansSameAs_24 : decode cX0_meansSameAs 24 = .ok (.if_icmp .ne 14, 3) := by decide +kernel
theorem dX0_meansSameAs_27 : decode cX0_meansSameAs 27 = .ok (.aload_n 0, 1) := by decide +kernel
theorem dX0_meansSameAs_28 : decode cX0_meansSameAs 28 = .ok (.invokevirtual 132, 3) := by decide +kernel
theorem dX0_meansSameAs_31 : decode cX0_meansSameAs 31 = .ok (.aload_n 1, 1) := by decide +kernel
theorem dX0_meansSameAs_32 : decode cX0_meansSameAs 32 = .ok (.invokevirtual 132, 3) := by decide +kernel
theorem dX0_meansSameAs_35 : decode cX0_meansSameAs 35 = .ok (.if_icmp .eq 5, 3) := by decide +kernel
theorem dX0_meansSameAs_38 : decode cX0_meansSameAs 38 = .ok (.iconst 0, 1) := by decide +kernel
theorem dX0_meansSameAs_39 : decode cX0_meansSameAs 39 = .ok (.ireturn, 1) := by decide +kernel
theorem dX0_meansSameAs_40 : decode cX0_meansSameAs 40 = .ok (.aload_n 0, 1) := by decide +kernel
theorem dX0_meansSameAs_41 : decode cX0_meansSameAs 41 = .ok (.getfield 52, 3) := by decide +kernel
theorem dX0_meansSameAs_44 : decode cX0_meansSameAs 44 = .ok (.aload_n 1, 1) := by decide +kernel
theorem dX0_meansSameAs_45 : decode cX0_meansSameAs 45 = .ok (.getfield 52, 3) := by decide +kernel
theorem dX0_meansSameAs_48 : decode cX0_meansSameAs 48 = .ok (.invokestatic 99, 3) := by decide +kernel
theorem dX0_meansSameAs_51 : decode cX0_meansSameAs 51 = .ok (.istore_n 3, 1) := by decide +kernel
theorem dX0_meansSameAs_52 : decode cX0_meansSameAs 52 = .ok (.aload_n 0, 1) := by decide +kernel
theorem dX0_meansSameAs_53 : decode cX0_meansSameAs 53 = .ok (.getfield 52, 3) := by decide +kernel
theorem dX0_meansSameAs_56 : decode cX0_meansSameAs 56 = .ok (.aload_n 0, 1) := by decide +kernel
theorem dX0_meansSameAs_57 : decode cX0_meansSameAs 57 = .ok (.getfield 18, 3) := by decide +kernel
theorem dX0_meansSameAs_60 : decode cX0_meansSameAs 60 = .ok (.iconst 1, 1) := by decide +kernel
theorem dX0_meansSameAs_61 : decode cX0_meansSameAs 61 = .ok (.iaload, 1) := by decide +kernel
theorem dX0_meansSameAs_62 : decode cX0_meansSameAs 62 = .ok (.iadd, 1) := by decide +kernel
theorem dX0_meansSameAs_63 : decode cX0_meansSameAs 63 = .ok (.aload_n 1, 1) := by decide +kernel
theorem dX0_meansSameAs_64 : decode cX0_meansSameAs 64 = .ok (.getfield 52, 3) := by decide +kernel
theorem dX0_meansSameAs_67 : decode cX0_meansSameAs 67 = .ok (.aload_n 1, 1) := by decide +kernel
theorem dX0_meansSameAs_68 : decode cX0_meansSameAs 68 = .ok (.getfield 18, 3) := by decide +kernel
theorem dX0_meansSameAs_71 : decode cX0_meansSameAs 71 = .ok (.iconst 1, 1) := by decide +kernel
theorem dX0_meansSameAs_72 : decode cX0_meansSameAs 72 = .ok (.iaload, 1) := by decide +kernel
theorem dX0_meansSameAs_73 : decode cX0_meansSameAs 73 = .ok (.iadd, 1) := by decide +kernel
theorem dX0_meansSameAs_74 : decode cX0_meansSameAs 74 = .ok (.invokestatic 135, 3) := by decide +kernel
theorem dX0_meansSameAs_77 : decode cX0_meansSameAs 77 = .ok (.istore 4, 2) := by decide +kernel
theorem dX0_meansSameAs_79 : decode cX0_meansSameAs 79 = .ok (.iload_n 3, 1) := by decide +kernel
theorem dX0_meansSameAs_80 : decode cX0_meansSameAs 80 = .ok (.istore 5, 2) := by decide +kernel
theorem dX0_meansSameAs_82 : decode cX0_meansSameAs 82 = .ok (.iload 5, 2) := by decide +kernel
theorem dX0_meansSameAs_84 : decode cX0_meansSameAs 84 = .ok (.iload 4, 2) := by decide +kernel
theorem dX0_meansSameAs_86 : decode cX0_meansSameAs 86 = .ok (.if_icmp .ge 28, 3) := by decide +kernel
theorem dX0_meansSameAs_89 : decode cX0_meansSameAs 89 = .ok (.aload_n 0, 1) := by decide +kernel
theorem dX0_meansSameAs_90 : decode cX0_meansSameAs 90 = .ok (.iload 5, 2) := by decide +kernel
theorem dX0_meansSameAs_92 : decode cX0_meansSameAs 92 = .ok (.aload_n 2, 1) := by decide +kernel
theorem dX0_meansSameAs_93 : decode cX0_meansSameAs 93 = .ok (.invokevirtual 138, 3) := by decide +kernel
theorem dX0_meansSameAs_96 : decode cX0_meansSameAs 96 = .ok (.aload_n 1, 1) := by decide +kernel
theorem dX0_meansSameAs_97 : decode cX0_meansSameAs 97 = .ok (.iload 5, 2) := by decide +kernel
theorem dX0_meansSameAs_99 : decode cX0_meansSameAs 99 = .ok (.aload_n 2, 1) := by decide +kernel
theorem dX0_meansSameAs_100 : decode cX0_meansSameAs 100 = .ok (.invokevirtual 138, 3) := by decide +kernel
theorem dX0_meansSameAs_103 : decode cX0_meansSameAs 103 = .ok (.if_icmp .eq 5, 3) := by decide +kernel
theorem dX0_meansSameAs_106 : decode cX0_meansSameAs 106 = .ok (.iconst 0, 1) := by decide +kernel
theorem dX0_meansSameAs_107 : decode cX0_meansSameAs 107 = .ok (.ireturn, 1) := by decide +kernel
theorem dX0_meansSameAs_108 : decode cX0_meansSameAs 108 = .ok (.iinc 5 1, 3) := by decide +kernel
theorem dX0_meansSameAs_111 : decode cX0_meansSameAs 111 = .ok (.goto (-29), 3) := by decide +kernel
theorem dX0_meansSameAs_114 : decode cX0_meansSameAs 114 = .ok (.iconst 1, 1) := by decide +kernel
theorem dX0_meansSameAs_115 : decode cX0_meansSameAs 115 = .ok (.ireturn, 1) := by decide +kernel
theorem dX0_growth_0 : decode cX0_growth 0 = .ok (.aload_n 0, 1) := by decide +kernel
theorem dX0_growth_1 : decode cX0_growth 1 = .ok (.getfield 18, 3) := by decide +kernel
theorem dX0_growth_4 : decode cX0_growth 4 = .ok (.iconst 1, 1) := by decide +kernel
theorem dX0_growth_5 : decode cX0_growth 5 = .ok (.iaload, 1) := by decide +kernel
theorem dX0_growth_6 : decode cX0_growth 6 = .ok (.aload_n 0, 1) := by decide +kernel
theorem dX0_growth_7 : decode cX0_growth 7 = .ok (.getfield 18, 3) := by decide +kernel
theorem dX0_growth_10 : decode cX0_growth 10 = .ok (.iconst 0, 1) := by decide +kernel
theorem dX0_growth_11 : decode cX0_growth 11 = .ok (.iaload, 1) := by decide +kernel
theorem dX0_growth_12 : decode cX0_growth 12 = .ok (.isub, 1) := by decide +kernel
theorem dX0_growth_13 : decode cX0_growth 13 = .ok (.ireturn, 1) := by decide +kernel
theorem dX0_letterAfter_0 : decode cX0_letterAfter 0 = .ok (.iload_n 1, 1) := by decide +kernel
theorem dX0_letterAfter_1 : decode cX0_letterAfter 1 = .ok (.aload_n 0, 1) := by decide +kernel
theorem dX0_letterAfter_2 : decode cX0_letterAfter 2 = .ok (.getfield 52, 3) := by decide +kernel
theorem dX0_letterAfter_5 : decode cX0_letterAfter 5 = .ok (.if_icmp .ge 13, 3) := by decide +kernel
theorem dX0_letterAfter_8 : decode cX0_letterAfter 8 = .ok (.aload_n 2, 1) := by decide +kernel
theorem dX0_letterAfter_9 : decode cX0_letterAfter 9 = .ok (.aload_n 0, 1) := by decide +kernel
theorem dX0_letterAfter_10 : decode cX0_letterAfter 10 = .ok (.getfield 49, 3) := by decide +kernel
theorem dX0_letterAfter_13 : decode cX0_letterAfter 13 = .ok (.iload_n 1, 1) := by decide +kernel
theorem dX0_letterAfter_14 : decode cX0_letterAfter 14 = .ok (.invokevirtual 112, 3) := by decide +kernel
theorem dX0_letterAfter_17 : decode cX0_letterAfter 17 = .ok (.ireturn, 1) := by decide +kernel
theorem dX0_letterAfter_18 : decode cX0_letterAfter 18 = .ok (.iload_n 1, 1) := by decide +kernel
theorem dX0_letterAfter_19 : decode cX0_letterAfter 19 = .ok (.aload_n 0, 1) := by decide +kernel
theorem dX0_letterAfter_20 : decode cX0_letterAfter 20 = .ok (.getfield 52, 3) := by decide +kernel
theorem dX0_letterAfter_23 : decode cX0_letterAfter 23 = .ok (.aload_n 0, 1) := by decide +kernel
theorem dX0_letterAfter_24 : decode cX0_letterAfter 24 = .ok (.getfield 18, 3) := by decide +kernel
theorem dX0_letterAfter_27 : decode cX0_letterAfter 27 = .ok (.iconst 1, 1) := by decide +kernel
theorem dX0_letterAfter_28 : decode cX0_letterAfter 28 = .ok (.iaload, 1) := by decide +kernel
theorem dX0_letterAfter_29 : decode cX0_letterAfter 29 = .ok (.iadd, 1) := by decide +kernel
theorem dX0_letterAfter_30 : decode cX0_letterAfter 30 = .ok (.if_icmp .ge 15, 3) := by decide +kernel
theorem dX0_letterAfter_33 : decode cX0_letterAfter 33 = .ok (.aload_n 0, 1) := by decide +kernel
theorem dX0_letterAfter_34 : decode cX0_letterAfter 34 = .ok (.iconst 1, 1) := by decide +kernel
theorem dX0_letterAfter_35 : decode cX0_letterAfter 35 = .ok (.iload_n 1, 1) := by decide +kernel
theorem dX0_letterAfter_36 : decode cX0_letterAfter 36 = .ok (.aload_n 0, 1) := by decide +kernel
theorem dX0_letterAfter_37 : decode cX0_letterAfter 37 = .ok (.getfield 52, 3) := by decide +kernel
theorem dX0_letterAfter_40 : decode cX0_letterAfter 40 = .ok (.isub, 1) := by decide +kernel
theorem dX0_letterAfter_41 : decode cX0_letterAfter 41 = .ok (.invokevirtual 69, 3) := by decide +kernel
theorem dX0_letterAfter_44 : decode cX0_letterAfter 44 = .ok (.ireturn, 1) := by decide +kernel
theorem dX0_letterAfter_45 : decode cX0_letterAfter 45 = .ok (.aload_n 2, 1) := by decide +kernel
theorem dX0_letterAfter_46 : decode cX0_letterAfter 46 = .ok (.aload_n 0, 1) := by decide +kernel
theorem dX0_letterAfter_47 : decode cX0_letterAfter 47 = .ok (.getfield 49, 3) := by decide +kernel
theorem dX0_letterAfter_50 : decode cX0_letterAfter 50 = .ok (.iload_n 1, 1) := by decide +kernel
theorem dX0_letterAfter_51 : decode cX0_letterAfter 51 = .ok (.aload_n 0, 1) := by decide +kernel
theorem dX0_letterAfter_52 : decode cX0_letterAfter 52 = .ok (.invokevirtual 132, 3) := by decide +kernel
theorem dX0_letterAfter_55 : decode cX0_letterAfter 55 = .ok (.isub, 1) := by decide +kernel
theorem dX0_letterAfter_56 : decode cX0_letterAfter 56 = .ok (.invokevirtual 112, 3) := by decide +kernel
theorem dX0_letterAfter_59 : decode cX0_letterAfter 59 = .ok (.ireturn, 1) := by decide +kernel
theorem dX0_writeTo_0 : decode cX0_writeTo 0 = .ok (.aload_n 3, 1) := by decide +kernel
theorem dX0_writeTo_1 : decode cX0_writeTo 1 = .ok (.getfield 142, 3) := by decide +kernel
theorem dX0_writeTo_4 : decode cX0_writeTo 4 = .ok (.aload_n 0, 1) := by decide +kernel
theorem dX0_writeTo_5 : decode cX0_writeTo 5 = .ok (.getfield 49, 3) := by decide +kernel
theorem dX0_writeTo_8 : decode cX0_writeTo 8 = .ok (.aload_n 1, 1) := by decide +kernel
theorem dX0_writeTo_9 : decode cX0_writeTo 9 = .ok (.invokevirtual 146, 3) := by decide +kernel
theorem dX0_writeTo_12 : decode cX0_writeTo 12 = .ok (.aload_n 1, 1) := by decide +kernel
theorem dX0_writeTo_13 : decode cX0_writeTo 13 = .ok (.bipush 9, 2) := by decide +kernel
theorem dX0_writeTo_15 : decode cX0_writeTo 15 = .ok (.invokevirtual 152, 3) := by decide +kernel
theorem dX0_writeTo_18 : decode cX0_writeTo 18 = .ok (.aload_n 1, 1) := by decide +kernel
theorem dX0_writeTo_19 : decode cX0_writeTo 19 = .ok (.aload_n 0, 1) := by decide +kernel
theorem dX0_writeTo_20 : decode cX0_writeTo 20 = .ok (.getfield 52, 3) := by decide +kernel
theorem dX0_writeTo_23 : decode cX0_writeTo 23 = .ok (.invokevirtual 158, 3) := by decide +kernel
theorem dX0_writeTo_26 : decode cX0_writeTo 26 = .ok (.aload_n 1, 1) := by decide +kernel
theorem dX0_writeTo_27 : decode cX0_writeTo 27 = .ok (.bipush 9, 2) := by decide +kernel
theorem dX0_writeTo_29 : decode cX0_writeTo 29 = .ok (.invokevirtual 152, 3) := by decide +kernel
theorem dX0_writeTo_32 : decode cX0_writeTo 32 = .ok (.aload_n 0, 1) := by decide +kernel
theorem dX0_writeTo_33 : decode cX0_writeTo 33 = .ok (.getfield 62, 3) := by decide +kernel
theorem dX0_writeTo_36 : decode cX0_writeTo 36 = .ok (.ifCond .ne 9, 3) := by decide +kernel
theorem dX0_writeTo_39 : decode cX0_writeTo 39 = .ok (.aload_n 1, 1) := by decide +kernel
theorem dX0_writeTo_40 : decode cX0_writeTo 40 = .ok (.bipush 46, 2) := by decide +kernel
theorem dX0_writeTo_42 : decode cX0_writeTo 42 = .ok (.invokevirtual 152, 3) := by decide +kernel
theorem dX0_writeTo_45 : decode cX0_writeTo 45 = .ok (.aload_n 1, 1) := by decide +kernel
theorem dX0_writeTo_46 : decode cX0_writeTo 46 = .ok (.aload_n 0, 1) := by decide +kernel
theorem dX0_writeTo_47 : decode cX0_writeTo 47 = .ok (.getfield 9, 3) := by decide +kernel
theorem dX0_writeTo_50 : decode cX0_writeTo 50 = .ok (.iconst 0, 1) := by decide +kernel
theorem dX0_writeTo_51 : decode cX0_writeTo 51 = .ok (.aload_n 0, 1) := by decide +kernel
theorem dX0_writeTo_52 : decode cX0_writeTo 52 = .ok (.getfield 62, 3) := by decide +kernel
theorem dX0_writeTo_55 : decode cX0_writeTo 55 = .ok (.invokevirtual 161, 3) := by decide +kernel
theorem dX0_writeTo_58 : decode cX0_writeTo 58 = .ok (.aload_n 1, 1) := by decide +kernel
theorem dX0_writeTo_59 : decode cX0_writeTo 59 = .ok (.bipush 9, 2) := by decide +kernel
theorem dX0_writeTo_61 : decode cX0_writeTo 61 = .ok (.invokevirtual 152, 3) := by decide +kernel
theorem dX0_writeTo_64 : decode cX0_writeTo 64 = .ok (.aload_n 0, 1) := by decide +kernel
theorem dX0_writeTo_65 : decode cX0_writeTo 65 = .ok (.iconst 0, 1) := by decide +kernel
theorem dX0_writeTo_66 : decode cX0_writeTo 66 = .ok (.aload_n 1, 1) := by decide +kernel
theorem dX0_writeTo_67 : decode cX0_writeTo 67 = .ok (.invokevirtual 165, 3) := by decide +kernel
theorem dX0_writeTo_70 : decode cX0_writeTo 70 = .ok (.aload_n 1, 1) := by decide +kernel
theorem dX0_writeTo_71 : decode cX0_writeTo 71 = .ok (.bipush 9, 2) := by decide +kernel
theorem dX0_writeTo_73 : decode cX0_writeTo 73 = .ok (.invokevirtual 152, 3) := by decide +kernel
theorem dX0_writeTo_76 : decode cX0_writeTo 76 = .ok (.aload_n 0, 1) := by decide +kernel
theorem dX0_writeTo_77 : decode cX0_writeTo 77 = .ok (.aload_n 1, 1) := by decide +kernel
theorem dX0_writeTo_78 : decode cX0_writeTo 78 = .ok (.invokevirtual 168, 3) := by decide +kernel
theorem dX0_writeTo_81 : decode cX0_writeTo 81 = .ok (.aload_n 1, 1) := by decide +kernel
theorem dX0_writeTo_82 : decode cX0_writeTo 82 = .ok (.bipush 9, 2) := by decide +kernel
theorem dX0_writeTo_84 : decode cX0_writeTo 84 = .ok (.invokevirtual 152, 3) := by decide +kernel
theorem dX0_writeTo_87 : decode cX0_writeTo 87 = .ok (.aload_n 1, 1) := by decide +kernel
theorem dX0_writeTo_88 : decode cX0_writeTo 88 = .ok (.aload_n 0, 1) := by decide +kernel
theorem dX0_writeTo_89 : decode cX0_writeTo 89 = .ok (.getfield 55, 3) := by decide +kernel
theorem dX0_writeTo_92 : decode cX0_writeTo 92 = .ok (.invokevirtual 172, 3) := by decide +kernel
theorem dX0_writeTo_95 : decode cX0_writeTo 95 = .ok (.aload_n 1, 1) := by decide +kernel
theorem dX0_writeTo_96 : decode cX0_writeTo 96 = .ok (.bipush 9, 2) := by decide +kernel
theorem dX0_writeTo_98 : decode cX0_writeTo 98 = .ok (.invokevirtual 152, 3) := by decide +kernel
theorem dX0_writeTo_101 : decode cX0_writeTo 101 = .ok (.aload_n 1, 1) := by decide +kernel
theorem dX0_writeTo_102 : decode cX0_writeTo 102 = .ok (.aload_n 0, 1) := by decide +kernel
theorem dX0_writeTo_103 : decode cX0_writeTo 103 = .ok (.getfield 58, 3) := by decide +kernel
theorem dX0_writeTo_106 : decode cX0_writeTo 106 = .ok (.ifCond .eq 8, 3) := by decide +kernel
theorem dX0_writeTo_109 : decode cX0_writeTo 109 = .ok (.ldc 175, 2) := by decide +kernel
theorem dX0_writeTo_111 : decode cX0_writeTo 111 = .ok (.goto 5, 3) := by decide +kernel
theorem dX0_writeTo_114 : decode cX0_writeTo 114 = .ok (.ldc 177, 2) := by decide +kernel
theorem dX0_writeTo_116 : decode cX0_writeTo 116 = .ok (.invokevirtual 179, 3) := by decide +kernel
theorem dX0_writeTo_119 : decode cX0_writeTo 119 = .ok (.aload_n 1, 1) := by decide +kernel
theorem dX0_writeTo_120 : decode cX0_writeTo 120 = .ok (.bipush 9, 2) := by decide +kernel
theorem dX0_writeTo_122 : decode cX0_writeTo 122 = .ok (.invokevirtual 152, 3) := by decide +kernel
theorem dX0_writeTo_125 : decode cX0_writeTo 125 = .ok (.aload_n 1, 1) := by decide +kernel
theorem dX0_writeTo_126 : decode cX0_writeTo 126 = .ok (.bipush 46, 2) := by decide +kernel
theorem dX0_writeTo_128 : decode cX0_writeTo 128 = .ok (.invokevirtual 152, 3) := by decide +kernel
theorem dX0_writeTo_131 : decode cX0_writeTo 131 = .ok (.iload_n 2, 1) := by decide +kernel
theorem dX0_writeTo_132 : decode cX0_writeTo 132 = .ok (.ifCond .le 15, 3) := by decide +kernel
theorem dX0_writeTo_135 : decode cX0_writeTo 135 = .ok (.aload_n 1, 1) := by decide +kernel
theorem dX0_writeTo_136 : decode cX0_writeTo 136 = .ok (.bipush 9, 2) := by decide +kernel
theorem dX0_writeTo_138 : decode cX0_writeTo 138 = .ok (.invokevirtual 152, 3) := by decide +kernel
theorem dX0_writeTo_141 : decode cX0_writeTo 141 = .ok (.aload_n 1, 1) := by decide +kernel
theorem dX0_writeTo_142 : decode cX0_writeTo 142 = .ok (.ldc 183, 2) := by decide +kernel
theorem dX0_writeTo_144 : decode cX0_writeTo 144 = .ok (.invokevirtual 179, 3) := by decide +kernel
theorem dX0_writeTo_147 : decode cX0_writeTo 147 = .ok (.iconst 0, 1) := by decide +kernel
theorem dX0_writeTo_148 : decode cX0_writeTo 148 = .ok (.istore 4, 2) := by decide +kernel
theorem dX0_writeTo_150 : decode cX0_writeTo 150 = .ok (.iload 4, 2) := by decide +kernel
theorem dX0_writeTo_152 : decode cX0_writeTo 152 = .ok (.iload_n 2, 1) := by decide +kernel
theorem dX0_writeTo_153 : decode cX0_writeTo 153 = .ok (.if_icmp .ge 22, 3) := by decide +kernel
theorem dX0_writeTo_156 : decode cX0_writeTo 156 = .ok (.aload_n 1, 1) := by decide +kernel
theorem dX0_writeTo_157 : decode cX0_writeTo 157 = .ok (.bipush 9, 2) := by decide +kernel
theorem dX0_writeTo_159 : decode cX0_writeTo 159 = .ok (.invokevirtual 152, 3) := by decide +kernel
theorem dX0_writeTo_162 : decode cX0_writeTo 162 = .ok (.aload_n 0, 1) := by decide +kernel
theorem dX0_writeTo_163 : decode cX0_writeTo 163 = .ok (.iload 4, 2) := by decide +kernel
theorem dX0_writeTo_165 : decode cX0_writeTo 165 = .ok (.aload_n 1, 1) := by decide +kernel
theorem dX0_writeTo_166 : decode cX0_writeTo 166 = .ok (.invokevirtual 185, 3) := by decide +kernel
theorem dX0_writeTo_169 : decode cX0_writeTo 169 = .ok (.iinc 4 1, 3) := by decide +kernel
theorem dX0_writeTo_172 : decode cX0_writeTo 172 = .ok (.goto (-22), 3) := by decide +kernel
theorem dX0_writeTo_175 : decode cX0_writeTo 175 = .ok (.aload_n 1, 1) := by decide +kernel
theorem dX0_writeTo_176 : decode cX0_writeTo 176 = .ok (.bipush 10, 2) := by decide +kernel
theorem dX0_writeTo_178 : decode cX0_writeTo 178 = .ok (.invokevirtual 152, 3) := by decide +kernel
theorem dX0_writeTo_181 : decode cX0_writeTo 181 = .ok (.return_, 1) := by decide +kernel
theorem dX0_writeRow_0 : decode cX0_writeRow 0 = .ok (.aload_n 2, 1) := by decide +kernel
theorem dX0_writeRow_1 : decode cX0_writeRow 1 = .ok (.aload_n 0, 1) := by decide +kernel
theorem dX0_writeRow_2 : decode cX0_writeRow 2 = .ok (.getfield 15, 3) := by decide +kernel
theorem dX0_writeRow_5 : decode cX0_writeRow 5 = .ok (.iload_n 1, 1) := by decide +kernel
theorem dX0_writeRow_6 : decode cX0_writeRow 6 = .ok (.bipush 24, 2) := by decide +kernel
theorem dX0_writeRow_8 : decode cX0_writeRow 8 = .ok (.imul, 1) := by decide +kernel
theorem dX0_writeRow_9 : decode cX0_writeRow 9 = .ok (.aload_n 0, 1) := by decide +kernel
theorem dX0_writeRow_10 : decode cX0_writeRow 10 = .ok (.getfield 18, 3) := by decide +kernel
theorem dX0_writeRow_13 : decode cX0_writeRow 13 = .ok (.iload_n 1, 1) := by decide +kernel
theorem dX0_writeRow_14 : decode cX0_writeRow 14 = .ok (.iaload, 1) := by decide +kernel
theorem dX0_writeRow_15 : decode cX0_writeRow 15 = .ok (.invokevirtual 161, 3) := by decide +kernel
theorem dX0_writeRow_18 : decode cX0_writeRow 18 = .ok (.return_, 1) := by decide +kernel
theorem dX0_writeAlts_0 : decode cX0_writeAlts 0 = .ok (.aload_n 0, 1) := by decide +kernel
theorem dX0_writeAlts_1 : decode cX0_writeAlts 1 = .ok (.invokevirtual 77, 3) := by decide +kernel
theorem dX0_writeAlts_4 : decode cX0_writeAlts 4 = .ok (.ifCond .ne 9, 3) := by decide +kernel
theorem dX0_writeAlts_7 : decode cX0_writeAlts 7 = .ok (.aload_n 1, 1) := by decide +kernel
theorem dX0_writeAlts_8 : decode cX0_writeAlts 8 = .ok (.bipush 46, 2) := by decide +kernel
theorem dX0_writeAlts_10 : decode cX0_writeAlts 10 = .ok (.invokevirtual 152, 3) := by decide +kernel
theorem dX0_writeAlts_13 : decode cX0_writeAlts 13 = .ok (.iconst 1, 1) := by decide +kernel
theorem dX0_writeAlts_14 : decode cX0_writeAlts 14 = .ok (.istore_n 2, 1) := by decide +kernel
theorem dX0_writeAlts_15 : decode cX0_writeAlts 15 = .ok (.iload_n 2, 1) := by decide +kernel
theorem dX0_writeAlts_16 : decode cX0_writeAlts 16 = .ok (.aload_n 0, 1) := by decide +kernel
theorem dX0_writeAlts_17 : decode cX0_writeAlts 17 = .ok (.getfield 41, 3) := by decide +kernel
theorem dX0_writeAlts_20 : decode cX0_writeAlts 20 = .ok (.if_icmp .ge 26, 3) := by decide +kernel
theorem dX0_writeAlts_23 : decode cX0_writeAlts 23 = .ok (.iload_n 2, 1) := by decide +kernel
theorem dX0_writeAlts_24 : decode cX0_writeAlts 24 = .ok (.iconst 1, 1) := by decide +kernel
theorem dX0_writeAlts_25 : decode cX0_writeAlts 25 = .ok (.if_icmp .le 9, 3) := by decide +kernel
theorem dX0_writeAlts_28 : decode cX0_writeAlts 28 = .ok (.aload_n 1, 1) := by decide +kernel
theorem dX0_writeAlts_29 : decode cX0_writeAlts 29 = .ok (.bipush 44, 2) := by decide +kernel
theorem dX0_writeAlts_31 : decode cX0_writeAlts 31 = .ok (.invokevirtual 152, 3) := by decide +kernel
theorem dX0_writeAlts_34 : decode cX0_writeAlts 34 = .ok (.aload_n 0, 1) := by decide +kernel
theorem dX0_writeAlts_35 : decode cX0_writeAlts 35 = .ok (.iload_n 2, 1) := by decide +kernel
theorem dX0_writeAlts_36 : decode cX0_writeAlts 36 = .ok (.aload_n 1, 1) := by decide +kernel
theorem dX0_writeAlts_37 : decode cX0_writeAlts 37 = .ok (.invokevirtual 165, 3) := by decide +kernel
theorem dX0_writeAlts_40 : decode cX0_writeAlts 40 = .ok (.iinc 2 1, 3) := by decide +kernel
theorem dX0_writeAlts_43 : decode cX0_writeAlts 43 = .ok (.goto (-28), 3) := by decide +kernel
theorem dX0_writeAlts_46 : decode cX0_writeAlts 46 = .ok (.return_, 1) := by decide +kernel
theorem dX0_writeCalls_0 : decode cX0_writeCalls 0 = .ok (.iconst 0, 1) := by decide +kernel
theorem dX0_writeCalls_1 : decode cX0_writeCalls 1 = .ok (.istore_n 3, 1) := by decide +kernel
theorem dX0_writeCalls_2 : decode cX0_writeCalls 2 = .ok (.iload_n 3, 1) := by decide +kernel
theorem dX0_writeCalls_3 : decode cX0_writeCalls 3 = .ok (.aload_n 0, 1) := by decide +kernel
theorem dX0_writeCalls_4 : decode cX0_writeCalls 4 = .ok (.getfield 24, 3) := by decide +kernel
theorem dX0_writeCalls_7 : decode cX0_writeCalls 7 = .ok (.iload_n 1, 1) := by decide +kernel
theorem dX0_writeCalls_8 : decode cX0_writeCalls 8 = .ok (.iaload, 1) := by decide +kernel
theorem dX0_writeCalls_9 : decode cX0_writeCalls 9 = .ok (.if_icmp .ge 43, 3) := by decide +kernel
theorem dX0_writeCalls_12 : decode cX0_writeCalls 12 = .ok (.iload_n 3, 1) := by decide +kernel
theorem dX0_writeCalls_13 : decode cX0_writeCalls 13 = .ok (.ifCond .le 23, 3) := by decide +kernel
theorem dX0_writeCalls_16 : decode cX0_writeCalls 16 = .ok (.aload_n 2, 1) := by decide +kernel
theorem dX0_writeCalls_17 : decode cX0_writeCalls 17 = .ok (.aload_n 0, 1) := by decide +kernel
theorem dX0_writeCalls_18 : decode cX0_writeCalls 18 = .ok (.getfield 27, 3) := by decide +kernel
theorem dX0_writeCalls_21 : decode cX0_writeCalls 21 = .ok (.iload_n 1, 1) := by decide +kernel
theorem dX0_writeCalls_22 : decode cX0_writeCalls 22 = .ok (.baload, 1) := by decide +kernel
theorem dX0_writeCalls_23 : decode cX0_writeCalls 23 = .ok (.ifCond .eq 8, 3) := by decide +kernel
theorem dX0_writeCalls_26 : decode cX0_writeCalls 26 = .ok (.bipush 124, 2) := by decide +kernel
theorem dX0_writeCalls_28 : decode cX0_writeCalls 28 = .ok (.goto 5, 3) := by decide +kernel
theorem dX0_writeCalls_31 : decode cX0_writeCalls 31 = .ok (.bipush 47, 2) := by decide +kernel
theorem dX0_writeCalls_33 : decode cX0_writeCalls 33 = .ok (.invokevirtual 152, 3) := by decide +kernel
theorem dX0_writeCalls_36 : decode cX0_writeCalls 36 = .ok (.aload_n 2, 1) := by decide +kernel
theorem dX0_writeCalls_37 : decode cX0_writeCalls 37 = .ok (.aload_n 0, 1) := by decide +kernel
theorem dX0_writeCalls_38 : decode cX0_writeCalls 38 = .ok (.iload_n 1, 1) := by decide +kernel
theorem dX0_writeCalls_39 : decode cX0_writeCalls 39 = .ok (.iload_n 3, 1) := by decide +kernel
theorem dX0_writeCalls_40 : decode cX0_writeCalls 40 = .ok (.invokevirtual 129, 3) := by decide +kernel
theorem dX0_writeCalls_43 : decode cX0_writeCalls 43 = .ok (.invokevirtual 172, 3) := by decide +kernel
theorem dX0_writeCalls_46 : decode cX0_writeCalls 46 = .ok (.iinc 3 1, 3) := by decide +kernel
theorem dX0_writeCalls_49 : decode cX0_writeCalls 49 = .ok (.goto (-47), 3) := by decide +kernel
theorem dX0_writeCalls_52 : decode cX0_writeCalls 52 = .ok (.return_, 1) := by decide +kernel
theorem dX1_init_0 : decode cX1_init 0 = .ok (.aload_n 0, 1) := by decide +kernel
theorem dX1_init_1 : decode cX1_init 1 = .ok (.invokespecial 3, 3) := by decide +kernel
theorem dX1_init_4 : decode cX1_init 4 = .ok (.aload_n 0, 1) := by decide +kernel
theorem dX1_init_5 : decode cX1_init 5 = .ok (.new 9, 3) := by decide +kernel
theorem dX1_init_8 : decode cX1_init 8 = .ok (.dup, 1) := by decide +kernel
theorem dX1_init_9 : decode cX1_init 9 = .ok (.bipush 8, 2) := by decide +kernel
theorem dX1_init_11 : decode cX1_init 11 = .ok (.invokespecial 11, 3) := by decide +kernel
theorem dX1_init_14 : decode cX1_init 14 = .ok (.putfield 14, 3) := by decide +kernel
theorem dX1_init_17 : decode cX1_init 17 = .ok (.aload_n 0, 1) := by decide +kernel
theorem dX1_init_18 : decode cX1_init 18 = .ok (.sipush 3000, 3) := by decide +kernel
theorem dX1_init_21 : decode cX1_init 21 = .ok (.newarray .int, 2) := by decide +kernel
theorem dX1_init_23 : decode cX1_init 23 = .ok (.putfield 20, 3) := by decide +kernel
theorem dX1_init_26 : decode cX1_init 26 = .ok (.aload_n 0, 1) := by decide +kernel
theorem dX1_init_27 : decode cX1_init 27 = .ok (.bipush 8, 2) := by decide +kernel
theorem dX1_init_29 : decode cX1_init 29 = .ok (.newarray .int, 2) := by decide +kernel
theorem dX1_init_31 : decode cX1_init 31 = .ok (.putfield 24, 3) := by decide +kernel
theorem dX1_init_34 : decode cX1_init 34 = .ok (.aload_n 0, 1) := by decide +kernel
theorem dX1_init_35 : decode cX1_init 35 = .ok (.bipush 8, 2) := by decide +kernel
theorem dX1_init_37 : decode cX1_init 37 = .ok (.newarray .int, 2) := by decide +kernel
theorem dX1_init_39 : decode cX1_init 39 = .ok (.putfield 27, 3) := by decide +kernel
theorem dX1_init_42 : decode cX1_init 42 = .ok (.aload_n 0, 1) := by decide +kernel
theorem dX1_init_43 : decode cX1_init 43 = .ok (.bipush 8, 2) := by decide +kernel
theorem dX1_init_45 : decode cX1_init 45 = .ok (.newarray .int, 2) := by decide +kernel
theorem dX1_init_47 : decode cX1_init 47 = .ok (.putfield 30, 3) := by decide +kernel
theorem dX1_init_50 : decode cX1_init 50 = .ok (.aload_n 0, 1) := by decide +kernel
theorem dX1_init_51 : decode cX1_init 51 = .ok (.bipush 8, 2) := by decide +kernel
theorem dX1_init_53 : decode cX1_init 53 = .ok (.newarray .int, 2) := by decide +kernel
theorem dX1_init_55 : decode cX1_init 55 = .ok (.putfield 33, 3) := by decide +kernel
theorem dX1_init_58 : decode cX1_init 58 = .ok (.return_, 1) := by decide +kernel
theorem dX1_clear_0 : decode cX1_clear 0 = .ok (.aload_n 0, 1) := by decide +kernel
theorem dX1_clear_1 : decode cX1_clear 1 = .ok (.getfield 14, 3) := by decide +kernel
theorem dX1_clear_4 : decode cX1_clear 4 = .ok (.invokevirtual 36, 3) := by decide +kernel
theorem dX1_clear_7 : decode cX1_clear 7 = .ok (.aload_n 0, 1) := by decide +kernel
theorem dX1_clear_8 : decode cX1_clear 8 = .ok (.iconst 0, 1) := by decide +kernel
theorem dX1_clear_9 : decode cX1_clear 9 = .ok (.putfield 39, 3) := by decide +kernel
theorem dX1_clear_12 : decode cX1_clear 12 = .ok (.aload_n 0, 1) := by decide +kernel
theorem dX1_clear_13 : decode cX1_clear 13 = .ok (.iconst 0, 1) := by decide +kernel
theorem dX1_clear_14 : decode cX1_clear 14 = .ok (.putfield 43, 3) := by decide +kernel
theorem dX1_clear_17 : decode cX1_clear 17 = .ok (.return_, 1) := by decide +kernel
theorem dX1_open_0 : decode cX1_open 0 = .ok (.aload_n 0, 1) := by decide +kernel
theorem dX1_open_1 : decode cX1_open 1 = .ok (.getfield 39, 3) := by decide +kernel
theorem dX1_open_4 : decode cX1_open 4 = .ok (.bipush 8, 2) := by decide +kernel
theorem dX1_open_6 : decode cX1_open 6 = .ok (.if_icmp .ge 63, 3) := by decide +kernel
theorem dX1_open_9 : decode cX1_open 9 = .ok (.aload_n 0, 1) := by decide +kernel
theorem dX1_open_10 : decode cX1_open 10 = .ok (.getfield 14, 3) := by decide +kernel
theorem dX1_open_13 : decode cX1_open 13 = .ok (.invokevirtual 46, 3) := by decide +kernel
theorem dX1_open_16 : decode cX1_open 16 = .ok (.aload_n 0, 1) := by decide +kernel
theorem dX1_open_17 : decode cX1_open 17 = .ok (.getfield 24, 3) := by decide +kernel
theorem dX1_open_20 : decode cX1_open 20 = .ok (.aload_n 0, 1) := by decide +kernel
theorem dX1_open_21 : decode cX1_open 21 = .ok (.getfield 39, 3) := by decide +kernel
theorem dX1_open_24 : decode cX1_open 24 = .ok (.aload_n 0, 1) := by decide +kernel
theorem dX1_open_25 : decode cX1_open 25 = .ok (.getfield 43, 3) := by decide +kernel
theorem dX1_open_28 : decode cX1_open 28 = .ok (.iastore, 1) := by decide +kernel
theorem dX1_open_29 : decode cX1_open 29 = .ok (.aload_n 0, 1) := by decide +kernel
theorem dX1_open_30 : decode cX1_open 30 = .ok (.getfield 27, 3) := by decide +kernel
theorem dX1_open_33 : decode cX1_open 33 = .ok (.aload_n 0, 1) := by decide +kernel
theorem dX1_open_34 : decode cX1_open 34 = .ok (.getfield 39, 3) := by decide +kernel
theorem dX1_open_37 : decode cX1_open 37 = .ok (.iconst 0, 1) := by decide +kernel
theorem dX1_open_38 : decode cX1_open 38 = .ok (.iastore, 1) := by decide +kernel
theorem dX1_open_39 : decode cX1_open 39 = .ok (.aload_n 0, 1) := by decide +kernel
theorem dX1_open_40 : decode cX1_open 40 = .ok (.getfield 30, 3) := by decide +kernel
theorem dX1_open_43 : decode cX1_open 43 = .ok (.aload_n 0, 1) := by decide +kernel
theorem dX1_open_44 : decode cX1_open 44 = .ok (.getfield 39, 3) := by decide +kernel
theorem dX1_open_47 : decode cX1_open 47 = .ok (.iconst 0, 1) := by decide +kernel
theorem dX1_open_48 : decode cX1_open 48 = .ok (.iastore, 1) := by decide +kernel
theorem dX1_open_49 : decode cX1_open 49 = .ok (.aload_n 0, 1) := by decide +kernel
theorem dX1_open_50 : decode cX1_open 50 = .ok (.getfield 33, 3) := by decide +kernel
theorem dX1_open_53 : decode cX1_open 53 = .ok (.aload_n 0, 1) := by decide +kernel
theorem dX1_open_54 : decode cX1_open 54 = .ok (.getfield 39, 3) := by decide +kernel
theorem dX1_open_57 : decode cX1_open 57 = .ok (.iconst (-1), 1) := by decide +kernel
theorem dX1_open_58 : decode cX1_open 58 = .ok (.iastore, 1) := by decide +kernel
theorem dX1_open_59 : decode cX1_open 59 = .ok (.aload_n 0, 1) := by decide +kernel
theorem dX1_open_60 : decode cX1_open 60 = .ok (.dup, 1) := by decide +kernel
theorem dX1_open_61 : decode cX1_open 61 = .ok (.getfield 39, 3) := by decide +kernel
theorem dX1_open_64 : decode cX1_open 64 = .ok (.iconst 1, 1) := by decide +kernel
theorem dX1_open_65 : decode cX1_open 65 = .ok (.iadd, 1) := by decide +kernel
theorem dX1_open_66 : decode cX1_open 66 = .ok (.putfield 39, 3) := by decide +kernel
theorem dX1_open_69 : decode cX1_open 69 = .ok (.return_, 1) := by decide +kernel
theorem dX1_addLetter_0 : decode cX1_addLetter 0 = .ok (.aload_n 0, 1) := by decide +kernel
theorem dX1_addLetter_1 : decode cX1_addLetter 1 = .ok (.getfield 39, 3) := by decide +kernel
theorem dX1_addLetter_4 : decode cX1_addLetter 4 = .ok (.iconst 1, 1) := by decide +kernel
theorem dX1_addLetter_5 : decode cX1_addLetter 5 = .ok (.isub, 1) := by decide +kernel
theorem dX1_addLetter_6 : decode cX1_addLetter 6 = .ok (.istore_n 3, 1) := by decide +kernel
theorem dX1_addLetter_7 : decode cX1_addLetter 7 = .ok (.iload_n 3, 1) := by decide +kernel
theorem dX1_addLetter_8 : decode cX1_addLetter 8 = .ok (.ifCond .lt 59, 3) := by decide +kernel
theorem dX1_addLetter_11 : decode cX1_addLetter 11 = .ok (.aload_n 0, 1) := by decide +kernel
theorem dX1_addLetter_12 : decode cX1_addLetter 12 = .ok (.getfield 43, 3) := by decide +kernel
theorem dX1_addLetter_15 : decode cX1_addLetter 15 = .ok (.sipush 3000, 3) := by decide +kernel
theorem dX1_addLetter_18 : decode cX1_addLetter 18 = .ok (.if_icmp .ge 49, 3) := by decide +kernel
theorem dX1_addLetter_21 : decode cX1_addLetter 21 = .ok (.aload_n 0, 1) := by decide +kernel
theorem dX1_addLetter_22 : decode cX1_addLetter 22 = .ok (.getfield 27, 3) := by decide +kernel
theorem dX1_addLetter_25 : decode cX1_addLetter 25 = .ok (.iload_n 3, 1) := by decide +kernel
theorem dX1_addLetter_26 : decode cX1_addLetter 26 = .ok (.iaload, 1) := by decide +kernel
theorem dX1_addLetter_27 : decode cX1_addLetter 27 = .ok (.ifCond .ne 10, 3) := by decide +kernel
theorem dX1_addLetter_30 : decode cX1_addLetter 30 = .ok (.aload_n 0, 1) := by decide +kernel
theorem dX1_addLetter_31 : decode cX1_addLetter 31 = .ok (.getfield 33, 3) := by decide +kernel
theorem dX1_addLetter_34 : decode cX1_addLetter 34 = .ok (.iload_n 3, 1) := by decide +kernel
theorem dX1_addLetter_35 : decode cX1_addLetter 35 = .ok (.iload_n 2, 1) := by decide +kernel
theorem dX1_addLetter_36 : decode cX1_addLetter 36 = .ok (.iastore, 1) := by decide +kernel
theorem dX1_addLetter_37 : decode cX1_addLetter 37 = .ok (.aload_n 0, 1) := by decide +kernel
theorem dX1_addLetter_38 : decode cX1_addLetter 38 = .ok (.getfield 20, 3) := by decide +kernel
theorem dX1_addLetter_41 : decode cX1_addLetter 41 = .ok (.aload_n 0, 1) := by decide +kernel
theorem dX1_addLetter_42 : decode cX1_addLetter 42 = .ok (.getfield 43, 3) := by decide +kernel
theorem dX1_addLetter_45 : decode cX1_addLetter 45 = .ok (.iload_n 1, 1) := by decide +kernel
theorem dX1_addLetter_46 : decode cX1_addLetter 46 = .ok (.iastore, 1) := by decide +kernel
theorem dX1_addLetter_47 : decode cX1_addLetter 47 = .ok (.aload_n 0, 1) := by decide +kernel
theorem dX1_addLetter_48 : decode cX1_addLetter 48 = .ok (.dup, 1) := by decide +kernel
theorem dX1_addLetter_49 : decode cX1_addLetter 49 = .ok (.getfield 43, 3) := by decide +kernel
theorem dX1_addLetter_52 : decode cX1_addLetter 52 = .ok (.iconst 1, 1) := by decide +kernel
theorem dX1_addLetter_53 : decode cX1_addLetter 53 = .ok (.iadd, 1) := by decide +kernel
theorem dX1_addLetter_54 : decode cX1_addLetter 54 = .ok (.putfield 43, 3) := by decide +kernel
theorem dX1_addLetter_57 : decode cX1_addLetter 57 = .ok (.aload_n 0, 1) := by decide +kernel
theorem dX1_addLetter_58 : decode cX1_addLetter 58 = .ok (.getfield 27, 3) := by decide +kernel
theorem dX1_addLetter_61 : decode cX1_addLetter 61 = .ok (.iload_n 3, 1) := by decide +kernel
theorem dX1_addLetter_62 : decode cX1_addLetter 62 = .ok (.dup2, 1) := by decide +kernel
theorem dX1_addLetter_63 : decode cX1_addLetter 63 = .ok (.iaload, 1) := by decide +kernel
theorem dX1_addLetter_64 : decode cX1_addLetter 64 = .ok (.iconst 1, 1) := by decide +kernel
theorem dX1_addLetter_65 : decode cX1_addLetter 65 = .ok (.iadd, 1) := by decide +kernel
theorem dX1_addLetter_66 : decode cX1_addLetter 66 = .ok (.iastore, 1) := by decide +kernel
theorem dX1_addLetter_67 : decode cX1_addLetter 67 = .ok (.return_, 1) := by decide +kernel
theorem dX1_setWidth_0 : decode cX1_setWidth 0 = .ok (.aload_n 0, 1) := by decide +kernel
theorem dX1_setWidth_1 : decode cX1_setWidth 1 = .ok (.getfield 39, 3) := by decide +kernel
theorem dX1_setWidth_4 : decode cX1_setWidth 4 = .ok (.ifCond .le 15, 3) := by decide +kernel
theorem dX1_setWidth_7 : decode cX1_setWidth 7 = .ok (.aload_n 0, 1) := by decide +kernel
theorem dX1_setWidth_8 : decode cX1_setWidth 8 = .ok (.getfield 30, 3) := by decide +kernel
theorem dX1_setWidth_11 : decode cX1_setWidth 11 = .ok (.aload_n 0, 1) := by decide +kernel
theorem dX1_setWidth_12 : decode cX1_setWidth 12 = .ok (.getfield 39, 3) := by decide +kernel
theorem dX1_setWidth_15 : decode cX1_setWidth 15 = .ok (.iconst 1, 1) := by decide +kernel
theorem dX1_setWidth_16 : decode cX1_setWidth 16 = .ok (.isub, 1) := by decide +kernel
theorem dX1_setWidth_17 : decode cX1_setWidth 17 = .ok (.iload_n 1, 1) := by decide +kernel
theorem dX1_setWidth_18 : decode cX1_setWidth 18 = .ok (.iastore, 1) := by decide +kernel
theorem dX1_setWidth_19 : decode cX1_setWidth 19 = .ok (.return_, 1) := by decide +kernel
theorem dX1_has_0 : decode cX1_has 0 = .ok (.iload_n 1, 1) := by decide +kernel
theorem dX1_has_1 : decode cX1_has 1 = .ok (.ifCond .lt 15, 3) := by decide +kernel
theorem dX1_has_4 : decode cX1_has 4 = .ok (.iload_n 1, 1) := by decide +kernel
theorem dX1_has_5 : decode cX1_has 5 = .ok (.aload_n 0, 1) := by decide +kernel
theorem dX1_has_6 : decode cX1_has 6 = .ok (.getfield 39, 3) := by decide +kernel
theorem dX1_has_9 : decode cX1_has 9 = .ok (.if_icmp .ge 7, 3) := by decide +kernel
theorem dX1_has_12 : decode cX1_has 12 = .ok (.iconst 1, 1) := by decide +kernel
theorem dX1_has_13 : decode cX1_has 13 = .ok (.goto 4, 3) := by decide +kernel
theorem dX1_has_16 : decode cX1_has 16 = .ok (.iconst 0, 1) := by decide +kernel
theorem dX1_has_17 : decode cX1_has 17 = .ok (.ireturn, 1) := by decide +kernel
theorem dX1_sizeOf_0 : decode cX1_sizeOf 0 = .ok (.aload_n 0, 1) := by decide +kernel
theorem dX1_sizeOf_1 : decode cX1_sizeOf 1 = .ok (.iload_n 1, 1) := by decide +kernel
theorem dX1_sizeOf_2 : decode cX1_sizeOf 2 = .ok (.invokevirtual 49, 3) := by decide +kernel
theorem dX1_sizeOf_5 : decode cX1_sizeOf 5 = .ok (.ifCond .eq 12, 3) := by decide +kernel
theorem dX1_sizeOf_8 : decode cX1_sizeOf 8 = .ok (.aload_n 0, 1) := by decide +kernel
theorem dX1_sizeOf_9 : decode cX1_sizeOf 9 = .ok (.getfield 27, 3) := by decide +kernel
theorem dX1_sizeOf_12 : decode cX1_sizeOf 12 = .ok (.iload_n 1, 1) := by decide +kernel
theorem dX1_sizeOf_13 : decode cX1_sizeOf 13 = .ok (.iaload, 1) := by decide +kernel
theorem dX1_sizeOf_14 : decode cX1_sizeOf 14 = .ok (.goto 4, 3) := by decide +kernel
theorem dX1_sizeOf_17 : decode cX1_sizeOf 17 = .ok (.iconst 0, 1) := by decide +kernel
theorem dX1_sizeOf_18 : decode cX1_sizeOf 18 = .ok (.ireturn, 1) := by decide +kernel
theorem dX1_letterAt_0 : decode cX1_letterAt 0 = .ok (.aload_n 0, 1) := by decide +kernel
theorem dX1_letterAt_1 : decode cX1_letterAt 1 = .ok (.iload_n 1, 1) := by decide +kernel
theorem dX1_letterAt_2 : decode cX1_letterAt 2 = .ok (.invokevirtual 49, 3) := by decide +kernel
theorem dX1_letterAt_5 : decode cX1_letterAt 5 = .ok (.ifCond .eq 36, 3) := by decide +kernel
theorem dX1_letterAt_8 : decode cX1_letterAt 8 = .ok (.iload_n 2, 1) := by decide +kernel
theorem dX1_letterAt_9 : decode cX1_letterAt 9 = .ok (.iconst 1, 1) := by decide +kernel
theorem dX1_letterAt_10 : decode cX1_letterAt 10 = .ok (.if_icmp .lt 31, 3) := by decide +kernel
theorem dX1_letterAt_13 : decode cX1_letterAt 13 = .ok (.iload_n 2, 1) := by decide +kernel
theorem dX1_letterAt_14 : decode cX1_letterAt 14 = .ok (.aload_n 0, 1) := by decide +kernel
theorem dX1_letterAt_15 : decode cX1_letterAt 15 = .ok (.getfield 27, 3) := by decide +kernel
theorem dX1_letterAt_18 : decode cX1_letterAt 18 = .ok (.iload_n 1, 1) := by decide +kernel
theorem dX1_letterAt_19 : decode cX1_letterAt 19 = .ok (.iaload, 1) := by decide +kernel
theorem dX1_letterAt_20 : decode cX1_letterAt 20 = .ok (.if_icmp .gt 21, 3) := by decide +kernel
theorem dX1_letterAt_23 : decode cX1_letterAt 23 = .ok (.aload_n 0, 1) := by decide +kernel
theorem dX1_letterAt_24 : decode cX1_letterAt 24 = .ok (.getfield 20, 3) := by decide +kernel
theorem dX1_letterAt_27 : decode cX1_letterAt 27 = .ok (.aload_n 0, 1) := by decide +kernel
theorem dX1_letterAt_28 : decode cX1_letterAt 28 = .ok (.getfield 24, 3) := by decide +kernel
theorem dX1_letterAt_31 : decode cX1_letterAt 31 = .ok (.iload_n 1, 1) := by decide +kernel
theorem dX1_letterAt_32 : decode cX1_letterAt 32 = .ok (.iaload, 1) := by decide +kernel
theorem dX1_letterAt_33 : decode cX1_letterAt 33 = .ok (.iload_n 2, 1) := by decide +kernel
theorem dX1_letterAt_34 : decode cX1_letterAt 34 = .ok (.iadd, 1) := by decide +kernel
theorem dX1_letterAt_35 : decode cX1_letterAt 35 = .ok (.iconst 1, 1) := by decide +kernel
theorem dX1_letterAt_36 : decode cX1_letterAt 36 = .ok (.isub, 1) := by decide +kernel
theorem dX1_letterAt_37 : decode cX1_letterAt 37 = .ok (.iaload, 1) := by decide +kernel
theorem dX1_letterAt_38 : decode cX1_letterAt 38 = .ok (.goto 4, 3) := by decide +kernel
theorem dX1_letterAt_41 : decode cX1_letterAt 41 = .ok (.iconst (-1), 1) := by decide +kernel
theorem dX1_letterAt_42 : decode cX1_letterAt 42 = .ok (.ireturn, 1) := by decide +kernel
theorem dX1_writeLetters_0 : decode cX1_writeLetters 0 = .ok (.aload_n 0, 1) := by decide +kernel
theorem dX1_writeLetters_1 : decode cX1_writeLetters 1 = .ok (.iload_n 1, 1) := by decide +kernel
theorem dX1_writeLetters_2 : decode cX1_writeLetters 2 = .ok (.invokevirtual 49, 3) := by decide +kernel
theorem dX1_writeLetters_5 : decode cX1_writeLetters 5 = .ok (.ifCond .eq 25, 3) := by decide +kernel
theorem dX1_writeLetters_8 : decode cX1_writeLetters 8 = .ok (.aload 4, 2) := by decide +kernel
theorem dX1_writeLetters_10 : decode cX1_writeLetters 10 = .ok (.aload_n 0, 1) := by decide +kernel
theorem dX1_writeLetters_11 : decode cX1_writeLetters 11 = .ok (.getfield 20, 3) := by decide +kernel
theorem dX1_writeLetters_14 : decode cX1_writeLetters 14 = .ok (.aload_n 0, 1) := by decide +kernel
theorem dX1_writeLetters_15 : decode cX1_writeLetters 15 = .ok (.getfield 24, 3) := by decide +kernel
theorem dX1_writeLetters_18 : decode cX1_writeLetters 18 = .ok (.iload_n 1, 1) := by decide +kernel
theorem dX1_writeLetters_19 : decode cX1_writeLetters 19 = .ok (.iaload, 1) := by decide +kernel
theorem dX1_writeLetters_20 : decode cX1_writeLetters 20 = .ok (.iload_n 2, 1) := by decide +kernel
theorem dX1_writeLetters_21 : decode cX1_writeLetters 21 = .ok (.iadd, 1) := by decide +kernel
theorem dX1_writeLetters_22 : decode cX1_writeLetters 22 = .ok (.iconst 1, 1) := by decide +kernel
theorem dX1_writeLetters_23 : decode cX1_writeLetters 23 = .ok (.isub, 1) := by decide +kernel
theorem dX1_writeLetters_24 : decode cX1_writeLetters 24 = .ok (.iload_n 3, 1) := by decide +kernel
theorem dX1_writeLetters_25 : decode cX1_writeLetters 25 = .ok (.iload_n 2, 1) := by decide +kernel
theorem dX1_writeLetters_26 : decode cX1_writeLetters 26 = .ok (.isub, 1) := by decide +kernel
theorem dX1_writeLetters_27 : decode cX1_writeLetters 27 = .ok (.invokevirtual 53, 3) := by decide +kernel
theorem dX1_writeLetters_30 : decode cX1_writeLetters 30 = .ok (.return_, 1) := by decide +kernel
theorem dX2_init_0 : decode cX2_init 0 = .ok (.aload_n 0, 1) := by decide +kernel
theorem dX2_init_1 : decode cX2_init 1 = .ok (.invokespecial 3, 3) := by decide +kernel
theorem dX2_init_4 : decode cX2_init 4 = .ok (.aload_n 0, 1) := by decide +kernel
theorem dX2_init_5 : decode cX2_init 5 = .ok (.aload_n 1, 1) := by decide +kernel
theorem dX2_init_6 : decode cX2_init 6 = .ok (.putfield 9, 3) := by decide +kernel
theorem dX2_init_9 : decode cX2_init 9 = .ok (.aload_n 0, 1) := by decide +kernel
theorem dX2_init_10 : decode cX2_init 10 = .ok (.aload_n 2, 1) := by decide +kernel
theorem dX2_init_11 : decode cX2_init 11 = .ok (.putfield 15, 3) := by decide +kernel
theorem dX2_init_14 : decode cX2_init 14 = .ok (.aload_n 0, 1) := by decide +kernel
theorem dX2_init_15 : decode cX2_init 15 = .ok (.iconst 0, 1) := by decide +kernel
theorem dX2_init_16 : decode cX2_init 16 = .ok (.putfield 19, 3) := by decide +kernel
theorem dX2_init_19 : decode cX2_init 19 = .ok (.return_, 1) := by decide +kernel
theorem dX2_run_0 : decode cX2_run 0 = .ok (.aload_n 0, 1) := by decide +kernel
theorem dX2_run_1 : decode cX2_run 1 = .ok (.getfield 15, 3) := by decide +kernel
theorem dX2_run_4 : decode cX2_run 4 = .ok (.invokevirtual 23, 3) := by decide +kernel
theorem dX2_run_7 : decode cX2_run 7 = .ok (.iconst 0, 1) := by decide +kernel
theorem dX2_run_8 : decode cX2_run 8 = .ok (.istore_n 1, 1) := by decide +kernel
theorem dX2_run_9 : decode cX2_run 9 = .ok (.iload_n 1, 1) := by decide +kernel
theorem dX2_run_10 : decode cX2_run 10 = .ok (.aload_n 0, 1) := by decide +kernel
theorem dX2_run_11 : decode cX2_run 11 = .ok (.getfield 9, 3) := by decide +kernel
theorem dX2_run_14 : decode cX2_run 14 = .ok (.getfield 28, 3) := by decide +kernel
theorem dX2_run_17 : decode cX2_run 17 = .ok (.if_icmp .ge 31, 3) := by decide +kernel
theorem dX2_run_20 : decode cX2_run 20 = .ok (.aload_n 0, 1) := by decide +kernel
theorem dX2_run_21 : decode cX2_run 21 = .ok (.iload_n 1, 1) := by decide +kernel
theorem dX2_run_22 : decode cX2_run 22 = .ok (.putfield 33, 3) := by decide +kernel
theorem dX2_run_25 : decode cX2_run 25 = .ok (.aload_n 0, 1) := by decide +kernel
theorem dX2_run_26 : decode cX2_run 26 = .ok (.aload_n 0, 1) := by decide +kernel
theorem dX2_run_27 : decode cX2_run 27 = .ok (.getfield 9, 3) := by decide +kernel
theorem dX2_run_30 : decode cX2_run 30 = .ok (.iload_n 1, 1) := by decide +kernel
theorem dX2_run_31 : decode cX2_run 31 = .ok (.invokevirtual 36, 3) := by decide +kernel
theorem dX2_run_34 : decode cX2_run 34 = .ok (.invokevirtual 39, 3) := by decide +kernel
theorem dX2_run_37 : decode cX2_run 37 = .ok (.ifCond .ne 5, 3) := by decide +kernel
theorem dX2_run_40 : decode cX2_run 40 = .ok (.iconst 0, 1) := by decide +kernel
theorem dX2_run_41 : decode cX2_run 41 = .ok (.ireturn, 1) := by decide +kernel
theorem dX2_run_42 : decode cX2_run 42 = .ok (.iinc 1 1, 3) := by decide +kernel
theorem dX2_run_45 : decode cX2_run 45 = .ok (.goto (-36), 3) := by decide +kernel
theorem dX2_run_48 : decode cX2_run 48 = .ok (.aload_n 0, 1) := by decide +kernel
theorem dX2_run_49 : decode cX2_run 49 = .ok (.aload_n 0, 1) := by decide +kernel
theorem dX2_run_50 : decode cX2_run 50 = .ok (.getfield 9, 3) := by decide +kernel
theorem dX2_run_53 : decode cX2_run 53 = .ok (.getfield 28, 3) := by decide +kernel
theorem dX2_run_56 : decode cX2_run 56 = .ok (.putfield 33, 3) := by decide +kernel
theorem dX2_run_59 : decode cX2_run 59 = .ok (.aload_n 0, 1) := by decide +kernel
theorem dX2_run_60 : decode cX2_run 60 = .ok (.getfield 19, 3) := by decide +kernel
theorem dX2_run_63 : decode cX2_run 63 = .ok (.iconst 5, 1) := by decide +kernel
theorem dX2_run_64 : decode cX2_run 64 = .ok (.if_icmp .eq 11, 3) := by decide +kernel
theorem dX2_run_67 : decode cX2_run 67 = .ok (.aload_n 0, 1) := by decide +kernel
theorem dX2_run_68 : decode cX2_run 68 = .ok (.iconst 1, 1) := by decide +kernel
theorem dX2_run_69 : decode cX2_run 69 = .ok (.invokevirtual 43, 3) := by decide +kernel
theorem dX2_run_72 : decode cX2_run 72 = .ok (.ifCond .eq 7, 3) := by decide +kernel
theorem dX2_run_75 : decode cX2_run 75 = .ok (.iconst 1, 1) := by decide +kernel
theorem dX2_run_76 : decode cX2_run 76 = .ok (.goto 4, 3) := by decide +kernel
theorem dX2_run_79 : decode cX2_run 79 = .ok (.iconst 0, 1) := by decide +kernel
theorem dX2_run_80 : decode cX2_run 80 = .ok (.ireturn, 1) := by decide +kernel
theorem dX2_fail_0 : decode cX2_fail 0 = .ok (.aload_n 0, 1) := by decide +kernel
theorem dX2_fail_1 : decode cX2_fail 1 = .ok (.iload_n 1, 1) := by decide +kernel
theorem dX2_fail_2 : decode cX2_fail 2 = .ok (.putfield 46, 3) := by decide +kernel
theorem dX2_fail_5 : decode cX2_fail 5 = .ok (.aload_n 0, 1) := by decide +kernel
theorem dX2_fail_6 : decode cX2_fail 6 = .ok (.aload_n 0, 1) := by decide +kernel
theorem dX2_fail_7 : decode cX2_fail 7 = .ok (.getfield 33, 3) := by decide +kernel
theorem dX2_fail_10 : decode cX2_fail 10 = .ok (.putfield 49, 3) := by decide +kernel
theorem dX2_fail_13 : decode cX2_fail 13 = .ok (.iconst 0, 1) := by decide +kernel
theorem dX2_fail_14 : decode cX2_fail 14 = .ok (.ireturn, 1) := by decide +kernel
theorem dX2_take_0 : decode cX2_take 0 = .ok (.aload_n 0, 1) := by decide +kernel
theorem dX2_take_1 : decode cX2_take 1 = .ok (.getfield 19, 3) := by decide +kernel
theorem dX2_take_4 : decode cX2_take 4 = .ok (.tableswitch 50 1 4 #[32, 38, 50, 44], 32) := by decide +kernel
theorem dX2_take_36 : decode cX2_take 36 = .ok (.aload_n 0, 1) := by decide +kernel
theorem dX2_take_37 : decode cX2_take 37 = .ok (.iload_n 1, 1) := by decide +kernel
theorem dX2_take_38 : decode cX2_take 38 = .ok (.invokevirtual 52, 3) := by decide +kernel
theorem dX2_take_41 : decode cX2_take 41 = .ok (.ireturn, 1) := by decide +kernel
theorem dX2_take_42 : decode cX2_take 42 = .ok (.aload_n 0, 1) := by decide +kernel
theorem dX2_take_43 : decode cX2_take 43 = .ok (.iload_n 1, 1) := by decide +kernel
theorem dX2_take_44 : decode cX2_take 44 = .ok (.invokevirtual 55, 3) := by decide +kernel
theorem dX2_take_47 : decode cX2_take 47 = .ok (.ireturn, 1) := by decide +kernel
theorem dX2_take_48 : decode cX2_take 48 = .ok (.aload_n 0, 1) := by decide +kernel
theorem dX2_take_49 : decode cX2_take 49 = .ok (.iload_n 1, 1) := by decide +kernel
theorem dX2_take_50 : decode cX2_take 50 = .ok (.invokevirtual 58, 3) := by decide +kernel
theorem dX2_take_53 : decode cX2_take 53 = .ok (.ireturn, 1) := by decide +kernel
theorem dX2_take_54 : decode cX2_take 54 = .ok (.aload_n 0, 1) := by decide +kernel
theorem dX2_take_55 : decode cX2_take 55 = .ok (.iload_n 1, 1) := by decide +kernel
theorem dX2_take_56 : decode cX2_take 56 = .ok (.invokevirtual 61, 3) := by decide +kernel
theorem dX2_take_59 : decode cX2_take 59 = .ok (.ireturn, 1) := by decide +kernel
theorem dX2_takeAtLineStart_0 : decode cX2_takeAtLineStart 0 = .ok (.iload_n 1, 1) := by decide +kernel
theorem dX2_takeAtLineStart_1 : decode cX2_takeAtLineStart 1 = .ok (.bipush 62, 2) := by decide +kernel
theorem dX2_takeAtLineStart_3 : decode cX2_takeAtLineStart 3 = .ok (.if_icmp .ne 16, 3) := by decide +kernel
theorem dX2_takeAtLineStart_6 : decode cX2_takeAtLineStart 6 = .ok (.aload_n 0, 1) := by decide +kernel
theorem dX2_takeAtLineStart_7 : decode cX2_takeAtLineStart 7 = .ok (.getfield 19, 3) := by decide +kernel
theorem dX2_takeAtLineStart_10 : decode cX2_takeAtLineStart 10 = .ok (.iconst 3, 1) := by decide +kernel
theorem dX2_takeAtLineStart_11 : decode cX2_takeAtLineStart 11 = .ok (.if_icmp .eq 8, 3) := by decide +kernel
theorem dX2_takeAtLineStart_14 : decode cX2_takeAtLineStart 14 = .ok (.aload_n 0, 1) := by decide +kernel
theorem dX2_takeAtLineStart_15 : decode cX2_takeAtLineStart 15 = .ok (.invokevirtual 64, 3) := by decide +kernel
theorem dX2_takeAtLineStart_18 : decode cX2_takeAtLineStart 18 = .ok (.ireturn, 1) := by decide +kernel
theorem dX2_takeAtLineStart_19 : decode cX2_takeAtLineStart 19 = .ok (.iload_n 1, 1) := by decide +kernel
theorem dX2_takeAtLineStart_20 : decode cX2_takeAtLineStart 20 = .ok (.invokestatic 68, 3) := by decide +kernel
theorem dX2_takeAtLineStart_23 : decode cX2_takeAtLineStart 23 = .ok (.iconst (-1), 1) := by decide +kernel
theorem dX2_takeAtLineStart_24 : decode cX2_takeAtLineStart 24 = .ok (.if_icmp .eq 19, 3) := by decide +kernel
theorem dX2_takeAtLineStart_27 : decode cX2_takeAtLineStart 27 = .ok (.aload_n 0, 1) := by decide +kernel
theorem dX2_takeAtLineStart_28 : decode cX2_takeAtLineStart 28 = .ok (.getfield 19, 3) := by decide +kernel
theorem dX2_takeAtLineStart_31 : decode cX2_takeAtLineStart 31 = .ok (.ifCond .eq 12, 3) := by decide +kernel
theorem dX2_takeAtLineStart_34 : decode cX2_takeAtLineStart 34 = .ok (.aload_n 0, 1) := by decide +kernel
theorem dX2_takeAtLineStart_35 : decode cX2_takeAtLineStart 35 = .ok (.iload_n 1, 1) := by decide +kernel
theorem dX2_takeAtLineStart_36 : decode cX2_takeAtLineStart 36 = .ok (.invokestatic 68, 3) := by decide +kernel
theorem dX2_takeAtLineStart_39 : decode cX2_takeAtLineStart 39 = .ok (.invokevirtual 71, 3) := by decide +kernel
theorem dX2_takeAtLineStart_42 : decode cX2_takeAtLineStart 42 = .ok (.ireturn, 1) := by decide +kernel
theorem dX2_takeAtLineStart_43 : decode cX2_takeAtLineStart 43 = .ok (.aload_n 0, 1) := by decide +kernel
theorem dX2_takeAtLineStart_44 : decode cX2_takeAtLineStart 44 = .ok (.iconst 2, 1) := by decide +kernel
theorem dX2_takeAtLineStart_45 : decode cX2_takeAtLineStart 45 = .ok (.invokevirtual 43, 3) := by decide +kernel
theorem dX2_takeAtLineStart_48 : decode cX2_takeAtLineStart 48 = .ok (.ireturn, 1) := by decide +kernel
theorem dX2_openSequence_0 : decode cX2_openSequence 0 = .ok (.aload_n 0, 1) := by decide +kernel
theorem dX2_openSequence_1 : decode cX2_openSequence 1 = .ok (.getfield 15, 3) := by decide +kernel
theorem dX2_openSequence_4 : decode cX2_openSequence 4 = .ok (.getfield 74, 3) := by decide +kernel
theorem dX2_openSequence_7 : decode cX2_openSequence 7 = .ok (.bipush 8, 2) := by decide +kernel
theorem dX2_openSequence_9 : decode cX2_openSequence 9 = .ok (.if_icmp .ne 9, 3) := by decide +kernel
theorem dX2_openSequence_12 : decode cX2_openSequence 12 = .ok (.aload_n 0, 1) := by decide +kernel
theorem dX2_openSequence_13 : decode cX2_openSequence 13 = .ok (.iconst 3, 1) := by decide +kernel
theorem dX2_openSequence_14 : decode cX2_openSequence 14 = .ok (.invokevirtual 43, 3) := by decide +kernel
theorem dX2_openSequence_17 : decode cX2_openSequence 17 = .ok (.ireturn, 1) := by decide +kernel
theorem dX2_openSequence_18 : decode cX2_openSequence 18 = .ok (.aload_n 0, 1) := by decide +kernel
theorem dX2_openSequence_19 : decode cX2_openSequence 19 = .ok (.getfield 15, 3) := by decide +kernel
theorem dX2_openSequence_22 : decode cX2_openSequence 22 = .ok (.invokevirtual 77, 3) := by decide +kernel
theorem dX2_openSequence_25 : decode cX2_openSequence 25 = .ok (.aload_n 0, 1) := by decide +kernel
theorem dX2_openSequence_26 : decode cX2_openSequence 26 = .ok (.iconst 0, 1) := by decide +kernel
theorem dX2_openSequence_27 : decode cX2_openSequence 27 = .ok (.putfield 80, 3) := by decide +kernel
theorem dX2_openSequence_30 : decode cX2_openSequence 30 = .ok (.aload_n 0, 1) := by decide +kernel
theorem dX2_openSequence_31 : decode cX2_openSequence 31 = .ok (.aload_n 0, 1) := by decide +kernel
theorem dX2_openSequence_32 : decode cX2_openSequence 32 = .ok (.getfield 33, 3) := by decide +kernel
theorem dX2_openSequence_35 : decode cX2_openSequence 35 = .ok (.iconst 1, 1) := by decide +kernel
theorem dX2_openSequence_36 : decode cX2_openSequence 36 = .ok (.iadd, 1) := by decide +kernel
theorem dX2_openSequence_37 : decode cX2_openSequence 37 = .ok (.putfield 83, 3) := by decide +kernel
theorem dX2_openSequence_40 : decode cX2_openSequence 40 = .ok (.aload_n 0, 1) := by decide +kernel
theorem dX2_openSequence_41 : decode cX2_openSequence 41 = .ok (.iconst 1, 1) := by decide +kernel
theorem dX2_openSequence_42 : decode cX2_openSequence 42 = .ok (.putfield 19, 3) := by decide +kernel
theorem dX2_openSequence_45 : decode cX2_openSequence 45 = .ok (.iconst 1, 1) := by decide +kernel
theorem dX2_openSequence_46 : decode cX2_openSequence 46 = .ok (.ireturn, 1) := by decide +kernel
theorem dX2_takeInName_0 : decode cX2_takeInName 0 = .ok (.iload_n 1, 1) := by decide +kernel
theorem dX2_takeInName_1 : decode cX2_takeInName 1 = .ok (.invokestatic 86, 3) := by decide +kernel
theorem dX2_takeInName_4 : decode cX2_takeInName 4 = .ok (.ifCond .eq 41, 3) := by decide +kernel
theorem dX2_takeInName_7 : decode cX2_takeInName 7 = .ok (.aload_n 0, 1) := by decide +kernel
theorem dX2_takeInName_8 : decode cX2_takeInName 8 = .ok (.getfield 80, 3) := by decide +kernel
theorem dX2_takeInName_11 : decode cX2_takeInName 11 = .ok (.bipush 20, 2) := by decide +kernel
theorem dX2_takeInName_13 : decode cX2_takeInName 13 = .ok (.if_icmp .ne 9, 3) := by decide +kernel
theorem dX2_takeInName_16 : decode cX2_takeInName 16 = .ok (.aload_n 0, 1) := by decide +kernel
theorem dX2_takeInName_17 : decode cX2_takeInName 17 = .ok (.iconst 3, 1) := by decide +kernel
theorem dX2_takeInName_18 : decode cX2_takeInName 18 = .ok (.invokevirtual 43, 3) := by decide +kernel
theorem dX2_takeInName_21 : decode cX2_takeInName 21 = .ok (.ireturn, 1) := by decide +kernel
theorem dX2_takeInName_22 : decode cX2_takeInName 22 = .ok (.aload_n 0, 1) := by decide +kernel
theorem dX2_takeInName_23 : decode cX2_takeInName 23 = .ok (.getfield 15, 3) := by decide +kernel
theorem dX2_takeInName_26 : decode cX2_takeInName 26 = .ok (.getfield 89, 3) := by decide +kernel
theorem dX2_takeInName_29 : decode cX2_takeInName 29 = .ok (.iload_n 1, 1) := by decide +kernel
theorem dX2_takeInName_30 : decode cX2_takeInName 30 = .ok (.invokevirtual 93, 3) := by decide +kernel
theorem dX2_takeInName_33 : decode cX2_takeInName 33 = .ok (.aload_n 0, 1) := by decide +kernel
theorem dX2_takeInName_34 : decode cX2_takeInName 34 = .ok (.dup, 1) := by decide +kernel
theorem dX2_takeInName_35 : decode cX2_takeInName 35 = .ok (.getfield 80, 3) := by decide +kernel
theorem dX2_takeInName_38 : decode cX2_takeInName 38 = .ok (.iconst 1, 1) := by decide +kernel
theorem dX2_takeInName_39 : decode cX2_takeInName 39 = .ok (.iadd, 1) := by decide +kernel
theorem dX2_takeInName_40 : decode cX2_takeInName 40 = .ok (.putfield 80, 3) := by decide +kernel
theorem dX2_takeInName_43 : decode cX2_takeInName 43 = .ok (.iconst 1, 1) := by decide +kernel
theorem dX2_takeInName_44 : decode cX2_takeInName 44 = .ok (.ireturn, 1) := by decide +kernel
theorem dX2_takeInName_45 : decode cX2_takeInName 45 = .ok (.aload_n 0, 1) := by decide +kernel
theorem dX2_takeInName_46 : decode cX2_takeInName 46 = .ok (.getfield 80, 3) := by decide +kernel
theorem dX2_takeInName_49 : decode cX2_takeInName 49 = .ok (.ifCond .ne 9, 3) := by decide +kernel
theorem dX2_takeInName_52 : decode cX2_takeInName 52 = .ok (.aload_n 0, 1) := by decide +kernel
theorem dX2_takeInName_53 : decode cX2_takeInName 53 = .ok (.iconst 2, 1) := by decide +kernel
theorem dX2_takeInName_54 : decode cX2_takeInName 54 = .ok (.invokevirtual 43, 3) := by decide +kernel
theorem dX2_takeInName_57 : decode cX2_takeInName 57 = .ok (.ireturn, 1) := by decide +kernel
theorem dX2_takeInName_58 : decode cX2_takeInName 58 = .ok (.iload_n 1, 1) := by decide +kernel
theorem dX2_takeInName_59 : decode cX2_takeInName 59 = .ok (.bipush 10, 2) := by decide +kernel
theorem dX2_takeInName_61 : decode cX2_takeInName 61 = .ok (.if_icmp .ne 8, 3) := by decide +kernel
theorem dX2_takeInName_64 : decode cX2_takeInName 64 = .ok (.aload_n 0, 1) := by decide +kernel
theorem dX2_takeInName_65 : decode cX2_takeInName 65 = .ok (.invokevirtual 99, 3) := by decide +kernel
theorem dX2_takeInName_68 : decode cX2_takeInName 68 = .ok (.ireturn, 1) := by decide +kernel
theorem dX2_takeInName_69 : decode cX2_takeInName 69 = .ok (.aload_n 0, 1) := by decide +kernel
theorem dX2_takeInName_70 : decode cX2_takeInName 70 = .ok (.iconst 2, 1) := by decide +kernel
theorem dX2_takeInName_71 : decode cX2_takeInName 71 = .ok (.putfield 19, 3) := by decide +kernel
theorem dX2_takeInName_74 : decode cX2_takeInName 74 = .ok (.iload_n 1, 1) := by decide +kernel
theorem dX2_takeInName_75 : decode cX2_takeInName 75 = .ok (.bipush 32, 2) := by decide +kernel
theorem dX2_takeInName_77 : decode cX2_takeInName 77 = .ok (.if_icmp .eq 11, 3) := by decide +kernel
theorem dX2_takeInName_80 : decode cX2_takeInName 80 = .ok (.aload_n 0, 1) := by decide +kernel
theorem dX2_takeInName_81 : decode cX2_takeInName 81 = .ok (.iconst 2, 1) := by decide +kernel
theorem dX2_takeInName_82 : decode cX2_takeInName 82 = .ok (.invokevirtual 43, 3) := by decide +kernel
theorem dX2_takeInName_85 : decode cX2_takeInName 85 = .ok (.ifCond .eq 7, 3) := by decide +kernel
theorem dX2_takeInName_88 : decode cX2_takeInName 88 = .ok (.iconst 1, 1) := by decide +kernel
theorem dX2_takeInName_89 : decode cX2_takeInName 89 = .ok (.goto 4, 3) := by decide +kernel
theorem dX2_takeInName_92 : decode cX2_takeInName 92 = .ok (.iconst 0, 1) := by decide +kernel
theorem dX2_takeInName_93 : decode cX2_takeInName 93 = .ok (.ireturn, 1) := by decide +kernel
theorem dX2_takeInRemark_0 : decode cX2_takeInRemark 0 = .ok (.iload_n 1, 1) := by decide +kernel
theorem dX2_takeInRemark_1 : decode cX2_takeInRemark 1 = .ok (.bipush 10, 2) := by decide +kernel
theorem dX2_takeInRemark_3 : decode cX2_takeInRemark 3 = .ok (.if_icmp .ne 8, 3) := by decide +kernel
theorem dX2_takeInRemark_6 : decode cX2_takeInRemark 6 = .ok (.aload_n 0, 1) := by decide +kernel
theorem dX2_takeInRemark_7 : decode cX2_takeInRemark 7 = .ok (.invokevirtual 99, 3) := by decide +kernel
theorem dX2_takeInRemark_10 : decode cX2_takeInRemark 10 = .ok (.ireturn, 1) := by decide +kernel
theorem dX2_takeInRemark_11 : decode cX2_takeInRemark 11 = .ok (.iload_n 1, 1) := by decide +kernel
theorem dX2_takeInRemark_12 : decode cX2_takeInRemark 12 = .ok (.bipush 32, 2) := by decide +kernel
theorem dX2_takeInRemark_14 : decode cX2_takeInRemark 14 = .ok (.if_icmp .lt 9, 3) := by decide +kernel
theorem dX2_takeInRemark_17 : decode cX2_takeInRemark 17 = .ok (.iload_n 1, 1) := by decide +kernel
theorem dX2_takeInRemark_18 : decode cX2_takeInRemark 18 = .ok (.bipush 126, 2) := by decide +kernel
theorem dX2_takeInRemark_20 : decode cX2_takeInRemark 20 = .ok (.if_icmp .le 11, 3) := by decide +kernel
theorem dX2_takeInRemark_23 : decode cX2_takeInRemark 23 = .ok (.aload_n 0, 1) := by decide +kernel
theorem dX2_takeInRemark_24 : decode cX2_takeInRemark 24 = .ok (.iconst 2, 1) := by decide +kernel
theorem dX2_takeInRemark_25 : decode cX2_takeInRemark 25 = .ok (.invokevirtual 43, 3) := by decide +kernel
theorem dX2_takeInRemark_28 : decode cX2_takeInRemark 28 = .ok (.ifCond .eq 7, 3) := by decide +kernel
theorem dX2_takeInRemark_31 : decode cX2_takeInRemark 31 = .ok (.iconst 1, 1) := by decide +kernel
theorem dX2_takeInRemark_32 : decode cX2_takeInRemark 32 = .ok (.goto 4, 3) := by decide +kernel
theorem dX2_takeInRemark_35 : decode cX2_takeInRemark 35 = .ok (.iconst 0, 1) := by decide +kernel
theorem dX2_takeInRemark_36 : decode cX2_takeInRemark 36 = .ok (.ireturn, 1) := by decide +kernel
theorem dX2_endNameLine_0 : decode cX2_endNameLine 0 = .ok (.aload_n 0, 1) := by decide +kernel
theorem dX2_endNameLine_1 : decode cX2_endNameLine 1 = .ok (.getfield 15, 3) := by decide +kernel
theorem dX2_endNameLine_4 : decode cX2_endNameLine 4 = .ok (.getfield 74, 3) := by decide +kernel
theorem dX2_endNameLine_7 : decode cX2_endNameLine 7 = .ok (.iconst 1, 1) := by decide +kernel
theorem dX2_endNameLine_8 : decode cX2_endNameLine 8 = .ok (.isub, 1) := by decide +kernel
theorem dX2_endNameLine_9 : decode cX2_endNameLine 9 = .ok (.istore_n 1, 1) := by decide +kernel
theorem dX2_endNameLine_10 : decode cX2_endNameLine 10 = .ok (.aload_n 0, 1) := by decide +kernel
theorem dX2_endNameLine_11 : decode cX2_endNameLine 11 = .ok (.getfield 15, 3) := by decide +kernel
theorem dX2_endNameLine_14 : decode cX2_endNameLine 14 = .ok (.getfield 89, 3) := by decide +kernel
theorem dX2_endNameLine_17 : decode cX2_endNameLine 17 = .ok (.aload_n 0, 1) := by decide +kernel
theorem dX2_endNameLine_18 : decode cX2_endNameLine 18 = .ok (.getfield 15, 3) := by decide +kernel
theorem dX2_endNameLine_21 : decode cX2_endNameLine 21 = .ok (.getfield 89, 3) := by decide +kernel
theorem dX2_endNameLine_24 : decode cX2_endNameLine 24 = .ok (.iload_n 1, 1) := by decide +kernel
theorem dX2_endNameLine_25 : decode cX2_endNameLine 25 = .ok (.invokevirtual 102, 3) := by decide +kernel
theorem dX2_endNameLine_28 : decode cX2_endNameLine 28 = .ok (.iload_n 1, 1) := by decide +kernel
theorem dX2_endNameLine_29 : decode cX2_endNameLine 29 = .ok (.if_icmp .eq 18, 3) := by decide +kernel
theorem dX2_endNameLine_32 : decode cX2_endNameLine 32 = .ok (.aload_n 0, 1) := by decide +kernel
theorem dX2_endNameLine_33 : decode cX2_endNameLine 33 = .ok (.iconst 4, 1) := by decide +kernel
theorem dX2_endNameLine_34 : decode cX2_endNameLine 34 = .ok (.putfield 46, 3) := by decide +kernel
theorem dX2_endNameLine_37 : decode cX2_endNameLine 37 = .ok (.aload_n 0, 1) := by decide +kernel
theorem dX2_endNameLine_38 : decode cX2_endNameLine 38 = .ok (.aload_n 0, 1) := by decide +kernel
theorem dX2_endNameLine_39 : decode cX2_endNameLine 39 = .ok (.getfield 83, 3) := by decide +kernel
theorem dX2_endNameLine_42 : decode cX2_endNameLine 42 = .ok (.putfield 49, 3) := by decide +kernel
theorem dX2_endNameLine_45 : decode cX2_endNameLine 45 = .ok (.iconst 0, 1) := by decide +kernel
theorem dX2_endNameLine_46 : decode cX2_endNameLine 46 = .ok (.ireturn, 1) := by decide +kernel
theorem dX2_endNameLine_47 : decode cX2_endNameLine 47 = .ok (.aload_n 0, 1) := by decide +kernel
theorem dX2_endNameLine_48 : decode cX2_endNameLine 48 = .ok (.iconst 0, 1) := by decide +kernel
theorem dX2_endNameLine_49 : decode cX2_endNameLine 49 = .ok (.putfield 106, 3) := by decide +kernel
theorem dX2_endNameLine_52 : decode cX2_endNameLine 52 = .ok (.aload_n 0, 1) := by decide +kernel
theorem dX2_endNameLine_53 : decode cX2_endNameLine 53 = .ok (.iconst 0, 1) := by decide +kernel
theorem dX2_endNameLine_54 : decode cX2_endNameLine 54 = .ok (.putfield 109, 3) := by decide +kernel
theorem dX2_endNameLine_57 : decode cX2_endNameLine 57 = .ok (.aload_n 0, 1) := by decide +kernel
theorem dX2_endNameLine_58 : decode cX2_endNameLine 58 = .ok (.iconst 0, 1) := by decide +kernel
theorem dX2_endNameLine_59 : decode cX2_endNameLine 59 = .ok (.putfield 112, 3) := by decide +kernel
theorem dX2_endNameLine_62 : decode cX2_endNameLine 62 = .ok (.aload_n 0, 1) := by decide +kernel
theorem dX2_endNameLine_63 : decode cX2_endNameLine 63 = .ok (.iconst 3, 1) := by decide +kernel
theorem dX2_endNameLine_64 : decode cX2_endNameLine 64 = .ok (.putfield 19, 3) := by decide +kernel
theorem dX2_endNameLine_67 : decode cX2_endNameLine 67 = .ok (.iconst 1, 1) := by decide +kernel
theorem dX2_endNameLine_68 : decode cX2_endNameLine 68 = .ok (.ireturn, 1) := by decide +kernel
theorem dX2_takeInLetters_0 : decode cX2_takeInLetters 0 = .ok (.iload_n 1, 1) := by decide +kernel
theorem dX2_takeInLetters_1 : decode cX2_takeInLetters 1 = .ok (.bipush 10, 2) := by decide +kernel
theorem dX2_takeInLetters_3 : decode cX2_takeInLetters 3 = .ok (.if_icmp .ne 9, 3) := by decide +kernel
theorem dX2_takeInLetters_6 : decode cX2_takeInLetters 6 = .ok (.aload_n 0, 1) := by decide +kernel
theorem dX2_takeInLetters_7 : decode cX2_takeInLetters 7 = .ok (.invokevirtual 115, 3) := by decide +kernel
theorem dX2_takeInLetters_10 : decode cX2_takeInLetters 10 = .ok (.iconst 1, 1) := by decide +kernel
theorem dX2_takeInLetters_11 : decode cX2_takeInLetters 11 = .ok (.ireturn, 1) := by decide +kernel
theorem dX2_takeInLetters_12 : decode cX2_takeInLetters 12 = .ok (.iload_n 1, 1) := by decide +kernel
theorem dX2_takeInLetters_13 : decode cX2_takeInLetters 13 = .ok (.invokestatic 68, 3) := by decide +kernel
theorem dX2_takeInLetters_16 : decode cX2_takeInLetters 16 = .ok (.istore_n 2, 1) := by decide +kernel
theorem dX2_takeInLetters_17 : decode cX2_takeInLetters 17 = .ok (.iload_n 2, 1) := by decide +kernel
theorem dX2_takeInLetters_18 : decode cX2_takeInLetters 18 = .ok (.iconst (-1), 1) := by decide +kernel
theorem dX2_takeInLetters_19 : decode cX2_takeInLetters 19 = .ok (.if_icmp .ne 11, 3) := by decide +kernel
theorem dX2_takeInLetters_22 : decode cX2_takeInLetters 22 = .ok (.aload_n 0, 1) := by decide +kernel
theorem dX2_takeInLetters_23 : decode cX2_takeInLetters 23 = .ok (.iconst 2, 1) := by decide +kernel
theorem dX2_takeInLetters_24 : decode cX2_takeInLetters 24 = .ok (.invokevirtual 43, 3) := by decide +kernel
theorem dX2_takeInLetters_27 : decode cX2_takeInLetters 27 = .ok (.goto 8, 3) := by decide +kernel
theorem dX2_takeInLetters_30 : decode cX2_takeInLetters 30 = .ok (.aload_n 0, 1) := by decide +kernel
theorem dX2_takeInLetters_31 : decode cX2_takeInLetters 31 = .ok (.iload_n 2, 1) := by decide +kernel
theorem dX2_takeInLetters_32 : decode cX2_takeInLetters 32 = .ok (.invokevirtual 71, 3) := by decide +kernel
theorem dX2_takeInLetters_35 : decode cX2_takeInLetters 35 = .ok (.ireturn, 1) := by decide +kernel
theorem dX2_endLetterLine_0 : decode cX2_endLetterLine 0 = .ok (.aload_n 0, 1) := by decide +kernel
theorem dX2_endLetterLine_1 : decode cX2_endLetterLine 1 = .ok (.getfield 106, 3) := by decide +kernel
theorem dX2_endLetterLine_4 : decode cX2_endLetterLine 4 = .ok (.ifCond .ne 22, 3) := by decide +kernel
theorem dX2_endLetterLine_7 : decode cX2_endLetterLine 7 = .ok (.aload_n 0, 1) := by decide +kernel
theorem dX2_endLetterLine_8 : decode cX2_endLetterLine 8 = .ok (.aload_n 0, 1) := by decide +kernel
theorem dX2_endLetterLine_9 : decode cX2_endLetterLine 9 = .ok (.getfield 109, 3) := by decide +kernel
theorem dX2_endLetterLine_12 : decode cX2_endLetterLine 12 = .ok (.putfield 106, 3) := by decide +kernel
theorem dX2_endLetterLine_15 : decode cX2_endLetterLine 15 = .ok (.aload_n 0, 1) := by decide +kernel
theorem dX2_endLetterLine_16 : decode cX2_endLetterLine 16 = .ok (.getfield 15, 3) := by decide +kernel
theorem dX2_endLetterLine_19 : decode cX2_endLetterLine 19 = .ok (.aload_n 0, 1) := by decide +kernel
theorem dX2_endLetterLine_20 : decode cX2_endLetterLine 20 = .ok (.getfield 106, 3) := by decide +kernel
theorem dX2_endLetterLine_23 : decode cX2_endLetterLine 23 = .ok (.invokevirtual 118, 3) := by decide +kernel
theorem dX2_endLetterLine_26 : decode cX2_endLetterLine 26 = .ok (.aload_n 0, 1) := by decide +kernel
theorem dX2_endLetterLine_27 : decode cX2_endLetterLine 27 = .ok (.aload_n 0, 1) := by decide +kernel
theorem dX2_endLetterLine_28 : decode cX2_endLetterLine 28 = .ok (.getfield 109, 3) := by decide +kernel
theorem dX2_endLetterLine_31 : decode cX2_endLetterLine 31 = .ok (.putfield 112, 3) := by decide +kernel
theorem dX2_endLetterLine_34 : decode cX2_endLetterLine 34 = .ok (.aload_n 0, 1) := by decide +kernel
theorem dX2_endLetterLine_35 : decode cX2_endLetterLine 35 = .ok (.iconst 0, 1) := by decide +kernel
theorem dX2_endLetterLine_36 : decode cX2_endLetterLine 36 = .ok (.putfield 109, 3) := by decide +kernel
theorem dX2_endLetterLine_39 : decode cX2_endLetterLine 39 = .ok (.aload_n 0, 1) := by decide +kernel
theorem dX2_endLetterLine_40 : decode cX2_endLetterLine 40 = .ok (.iconst 5, 1) := by decide +kernel
theorem dX2_endLetterLine_41 : decode cX2_endLetterLine 41 = .ok (.putfield 19, 3) := by decide +kernel
theorem dX2_endLetterLine_44 : decode cX2_endLetterLine 44 = .ok (.return_, 1) := by decide +kernel
theorem dX2_takeLetter_0 : decode cX2_takeLetter 0 = .ok (.aload_n 0, 1) := by decide +kernel
theorem dX2_takeLetter_1 : decode cX2_takeLetter 1 = .ok (.getfield 15, 3) := by decide +kernel
theorem dX2_takeLetter_4 : decode cX2_takeLetter 4 = .ok (.getfield 121, 3) := by decide +kernel
theorem dX2_takeLetter_7 : decode cX2_takeLetter 7 = .ok (.sipush 3000, 3) := by decide +kernel
theorem dX2_takeLetter_10 : decode cX2_takeLetter 10 = .ok (.if_icmp .ne 9, 3) := by decide +kernel
theorem dX2_takeLetter_13 : decode cX2_takeLetter 13 = .ok (.aload_n 0, 1) := by decide +kernel
theorem dX2_takeLetter_14 : decode cX2_takeLetter 14 = .ok (.iconst 3, 1) := by decide +kernel
theorem dX2_takeLetter_15 : decode cX2_takeLetter 15 = .ok (.invokevirtual 43, 3) := by decide +kernel
theorem dX2_takeLetter_18 : decode cX2_takeLetter 18 = .ok (.ireturn, 1) := by decide +kernel
theorem dX2_takeLetter_19 : decode cX2_takeLetter 19 = .ok (.aload_n 0, 1) := by decide +kernel
theorem dX2_takeLetter_20 : decode cX2_takeLetter 20 = .ok (.getfield 109, 3) := by decide +kernel
theorem dX2_takeLetter_23 : decode cX2_takeLetter 23 = .ok (.ifCond .ne 18, 3) := by decide +kernel
theorem dX2_takeLetter_26 : decode cX2_takeLetter 26 = .ok (.aload_n 0, 1) := by decide +kernel
theorem dX2_takeLetter_27 : decode cX2_takeLetter 27 = .ok (.getfield 112, 3) := by decide +kernel
theorem dX2_takeLetter_30 : decode cX2_takeLetter 30 = .ok (.aload_n 0, 1) := by decide +kernel
theorem dX2_takeLetter_31 : decode cX2_takeLetter 31 = .ok (.getfield 106, 3) := by decide +kernel
theorem dX2_takeLetter_34 : decode cX2_takeLetter 34 = .ok (.if_icmp .ge 7, 3) := by decide +kernel
theorem dX2_takeLetter_37 : decode cX2_takeLetter 37 = .ok (.iconst 1, 1) := by decide +kernel
theorem dX2_takeLetter_38 : decode cX2_takeLetter 38 = .ok (.goto 4, 3) := by decide +kernel
theorem dX2_takeLetter_41 : decode cX2_takeLetter 41 = .ok (.iconst 0, 1) := by decide +kernel
theorem dX2_takeLetter_42 : decode cX2_takeLetter 42 = .ok (.istore_n 2, 1) := by decide +kernel
theorem dX2_takeLetter_43 : decode cX2_takeLetter 43 = .ok (.aload_n 0, 1) := by decide +kernel
theorem dX2_takeLetter_44 : decode cX2_takeLetter 44 = .ok (.getfield 106, 3) := by decide +kernel
theorem dX2_takeLetter_47 : decode cX2_takeLetter 47 = .ok (.ifCond .le 24, 3) := by decide +kernel
theorem dX2_takeLetter_50 : decode cX2_takeLetter 50 = .ok (.aload_n 0, 1) := by decide +kernel
theorem dX2_takeLetter_51 : decode cX2_takeLetter 51 = .ok (.getfield 109, 3) := by decide +kernel
theorem dX2_takeLetter_54 : decode cX2_takeLetter 54 = .ok (.aload_n 0, 1) := by decide +kernel
theorem dX2_takeLetter_55 : decode cX2_takeLetter 55 = .ok (.getfield 106, 3) := by decide +kernel
theorem dX2_takeLetter_58 : decode cX2_takeLetter 58 = .ok (.if_icmp .eq 7, 3) := by decide +kernel
theorem dX2_takeLetter_61 : decode cX2_takeLetter 61 = .ok (.iload_n 2, 1) := by decide +kernel
theorem dX2_takeLetter_62 : decode cX2_takeLetter 62 = .ok (.ifCond .eq 9, 3) := by decide +kernel
theorem dX2_takeLetter_65 : decode cX2_takeLetter 65 = .ok (.aload_n 0, 1) := by decide +kernel
theorem dX2_takeLetter_66 : decode cX2_takeLetter 66 = .ok (.iconst 5, 1) := by decide +kernel
theorem dX2_takeLetter_67 : decode cX2_takeLetter 67 = .ok (.invokevirtual 43, 3) := by decide +kernel
theorem dX2_takeLetter_70 : decode cX2_takeLetter 70 = .ok (.ireturn, 1) := by decide +kernel
theorem dX2_takeLetter_71 : decode cX2_takeLetter 71 = .ok (.aload_n 0, 1) := by decide +kernel
theorem dX2_takeLetter_72 : decode cX2_takeLetter 72 = .ok (.getfield 15, 3) := by decide +kernel
theorem dX2_takeLetter_75 : decode cX2_takeLetter 75 = .ok (.iload_n 1, 1) := by decide +kernel
theorem dX2_takeLetter_76 : decode cX2_takeLetter 76 = .ok (.aload_n 0, 1) := by decide +kernel
theorem dX2_takeLetter_77 : decode cX2_takeLetter 77 = .ok (.getfield 33, 3) := by decide +kernel
theorem dX2_takeLetter_80 : decode cX2_takeLetter 80 = .ok (.invokevirtual 124, 3) := by decide +kernel
theorem dX2_takeLetter_83 : decode cX2_takeLetter 83 = .ok (.aload_n 0, 1) := by decide +kernel
theorem dX2_takeLetter_84 : decode cX2_takeLetter 84 = .ok (.dup, 1) := by decide +kernel
theorem dX2_takeLetter_85 : decode cX2_takeLetter 85 = .ok (.getfield 109, 3) := by decide +kernel
theorem dX2_takeLetter_88 : decode cX2_takeLetter 88 = .ok (.iconst 1, 1) := by decide +kernel
theorem dX2_takeLetter_89 : decode cX2_takeLetter 89 = .ok (.iadd, 1) := by decide +kernel
theorem dX2_takeLetter_90 : decode cX2_takeLetter 90 = .ok (.putfield 109, 3) := by decide +kernel
theorem dX2_takeLetter_93 : decode cX2_takeLetter 93 = .ok (.aload_n 0, 1) := by decide +kernel
theorem dX2_takeLetter_94 : decode cX2_takeLetter 94 = .ok (.iconst 4, 1) := by decide +kernel
theorem dX2_takeLetter_95 : decode cX2_takeLetter 95 = .ok (.putfield 19, 3) := by decide +kernel
theorem dX2_takeLetter_98 : decode cX2_takeLetter 98 = .ok (.iconst 1, 1) := by decide +kernel
theorem dX2_takeLetter_99 : decode cX2_takeLetter 99 = .ok (.ireturn, 1) := by decide +kernel
theorem dX2_isNameOctet_0 : decode cX2_isNameOctet 0 = .ok (.iload_n 0, 1) := by decide +kernel
theorem dX2_isNameOctet_1 : decode cX2_isNameOctet 1 = .ok (.bipush 65, 2) := by decide +kernel
theorem dX2_isNameOctet_3 : decode cX2_isNameOctet 3 = .ok (.if_icmp .lt 9, 3) := by decide +kernel
theorem dX2_isNameOctet_6 : decode cX2_isNameOctet 6 = .ok (.iload_n 0, 1) := by decide +kernel
theorem dX2_isNameOctet_7 : decode cX2_isNameOctet 7 = .ok (.bipush 90, 2) := by decide +kernel
theorem dX2_isNameOctet_9 : decode cX2_isNameOctet 9 = .ok (.if_icmp .le 39, 3) := by decide +kernel
theorem dX2_isNameOctet_12 : decode cX2_isNameOctet 12 = .ok (.iload_n 0, 1) := by decide +kernel
theorem dX2_isNameOctet_13 : decode cX2_isNameOctet 13 = .ok (.bipush 97, 2) := by decide +kernel
theorem dX2_isNameOctet_15 : decode cX2_isNameOctet 15 = .ok (.if_icmp .lt 9, 3) := by decide +kernel
theorem dX2_isNameOctet_18 : decode cX2_isNameOctet 18 = .ok (.iload_n 0, 1) := by decide +kernel
theorem dX2_isNameOctet_19 : decode cX2_isNameOctet 19 = .ok (.bipush 122, 2) := by decide +kernel
theorem dX2_isNameOctet_21 : decode cX2_isNameOctet 21 = .ok (.if_icmp .le 27, 3) := by decide +kernel
theorem dX2_isNameOctet_24 : decode cX2_isNameOctet 24 = .ok (.iload_n 0, 1) := by decide +kernel
theorem dX2_isNameOctet_25 : decode cX2_isNameOctet 25 = .ok (.bipush 48, 2) := by decide +kernel
theorem dX2_isNameOctet_27 : decode cX2_isNameOctet 27 = .ok (.if_icmp .lt 9, 3) := by decide +kernel
theorem dX2_isNameOctet_30 : decode cX2_isNameOctet 30 = .ok (.iload_n 0, 1) := by decide +kernel
theorem dX2_isNameOctet_31 : decode cX2_isNameOctet 31 = .ok (.bipush 57, 2) := by decide +kernel
theorem dX2_isNameOctet_33 : decode cX2_isNameOctet 33 = .ok (.if_icmp .le 15, 3) := by decide +kernel
theorem dX2_isNameOctet_36 : decode cX2_isNameOctet 36 = .ok (.iload_n 0, 1) := by decide +kernel
theorem dX2_isNameOctet_37 : decode cX2_isNameOctet 37 = .ok (.bipush 95, 2) := by decide +kernel
theorem dX2_isNameOctet_39 : decode cX2_isNameOctet 39 = .ok (.if_icmp .eq 9, 3) := by decide +kernel
theorem dX2_isNameOctet_42 : decode cX2_isNameOctet 42 = .ok (.iload_n 0, 1) := by decide +kernel
theorem dX2_isNameOctet_43 : decode cX2_isNameOctet 43 = .ok (.bipush 46, 2) := by decide +kernel
theorem dX2_isNameOctet_45 : decode cX2_isNameOctet 45 = .ok (.if_icmp .ne 7, 3) := by decide +kernel
theorem dX2_isNameOctet_48 : decode cX2_isNameOctet 48 = .ok (.iconst 1, 1) := by decide +kernel
theorem dX2_isNameOctet_49 : decode cX2_isNameOctet 49 = .ok (.goto 4, 3) := by decide +kernel
theorem dX2_isNameOctet_52 : decode cX2_isNameOctet 52 = .ok (.iconst 0, 1) := by decide +kernel
theorem dX2_isNameOctet_53 : decode cX2_isNameOctet 53 = .ok (.ireturn, 1) := by decide +kernel
theorem dX3_init_0 : decode cX3_init 0 = .ok (.aload_n 0, 1) := by decide +kernel
theorem dX3_init_1 : decode cX3_init 1 = .ok (.invokespecial 3, 3) := by decide +kernel
theorem dX3_init_4 : decode cX3_init 4 = .ok (.aload_n 0, 1) := by decide +kernel
theorem dX3_init_5 : decode cX3_init 5 = .ok (.bipush 60, 2) := by decide +kernel
theorem dX3_init_7 : decode cX3_init 7 = .ok (.newarray .int, 2) := by decide +kernel
theorem dX3_init_9 : decode cX3_init 9 = .ok (.putfield 9, 3) := by decide +kernel
theorem dX3_init_12 : decode cX3_init 12 = .ok (.aload_n 0, 1) := by decide +kernel
theorem dX3_init_13 : decode cX3_init 13 = .ok (.bipush 60, 2) := by decide +kernel
theorem dX3_init_15 : decode cX3_init 15 = .ok (.newarray .int, 2) := by decide +kernel
theorem dX3_init_17 : decode cX3_init 17 = .ok (.putfield 15, 3) := by decide +kernel
theorem dX3_init_20 : decode cX3_init 20 = .ok (.aload_n 0, 1) := by decide +kernel
theorem dX3_init_21 : decode cX3_init 21 = .ok (.bipush 60, 2) := by decide +kernel
theorem dX3_init_23 : decode cX3_init 23 = .ok (.newarray .int, 2) := by decide +kernel
theorem dX3_init_25 : decode cX3_init 25 = .ok (.putfield 18, 3) := by decide +kernel
theorem dX3_init_28 : decode cX3_init 28 = .ok (.aload_n 0, 1) := by decide +kernel
theorem dX3_init_29 : decode cX3_init 29 = .ok (.bipush 60, 2) := by decide +kernel
theorem dX3_init_31 : decode cX3_init 31 = .ok (.newarray .int, 2) := by decide +kernel
theorem dX3_init_33 : decode cX3_init 33 = .ok (.putfield 21, 3) := by decide +kernel
theorem dX3_init_36 : decode cX3_init 36 = .ok (.aload_n 0, 1) := by decide +kernel
theorem dX3_init_37 : decode cX3_init 37 = .ok (.bipush 60, 2) := by decide +kernel
theorem dX3_init_39 : decode cX3_init 39 = .ok (.newarray .int, 2) := by decide +kernel
theorem dX3_init_41 : decode cX3_init 41 = .ok (.putfield 24, 3) := by decide +kernel
theorem dX3_init_44 : decode cX3_init 44 = .ok (.return_, 1) := by decide +kernel
theorem dX3_clear_0 : decode cX3_clear 0 = .ok (.aload_n 0, 1) := by decide +kernel
theorem dX3_clear_1 : decode cX3_clear 1 = .ok (.iconst 0, 1) := by decide +kernel
theorem dX3_clear_2 : decode cX3_clear 2 = .ok (.putfield 27, 3) := by decide +kernel
theorem dX3_clear_5 : decode cX3_clear 5 = .ok (.aload_n 0, 1) := by decide +kernel
theorem dX3_clear_6 : decode cX3_clear 6 = .ok (.iconst 0, 1) := by decide +kernel
theorem dX3_clear_7 : decode cX3_clear 7 = .ok (.putfield 31, 3) := by decide +kernel
theorem dX3_clear_10 : decode cX3_clear 10 = .ok (.aload_n 0, 1) := by decide +kernel
theorem dX3_clear_11 : decode cX3_clear 11 = .ok (.iconst 0, 1) := by decide +kernel
theorem dX3_clear_12 : decode cX3_clear 12 = .ok (.putfield 34, 3) := by decide +kernel
theorem dX3_clear_15 : decode cX3_clear 15 = .ok (.return_, 1) := by decide +kernel
theorem dX3_choose_0 : decode cX3_choose 0 = .ok (.aload_n 0, 1) := by decide +kernel
theorem dX3_choose_1 : decode cX3_choose 1 = .ok (.iconst 0, 1) := by decide +kernel
theorem dX3_choose_2 : decode cX3_choose 2 = .ok (.putfield 37, 3) := by decide +kernel
theorem dX3_choose_5 : decode cX3_choose 5 = .ok (.iconst 0, 1) := by decide +kernel
theorem dX3_choose_6 : decode cX3_choose 6 = .ok (.istore 5, 2) := by decide +kernel
theorem dX3_choose_8 : decode cX3_choose 8 = .ok (.iload 5, 2) := by decide +kernel
theorem dX3_choose_10 : decode cX3_choose 10 = .ok (.aload_n 1, 1) := by decide +kernel
theorem dX3_choose_11 : decode cX3_choose 11 = .ok (.getfield 40, 3) := by decide +kernel
theorem dX3_choose_14 : decode cX3_choose 14 = .ok (.if_icmp .ge 45, 3) := by decide +kernel
theorem dX3_choose_17 : decode cX3_choose 17 = .ok (.aload_n 1, 1) := by decide +kernel
theorem dX3_choose_18 : decode cX3_choose 18 = .ok (.getfield 44, 3) := by decide +kernel
theorem dX3_choose_21 : decode cX3_choose 21 = .ok (.iload 5, 2) := by decide +kernel
theorem dX3_choose_23 : decode cX3_choose 23 = .ok (.aaload, 1) := by decide +kernel
theorem dX3_choose_24 : decode cX3_choose 24 = .ok (.astore 6, 2) := by decide +kernel
theorem dX3_choose_26 : decode cX3_choose 26 = .ok (.aload 6, 2) := by decide +kernel
theorem dX3_choose_28 : decode cX3_choose 28 = .ok (.getfield 48, 3) := by decide +kernel
theorem dX3_choose_31 : decode cX3_choose 31 = .ok (.iload 4, 2) := by decide +kernel
theorem dX3_choose_33 : decode cX3_choose 33 = .ok (.if_icmp .ne 20, 3) := by decide +kernel
theorem dX3_choose_36 : decode cX3_choose 36 = .ok (.aload 6, 2) := by decide +kernel
theorem dX3_choose_38 : decode cX3_choose 38 = .ok (.iload_n 2, 1) := by decide +kernel
theorem dX3_choose_39 : decode cX3_choose 39 = .ok (.iload_n 3, 1) := by decide +kernel
theorem dX3_choose_40 : decode cX3_choose 40 = .ok (.invokevirtual 53, 3) := by decide +kernel
theorem dX3_choose_43 : decode cX3_choose 43 = .ok (.ifCond .le 10, 3) := by decide +kernel
theorem dX3_choose_46 : decode cX3_choose 46 = .ok (.aload_n 0, 1) := by decide +kernel
theorem dX3_choose_47 : decode cX3_choose 47 = .ok (.aload_n 1, 1) := by decide +kernel
theorem dX3_choose_48 : decode cX3_choose 48 = .ok (.iload 5, 2) := by decide +kernel
theorem dX3_choose_50 : decode cX3_choose 50 = .ok (.invokevirtual 57, 3) := by decide +kernel
theorem dX3_choose_53 : decode cX3_choose 53 = .ok (.iinc 5 1, 3) := by decide +kernel
theorem dX3_choose_56 : decode cX3_choose 56 = .ok (.goto (-48), 3) := by decide +kernel
theorem dX3_choose_59 : decode cX3_choose 59 = .ok (.return_, 1) := by decide +kernel
theorem dX3_insert_0 : decode cX3_insert 0 = .ok (.aload_n 0, 1) := by decide +kernel
theorem dX3_insert_1 : decode cX3_insert 1 = .ok (.getfield 37, 3) := by decide +kernel
theorem dX3_insert_4 : decode cX3_insert 4 = .ok (.istore_n 3, 1) := by decide +kernel
theorem dX3_insert_5 : decode cX3_insert 5 = .ok (.iload_n 3, 1) := by decide +kernel
theorem dX3_insert_6 : decode cX3_insert 6 = .ok (.ifCond .le 48, 3) := by decide +kernel
theorem dX3_insert_9 : decode cX3_insert 9 = .ok (.aload_n 1, 1) := by decide +kernel
theorem dX3_insert_10 : decode cX3_insert 10 = .ok (.getfield 44, 3) := by decide +kernel
theorem dX3_insert_13 : decode cX3_insert 13 = .ok (.aload_n 0, 1) := by decide +kernel
theorem dX3_insert_14 : decode cX3_insert 14 = .ok (.getfield 9, 3) := by decide +kernel
theorem dX3_insert_17 : decode cX3_insert 17 = .ok (.iload_n 3, 1) := by decide +kernel
theorem dX3_insert_18 : decode cX3_insert 18 = .ok (.iconst 1, 1) := by decide +kernel
theorem dX3_insert_19 : decode cX3_insert 19 = .ok (.isub, 1) := by decide +kernel
theorem dX3_insert_20 : decode cX3_insert 20 = .ok (.iaload, 1) := by decide +kernel
theorem dX3_insert_21 : decode cX3_insert 21 = .ok (.aaload, 1) := by decide +kernel
theorem dX3_insert_22 : decode cX3_insert 22 = .ok (.aload_n 1, 1) := by decide +kernel
theorem dX3_insert_23 : decode cX3_insert 23 = .ok (.getfield 44, 3) := by decide +kernel
theorem dX3_insert_26 : decode cX3_insert 26 = .ok (.iload_n 2, 1) := by decide +kernel
theorem dX3_insert_27 : decode cX3_insert 27 = .ok (.aaload, 1) := by decide +kernel
theorem dX3_insert_28 : decode cX3_insert 28 = .ok (.invokevirtual 61, 3) := by decide +kernel
theorem dX3_insert_31 : decode cX3_insert 31 = .ok (.ifCond .eq 23, 3) := by decide +kernel
theorem dX3_insert_34 : decode cX3_insert 34 = .ok (.aload_n 0, 1) := by decide +kernel
theorem dX3_insert_35 : decode cX3_insert 35 = .ok (.getfield 9, 3) := by decide +kernel
theorem dX3_insert_38 : decode cX3_insert 38 = .ok (.iload_n 3, 1) := by decide +kernel
theorem dX3_insert_39 : decode cX3_insert 39 = .ok (.aload_n 0, 1) := by decide +kernel
theorem dX3_insert_40 : decode cX3_insert 40 = .ok (.getfield 9, 3) := by decide +kernel
theorem dX3_insert_43 : decode cX3_insert 43 = .ok (.iload_n 3, 1) := by decide +kernel
theorem dX3_insert_44 : decode cX3_insert 44 = .ok (.iconst 1, 1) := by decide +kernel
theorem dX3_insert_45 : decode cX3_insert 45 = .ok (.isub, 1) := by decide +kernel
theorem dX3_insert_46 : decode cX3_insert 46 = .ok (.iaload, 1) := by decide +kernel
theorem dX3_insert_47 : decode cX3_insert 47 = .ok (.iastore, 1) := by decide +kernel
theorem dX3_insert_48 : decode cX3_insert 48 = .ok (.iinc 3 (-1), 3) := by decide +kernel
theorem dX3_insert_51 : decode cX3_insert 51 = .ok (.goto (-46), 3) := by decide +kernel
theorem dX3_insert_54 : decode cX3_insert 54 = .ok (.aload_n 0, 1) := by decide +kernel
theorem dX3_insert_55 : decode cX3_insert 55 = .ok (.getfield 9, 3) := by decide +kernel
theorem dX3_insert_58 : decode cX3_insert 58 = .ok (.iload_n 3, 1) := by decide +kernel
theorem dX3_insert_59 : decode cX3_insert 59 = .ok (.iload_n 2, 1) := by decide +kernel
theorem dX3_insert_60 : decode cX3_insert 60 = .ok (.iastore, 1) := by decide +kernel
theorem dX3_insert_61 : decode cX3_insert 61 = .ok (.aload_n 0, 1) := by decide +kernel
theorem dX3_insert_62 : decode cX3_insert 62 = .ok (.dup, 1) := by decide +kernel
theorem dX3_insert_63 : decode cX3_insert 63 = .ok (.getfield 37, 3) := by decide +kernel
theorem dX3_insert_66 : decode cX3_insert 66 = .ok (.iconst 1, 1) := by decide +kernel
theorem dX3_insert_67 : decode cX3_insert 67 = .ok (.iadd, 1) := by decide +kernel
theorem dX3_insert_68 : decode cX3_insert 68 = .ok (.putfield 37, 3) := by decide +kernel
theorem dX3_insert_71 : decode cX3_insert 71 = .ok (.return_, 1) := by decide +kernel
theorem dX3_clashes_0 : decode cX3_clashes 0 = .ok (.iconst 1, 1) := by decide +kernel
theorem dX3_clashes_1 : decode cX3_clashes 1 = .ok (.istore_n 2, 1) := by decide +kernel
theorem dX3_clashes_2 : decode cX3_clashes 2 = .ok (.iload_n 2, 1) := by decide +kernel
theorem dX3_clashes_3 : decode cX3_clashes 3 = .ok (.aload_n 0, 1) := by decide +kernel
theorem dX3_clashes_4 : decode cX3_clashes 4 = .ok (.getfield 37, 3) := by decide +kernel
theorem dX3_clashes_7 : decode cX3_clashes 7 = .ok (.if_icmp .ge 53, 3) := by decide +kernel
theorem dX3_clashes_10 : decode cX3_clashes 10 = .ok (.aload_n 1, 1) := by decide +kernel
theorem dX3_clashes_11 : decode cX3_clashes 11 = .ok (.getfield 44, 3) := by decide +kernel
theorem dX3_clashes_14 : decode cX3_clashes 14 = .ok (.aload_n 0, 1) := by decide +kernel
theorem dX3_clashes_15 : decode cX3_clashes 15 = .ok (.getfield 9, 3) := by decide +kernel
theorem dX3_clashes_18 : decode cX3_clashes 18 = .ok (.iload_n 2, 1) := by decide +kernel
theorem dX3_clashes_19 : decode cX3_clashes 19 = .ok (.iconst 1, 1) := by decide +kernel
theorem dX3_clashes_20 : decode cX3_clashes 20 = .ok (.isub, 1) := by decide +kernel
theorem dX3_clashes_21 : decode cX3_clashes 21 = .ok (.iaload, 1) := by decide +kernel
theorem dX3_clashes_22 : decode cX3_clashes 22 = .ok (.aaload, 1) := by decide +kernel
theorem dX3_clashes_23 : decode cX3_clashes 23 = .ok (.astore_n 3, 1) := by decide +kernel
theorem dX3_clashes_24 : decode cX3_clashes 24 = .ok (.aload_n 1, 1) := by decide +kernel
theorem dX3_clashes_25 : decode cX3_clashes 25 = .ok (.getfield 44, 3) := by decide +kernel
theorem dX3_clashes_28 : decode cX3_clashes 28 = .ok (.aload_n 0, 1) := by decide +kernel
theorem dX3_clashes_29 : decode cX3_clashes 29 = .ok (.getfield 9, 3) := by decide +kernel
theorem dX3_clashes_32 : decode cX3_clashes 32 = .ok (.iload_n 2, 1) := by decide +kernel
theorem dX3_clashes_33 : decode cX3_clashes 33 = .ok (.iaload, 1) := by decide +kernel
theorem dX3_clashes_34 : decode cX3_clashes 34 = .ok (.aaload, 1) := by decide +kernel
theorem dX3_clashes_35 : decode cX3_clashes 35 = .ok (.getfield 65, 3) := by decide +kernel
theorem dX3_clashes_38 : decode cX3_clashes 38 = .ok (.aload_n 3, 1) := by decide +kernel
theorem dX3_clashes_39 : decode cX3_clashes 39 = .ok (.getfield 65, 3) := by decide +kernel
theorem dX3_clashes_42 : decode cX3_clashes 42 = .ok (.aload_n 3, 1) := by decide +kernel
theorem dX3_clashes_43 : decode cX3_clashes 43 = .ok (.getfield 68, 3) := by decide +kernel
theorem dX3_clashes_46 : decode cX3_clashes 46 = .ok (.iconst 0, 1) := by decide +kernel
theorem dX3_clashes_47 : decode cX3_clashes 47 = .ok (.iaload, 1) := by decide +kernel
theorem dX3_clashes_48 : decode cX3_clashes 48 = .ok (.iadd, 1) := by decide +kernel
theorem dX3_clashes_49 : decode cX3_clashes 49 = .ok (.if_icmp .ge 5, 3) := by decide +kernel
theorem dX3_clashes_52 : decode cX3_clashes 52 = .ok (.iconst 1, 1) := by decide +kernel
theorem dX3_clashes_53 : decode cX3_clashes 53 = .ok (.ireturn, 1) := by decide +kernel
theorem dX3_clashes_54 : decode cX3_clashes 54 = .ok (.iinc 2 1, 3) := by decide +kernel
theorem dX3_clashes_57 : decode cX3_clashes 57 = .ok (.goto (-55), 3) := by decide +kernel
theorem dX3_clashes_60 : decode cX3_clashes 60 = .ok (.iconst 0, 1) := by decide +kernel
theorem dX3_clashes_61 : decode cX3_clashes 61 = .ok (.ireturn, 1) := by decide +kernel
theorem dX3_putOn_0 : decode cX3_putOn 0 = .ok (.iconst 1, 1) := by decide +kernel
theorem dX3_putOn_1 : decode cX3_putOn 1 = .ok (.istore 7, 2) := by decide +kernel
theorem dX3_putOn_3 : decode cX3_putOn 3 = .ok (.iconst 0, 1) := by decide +kernel
theorem dX3_putOn_4 : decode cX3_putOn 4 = .ok (.istore 8, 2) := by decide +kernel
theorem dX3_putOn_6 : decode cX3_putOn 6 = .ok (.iload 8, 2) := by decide +kernel
theorem dX3_putOn_8 : decode cX3_putOn 8 = .ok (.aload_n 0, 1) := by decide +kernel
theorem dX3_putOn_9 : decode cX3_putOn 9 = .ok (.getfield 37, 3) := by decide +kernel
theorem dX3_putOn_12 : decode cX3_putOn 12 = .ok (.if_icmp .ge 127, 3) := by decide +kernel
theorem dX3_putOn_15 : decode cX3_putOn 15 = .ok (.aload_n 1, 1) := by decide +kernel
theorem dX3_putOn_16 : decode cX3_putOn 16 = .ok (.getfield 44, 3) := by decide +kernel
theorem dX3_putOn_19 : decode cX3_putOn 19 = .ok (.aload_n 0, 1) := by decide +kernel
theorem dX3_putOn_20 : decode cX3_putOn 20 = .ok (.getfield 9, 3) := by decide +kernel
theorem dX3_putOn_23 : decode cX3_putOn 23 = .ok (.iload 8, 2) := by decide +kernel
theorem dX3_putOn_25 : decode cX3_putOn 25 = .ok (.iaload, 1) := by decide +kernel
theorem dX3_putOn_26 : decode cX3_putOn 26 = .ok (.aaload, 1) := by decide +kernel
theorem dX3_putOn_27 : decode cX3_putOn 27 = .ok (.astore 9, 2) := by decide +kernel
theorem dX3_putOn_29 : decode cX3_putOn 29 = .ok (.aload 9, 2) := by decide +kernel
theorem dX3_putOn_31 : decode cX3_putOn 31 = .ok (.iload_n 2, 1) := by decide +kernel
theorem dX3_putOn_32 : decode cX3_putOn 32 = .ok (.iload_n 3, 1) := by decide +kernel
theorem dX3_putOn_33 : decode cX3_putOn 33 = .ok (.invokevirtual 53, 3) := by decide +kernel
theorem dX3_putOn_36 : decode cX3_putOn 36 = .ok (.istore 10, 2) := by decide +kernel
theorem dX3_putOn_38 : decode cX3_putOn 38 = .ok (.aload 4, 2) := by decide +kernel
theorem dX3_putOn_40 : decode cX3_putOn 40 = .ok (.iload 5, 2) := by decide +kernel
theorem dX3_putOn_42 : decode cX3_putOn 42 = .ok (.iload 7, 2) := by decide +kernel
theorem dX3_putOn_44 : decode cX3_putOn 44 = .ok (.aload 9, 2) := by decide +kernel
theorem dX3_putOn_46 : decode cX3_putOn 46 = .ok (.getfield 65, 3) := by decide +kernel
theorem dX3_putOn_49 : decode cX3_putOn 49 = .ok (.aload 6, 2) := by decide +kernel
theorem dX3_putOn_51 : decode cX3_putOn 51 = .ok (.invokevirtual 71, 3) := by decide +kernel
theorem dX3_putOn_54 : decode cX3_putOn 54 = .ok (.aload_n 0, 1) := by decide +kernel
theorem dX3_putOn_55 : decode cX3_putOn 55 = .ok (.getfield 15, 3) := by decide +kernel
theorem dX3_putOn_58 : decode cX3_putOn 58 = .ok (.iload 8, 2) := by decide +kernel
theorem dX3_putOn_60 : decode cX3_putOn 60 = .ok (.aload 9, 2) := by decide +kernel
theorem dX3_putOn_62 : decode cX3_putOn 62 = .ok (.getfield 65, 3) := by decide +kernel
theorem dX3_putOn_65 : decode cX3_putOn 65 = .ok (.iastore, 1) := by decide +kernel
theorem dX3_putOn_66 : decode cX3_putOn 66 = .ok (.aload_n 0, 1) := by decide +kernel
theorem dX3_putOn_67 : decode cX3_putOn 67 = .ok (.getfield 18, 3) := by decide +kernel
theorem dX3_putOn_70 : decode cX3_putOn 70 = .ok (.iload 8, 2) := by decide +kernel
theorem dX3_putOn_72 : decode cX3_putOn 72 = .ok (.aload 9, 2) := by decide +kernel
theorem dX3_putOn_74 : decode cX3_putOn 74 = .ok (.getfield 68, 3) := by decide +kernel
theorem dX3_putOn_77 : decode cX3_putOn 77 = .ok (.iconst 0, 1) := by decide +kernel
theorem dX3_putOn_78 : decode cX3_putOn 78 = .ok (.iaload, 1) := by decide +kernel
theorem dX3_putOn_79 : decode cX3_putOn 79 = .ok (.iastore, 1) := by decide +kernel
theorem dX3_putOn_80 : decode cX3_putOn 80 = .ok (.aload_n 0, 1) := by decide +kernel
theorem dX3_putOn_81 : decode cX3_putOn 81 = .ok (.getfield 21, 3) := by decide +kernel
theorem dX3_putOn_84 : decode cX3_putOn 84 = .ok (.iload 8, 2) := by decide +kernel
theorem dX3_putOn_86 : decode cX3_putOn 86 = .ok (.aload 6, 2) := by decide +kernel
theorem dX3_putOn_88 : decode cX3_putOn 88 = .ok (.getfield 77, 3) := by decide +kernel
theorem dX3_putOn_91 : decode cX3_putOn 91 = .ok (.iconst 1, 1) := by decide +kernel
theorem dX3_putOn_92 : decode cX3_putOn 92 = .ok (.iadd, 1) := by decide +kernel
theorem dX3_putOn_93 : decode cX3_putOn 93 = .ok (.iastore, 1) := by decide +kernel
theorem dX3_putOn_94 : decode cX3_putOn 94 = .ok (.aload_n 0, 1) := by decide +kernel
theorem dX3_putOn_95 : decode cX3_putOn 95 = .ok (.getfield 24, 3) := by decide +kernel
theorem dX3_putOn_98 : decode cX3_putOn 98 = .ok (.iload 8, 2) := by decide +kernel
theorem dX3_putOn_100 : decode cX3_putOn 100 = .ok (.aload 9, 2) := by decide +kernel
theorem dX3_putOn_102 : decode cX3_putOn 102 = .ok (.getfield 68, 3) := by decide +kernel
theorem dX3_putOn_105 : decode cX3_putOn 105 = .ok (.iload 10, 2) := by decide +kernel
theorem dX3_putOn_107 : decode cX3_putOn 107 = .ok (.iaload, 1) := by decide +kernel
theorem dX3_putOn_108 : decode cX3_putOn 108 = .ok (.iastore, 1) := by decide +kernel
theorem dX3_putOn_109 : decode cX3_putOn 109 = .ok (.aload 9, 2) := by decide +kernel
theorem dX3_putOn_111 : decode cX3_putOn 111 = .ok (.iload 10, 2) := by decide +kernel
theorem dX3_putOn_113 : decode cX3_putOn 113 = .ok (.aload 6, 2) := by decide +kernel
theorem dX3_putOn_115 : decode cX3_putOn 115 = .ok (.invokevirtual 80, 3) := by decide +kernel
theorem dX3_putOn_118 : decode cX3_putOn 118 = .ok (.aload 9, 2) := by decide +kernel
theorem dX3_putOn_120 : decode cX3_putOn 120 = .ok (.getfield 65, 3) := by decide +kernel
theorem dX3_putOn_123 : decode cX3_putOn 123 = .ok (.aload 9, 2) := by decide +kernel
theorem dX3_putOn_125 : decode cX3_putOn 125 = .ok (.getfield 68, 3) := by decide +kernel
theorem dX3_putOn_128 : decode cX3_putOn 128 = .ok (.iconst 0, 1) := by decide +kernel
theorem dX3_putOn_129 : decode cX3_putOn 129 = .ok (.iaload, 1) := by decide +kernel
theorem dX3_putOn_130 : decode cX3_putOn 130 = .ok (.iadd, 1) := by decide +kernel
theorem dX3_putOn_131 : decode cX3_putOn 131 = .ok (.istore 7, 2) := by decide +kernel
theorem dX3_putOn_133 : decode cX3_putOn 133 = .ok (.iinc 8 1, 3) := by decide +kernel
theorem dX3_putOn_136 : decode cX3_putOn 136 = .ok (.goto (-130), 3) := by decide +kernel
theorem dX3_putOn_139 : decode cX3_putOn 139 = .ok (.aload_n 0, 1) := by decide +kernel
theorem dX3_putOn_140 : decode cX3_putOn 140 = .ok (.aload 4, 2) := by decide +kernel
theorem dX3_putOn_142 : decode cX3_putOn 142 = .ok (.iload 5, 2) := by decide +kernel
theorem dX3_putOn_144 : decode cX3_putOn 144 = .ok (.invokevirtual 84, 3) := by decide +kernel
theorem dX3_putOn_147 : decode cX3_putOn 147 = .ok (.putfield 31, 3) := by decide +kernel
theorem dX3_putOn_150 : decode cX3_putOn 150 = .ok (.aload 4, 2) := by decide +kernel
theorem dX3_putOn_152 : decode cX3_putOn 152 = .ok (.iload 5, 2) := by decide +kernel
theorem dX3_putOn_154 : decode cX3_putOn 154 = .ok (.iload 7, 2) := by decide +kernel
theorem dX3_putOn_156 : decode cX3_putOn 156 = .ok (.aload_n 0, 1) := by decide +kernel
theorem dX3_putOn_157 : decode cX3_putOn 157 = .ok (.getfield 31, 3) := by decide +kernel
theorem dX3_putOn_160 : decode cX3_putOn 160 = .ok (.iconst 1, 1) := by decide +kernel
theorem dX3_putOn_161 : decode cX3_putOn 161 = .ok (.iadd, 1) := by decide +kernel
theorem dX3_putOn_162 : decode cX3_putOn 162 = .ok (.aload 6, 2) := by decide +kernel
theorem dX3_putOn_164 : decode cX3_putOn 164 = .ok (.invokevirtual 71, 3) := by decide +kernel
theorem dX3_putOn_167 : decode cX3_putOn 167 = .ok (.aload_n 0, 1) := by decide +kernel
theorem dX3_putOn_168 : decode cX3_putOn 168 = .ok (.aload 6, 2) := by decide +kernel
theorem dX3_putOn_170 : decode cX3_putOn 170 = .ok (.getfield 77, 3) := by decide +kernel
theorem dX3_putOn_173 : decode cX3_putOn 173 = .ok (.putfield 34, 3) := by decide +kernel
theorem dX3_putOn_176 : decode cX3_putOn 176 = .ok (.aload_n 0, 1) := by decide +kernel
theorem dX3_putOn_177 : decode cX3_putOn 177 = .ok (.aload_n 0, 1) := by decide +kernel
theorem dX3_putOn_178 : decode cX3_putOn 178 = .ok (.getfield 37, 3) := by decide +kernel
theorem dX3_putOn_181 : decode cX3_putOn 181 = .ok (.putfield 27, 3) := by decide +kernel
theorem dX3_putOn_184 : decode cX3_putOn 184 = .ok (.return_, 1) := by decide +kernel
theorem dX3_carriedTo_0 : decode cX3_carriedTo 0 = .ok (.iload_n 1, 1) := by decide +kernel
theorem dX3_carriedTo_1 : decode cX3_carriedTo 1 = .ok (.aload_n 0, 1) := by decide +kernel
theorem dX3_carriedTo_2 : decode cX3_carriedTo 2 = .ok (.getfield 31, 3) := by decide +kernel
theorem dX3_carriedTo_5 : decode cX3_carriedTo 5 = .ok (.if_icmp .le 7, 3) := by decide +kernel
theorem dX3_carriedTo_8 : decode cX3_carriedTo 8 = .ok (.iconst (-1), 1) := by decide +kernel
theorem dX3_carriedTo_9 : decode cX3_carriedTo 9 = .ok (.goto 24, 3) := by decide +kernel
theorem dX3_carriedTo_12 : decode cX3_carriedTo 12 = .ok (.aload_n 0, 1) := by decide +kernel
theorem dX3_carriedTo_13 : decode cX3_carriedTo 13 = .ok (.iload_n 1, 1) := by decide +kernel
theorem dX3_carriedTo_14 : decode cX3_carriedTo 14 = .ok (.aload_n 0, 1) := by decide +kernel
theorem dX3_carriedTo_15 : decode cX3_carriedTo 15 = .ok (.getfield 15, 3) := by decide +kernel
theorem dX3_carriedTo_18 : decode cX3_carriedTo 18 = .ok (.aload_n 0, 1) := by decide +kernel
theorem dX3_carriedTo_19 : decode cX3_carriedTo 19 = .ok (.getfield 18, 3) := by decide +kernel
theorem dX3_carriedTo_22 : decode cX3_carriedTo 22 = .ok (.aload_n 0, 1) := by decide +kernel
theorem dX3_carriedTo_23 : decode cX3_carriedTo 23 = .ok (.getfield 21, 3) := by decide +kernel
theorem dX3_carriedTo_26 : decode cX3_carriedTo 26 = .ok (.aload_n 0, 1) := by decide +kernel
theorem dX3_carriedTo_27 : decode cX3_carriedTo 27 = .ok (.getfield 24, 3) := by decide +kernel
theorem dX3_carriedTo_30 : decode cX3_carriedTo 30 = .ok (.invokevirtual 88, 3) := by decide +kernel
theorem dX3_carriedTo_33 : decode cX3_carriedTo 33 = .ok (.ireturn, 1) := by decide +kernel
theorem dX3_backTo_0 : decode cX3_backTo 0 = .ok (.iload_n 1, 1) := by decide +kernel
theorem dX3_backTo_1 : decode cX3_backTo 1 = .ok (.aload_n 0, 1) := by decide +kernel
theorem dX3_backTo_2 : decode cX3_backTo 2 = .ok (.getfield 34, 3) := by decide +kernel
theorem dX3_backTo_5 : decode cX3_backTo 5 = .ok (.if_icmp .le 7, 3) := by decide +kernel
theorem dX3_backTo_8 : decode cX3_backTo 8 = .ok (.iconst (-1), 1) := by decide +kernel
theorem dX3_backTo_9 : decode cX3_backTo 9 = .ok (.goto 24, 3) := by decide +kernel
theorem dX3_backTo_12 : decode cX3_backTo 12 = .ok (.aload_n 0, 1) := by decide +kernel
theorem dX3_backTo_13 : decode cX3_backTo 13 = .ok (.iload_n 1, 1) := by decide +kernel
theorem dX3_backTo_14 : decode cX3_backTo 14 = .ok (.aload_n 0, 1) := by decide +kernel
theorem dX3_backTo_15 : decode cX3_backTo 15 = .ok (.getfield 21, 3) := by decide +kernel
theorem dX3_backTo_18 : decode cX3_backTo 18 = .ok (.aload_n 0, 1) := by decide +kernel
theorem dX3_backTo_19 : decode cX3_backTo 19 = .ok (.getfield 24, 3) := by decide +kernel
theorem dX3_backTo_22 : decode cX3_backTo 22 = .ok (.aload_n 0, 1) := by decide +kernel
theorem dX3_backTo_23 : decode cX3_backTo 23 = .ok (.getfield 15, 3) := by decide +kernel
theorem dX3_backTo_26 : decode cX3_backTo 26 = .ok (.aload_n 0, 1) := by decide +kernel
theorem dX3_backTo_27 : decode cX3_backTo 27 = .ok (.getfield 18, 3) := by decide +kernel
theorem dX3_backTo_30 : decode cX3_backTo 30 = .ok (.invokevirtual 88, 3) := by decide +kernel
theorem dX3_backTo_33 : decode cX3_backTo 33 = .ok (.ireturn, 1) := by decide +kernel
theorem dX3_moved_0 : decode cX3_moved 0 = .ok (.iload_n 1, 1) := by decide +kernel
theorem dX3_moved_1 : decode cX3_moved 1 = .ok (.iconst 1, 1) := by decide +kernel
theorem dX3_moved_2 : decode cX3_moved 2 = .ok (.if_icmp .ge 5, 3) := by decide +kernel
theorem dX3_moved_5 : decode cX3_moved 5 = .ok (.iconst (-1), 1) := by decide +kernel
theorem dX3_moved_6 : decode cX3_moved 6 = .ok (.ireturn, 1) := by decide +kernel
theorem dX3_moved_7 : decode cX3_moved 7 = .ok (.iconst 0, 1) := by decide +kernel
theorem dX3_moved_8 : decode cX3_moved 8 = .ok (.istore 6, 2) := by decide +kernel
theorem dX3_moved_10 : decode cX3_moved 10 = .ok (.iconst 0, 1) := by decide +kernel
theorem dX3_moved_11 : decode cX3_moved 11 = .ok (.istore 7, 2) := by decide +kernel
theorem dX3_moved_13 : decode cX3_moved 13 = .ok (.iload 7, 2) := by decide +kernel
theorem dX3_moved_15 : decode cX3_moved 15 = .ok (.aload_n 0, 1) := by decide +kernel
theorem dX3_moved_16 : decode cX3_moved 16 = .ok (.getfield 27, 3) := by decide +kernel
theorem dX3_moved_19 : decode cX3_moved 19 = .ok (.if_icmp .ge 80, 3) := by decide +kernel
theorem dX3_moved_22 : decode cX3_moved 22 = .ok (.aload_n 2, 1) := by decide +kernel
theorem dX3_moved_23 : decode cX3_moved 23 = .ok (.iload 7, 2) := by decide +kernel
theorem dX3_moved_25 : decode cX3_moved 25 = .ok (.iaload, 1) := by decide +kernel
theorem dX3_moved_26 : decode cX3_moved 26 = .ok (.iload_n 1, 1) := by decide +kernel
theorem dX3_moved_27 : decode cX3_moved 27 = .ok (.if_icmp .gt 72, 3) := by decide +kernel
theorem dX3_moved_30 : decode cX3_moved 30 = .ok (.iload_n 1, 1) := by decide +kernel
theorem dX3_moved_31 : decode cX3_moved 31 = .ok (.aload_n 2, 1) := by decide +kernel
theorem dX3_moved_32 : decode cX3_moved 32 = .ok (.iload 7, 2) := by decide +kernel
theorem dX3_moved_34 : decode cX3_moved 34 = .ok (.iaload, 1) := by decide +kernel
theorem dX3_moved_35 : decode cX3_moved 35 = .ok (.isub, 1) := by decide +kernel
theorem dX3_moved_36 : decode cX3_moved 36 = .ok (.istore 8, 2) := by decide +kernel
theorem dX3_moved_38 : decode cX3_moved 38 = .ok (.iload 8, 2) := by decide +kernel
theorem dX3_moved_40 : decode cX3_moved 40 = .ok (.aload_n 3, 1) := by decide +kernel
theorem dX3_moved_41 : decode cX3_moved 41 = .ok (.iload 7, 2) := by decide +kernel
theorem dX3_moved_43 : decode cX3_moved 43 = .ok (.iaload, 1) := by decide +kernel
theorem dX3_moved_44 : decode cX3_moved 44 = .ok (.if_icmp .ge 26, 3) := by decide +kernel
theorem dX3_moved_47 : decode cX3_moved 47 = .ok (.iload 8, 2) := by decide +kernel
theorem dX3_moved_49 : decode cX3_moved 49 = .ok (.aload 5, 2) := by decide +kernel
theorem dX3_moved_51 : decode cX3_moved 51 = .ok (.iload 7, 2) := by decide +kernel
theorem dX3_moved_53 : decode cX3_moved 53 = .ok (.iaload, 1) := by decide +kernel
theorem dX3_moved_54 : decode cX3_moved 54 = .ok (.if_icmp .ge 14, 3) := by decide +kernel
theorem dX3_moved_57 : decode cX3_moved 57 = .ok (.aload 4, 2) := by decide +kernel
theorem dX3_moved_59 : decode cX3_moved 59 = .ok (.iload 7, 2) := by decide +kernel
theorem dX3_moved_61 : decode cX3_moved 61 = .ok (.iaload, 1) := by decide +kernel
theorem dX3_moved_62 : decode cX3_moved 62 = .ok (.iload 8, 2) := by decide +kernel
theorem dX3_moved_64 : decode cX3_moved 64 = .ok (.iadd, 1) := by decide +kernel
theorem dX3_moved_65 : decode cX3_moved 65 = .ok (.goto 4, 3) := by decide +kernel
theorem dX3_moved_68 : decode cX3_moved 68 = .ok (.iconst (-1), 1) := by decide +kernel
theorem dX3_moved_69 : decode cX3_moved 69 = .ok (.ireturn, 1) := by decide +kernel
theorem dX3_moved_70 : decode cX3_moved 70 = .ok (.aload 4, 2) := by decide +kernel
theorem dX3_moved_72 : decode cX3_moved 72 = .ok (.iload 7, 2) := by decide +kernel
theorem dX3_moved_74 : decode cX3_moved 74 = .ok (.iaload, 1) := by decide +kernel
theorem dX3_moved_75 : decode cX3_moved 75 = .ok (.aload 5, 2) := by decide +kernel
theorem dX3_moved_77 : decode cX3_moved 77 = .ok (.iload 7, 2) := by decide +kernel
theorem dX3_moved_79 : decode cX3_moved 79 = .ok (.iaload, 1) := by decide +kernel
theorem dX3_moved_80 : decode cX3_moved 80 = .ok (.iadd, 1) := by decide +kernel
theorem dX3_moved_81 : decode cX3_moved 81 = .ok (.aload_n 2, 1) := by decide +kernel
theorem dX3_moved_82 : decode cX3_moved 82 = .ok (.iload 7, 2) := by decide +kernel
theorem dX3_moved_84 : decode cX3_moved 84 = .ok (.iaload, 1) := by decide +kernel
theorem dX3_moved_85 : decode cX3_moved 85 = .ok (.isub, 1) := by decide +kernel
theorem dX3_moved_86 : decode cX3_moved 86 = .ok (.aload_n 3, 1) := by decide +kernel
theorem dX3_moved_87 : decode cX3_moved 87 = .ok (.iload 7, 2) := by decide +kernel
theorem dX3_moved_89 : decode cX3_moved 89 = .ok (.iaload, 1) := by decide +kernel
theorem dX3_moved_90 : decode cX3_moved 90 = .ok (.isub, 1) := by decide +kernel
theorem dX3_moved_91 : decode cX3_moved 91 = .ok (.istore 6, 2) := by decide +kernel
theorem dX3_moved_93 : decode cX3_moved 93 = .ok (.iinc 7 1, 3) := by decide +kernel
theorem dX3_moved_96 : decode cX3_moved 96 = .ok (.goto (-83), 3) := by decide +kernel
theorem dX3_moved_99 : decode cX3_moved 99 = .ok (.iload_n 1, 1) := by decide +kernel
theorem dX3_moved_100 : decode cX3_moved 100 = .ok (.iload 6, 2) := by decide +kernel
theorem dX3_moved_102 : decode cX3_moved 102 = .ok (.iadd, 1) := by decide +kernel
theorem dX3_moved_103 : decode cX3_moved 103 = .ok (.ireturn, 1) := by decide +kernel
theorem dX4_init_0 : decode cX4_init 0 = .ok (.aload_n 0, 1) := by decide +kernel
theorem dX4_init_1 : decode cX4_init 1 = .ok (.invokespecial 3, 3) := by decide +kernel
theorem dX4_init_4 : decode cX4_init 4 = .ok (.aload_n 0, 1) := by decide +kernel
theorem dX4_init_5 : decode cX4_init 5 = .ok (.new 9, 3) := by decide +kernel
theorem dX4_init_8 : decode cX4_init 8 = .ok (.dup, 1) := by decide +kernel
theorem dX4_init_9 : decode cX4_init 9 = .ok (.invokespecial 11, 3) := by decide +kernel
theorem dX4_init_12 : decode cX4_init 12 = .ok (.putfield 12, 3) := by decide +kernel
theorem dX4_init_15 : decode cX4_init 15 = .ok (.aload_n 0, 1) := by decide +kernel
theorem dX4_init_16 : decode cX4_init 16 = .ok (.new 9, 3) := by decide +kernel
theorem dX4_init_19 : decode cX4_init 19 = .ok (.dup, 1) := by decide +kernel
theorem dX4_init_20 : decode cX4_init 20 = .ok (.invokespecial 11, 3) := by decide +kernel
theorem dX4_init_23 : decode cX4_init 23 = .ok (.putfield 18, 3) := by decide +kernel
theorem dX4_init_26 : decode cX4_init 26 = .ok (.aload_n 0, 1) := by decide +kernel
theorem dX4_init_27 : decode cX4_init 27 = .ok (.iconst 4, 1) := by decide +kernel
theorem dX4_init_28 : decode cX4_init 28 = .ok (.newarray .int, 2) := by decide +kernel
theorem dX4_init_30 : decode cX4_init 30 = .ok (.putfield 21, 3) := by decide +kernel
theorem dX4_init_33 : decode cX4_init 33 = .ok (.return_, 1) := by decide +kernel
theorem dX4_joins_0 : decode cX4_joins 0 = .ok (.aload_n 1, 1) := by decide +kernel
theorem dX4_joins_1 : decode cX4_joins 1 = .ok (.invokevirtual 25, 3) := by decide +kernel
theorem dX4_joins_4 : decode cX4_joins 4 = .ok (.ifCond .eq 18, 3) := by decide +kernel
theorem dX4_joins_7 : decode cX4_joins 7 = .ok (.aload_n 2, 1) := by decide +kernel
theorem dX4_joins_8 : decode cX4_joins 8 = .ok (.invokevirtual 25, 3) := by decide +kernel
theorem dX4_joins_11 : decode cX4_joins 11 = .ok (.ifCond .eq 11, 3) := by decide +kernel
theorem dX4_joins_14 : decode cX4_joins 14 = .ok (.aload_n 1, 1) := by decide +kernel
theorem dX4_joins_15 : decode cX4_joins 15 = .ok (.aload_n 2, 1) := by decide +kernel
theorem dX4_joins_16 : decode cX4_joins 16 = .ok (.invokevirtual 29, 3) := by decide +kernel
theorem dX4_joins_19 : decode cX4_joins 19 = .ok (.ifCond .ne 5, 3) := by decide +kernel
theorem dX4_joins_22 : decode cX4_joins 22 = .ok (.iconst 0, 1) := by decide +kernel
theorem dX4_joins_23 : decode cX4_joins 23 = .ok (.ireturn, 1) := by decide +kernel
theorem dX4_joins_24 : decode cX4_joins 24 = .ok (.aload_n 1, 1) := by decide +kernel
theorem dX4_joins_25 : decode cX4_joins 25 = .ok (.getfield 33, 3) := by decide +kernel
theorem dX4_joins_28 : decode cX4_joins 28 = .ok (.iconst 0, 1) := by decide +kernel
theorem dX4_joins_29 : decode cX4_joins 29 = .ok (.iaload, 1) := by decide +kernel
theorem dX4_joins_30 : decode cX4_joins 30 = .ok (.aload_n 2, 1) := by decide +kernel
theorem dX4_joins_31 : decode cX4_joins 31 = .ok (.getfield 33, 3) := by decide +kernel
theorem dX4_joins_34 : decode cX4_joins 34 = .ok (.iconst 0, 1) := by decide +kernel
theorem dX4_joins_35 : decode cX4_joins 35 = .ok (.iaload, 1) := by decide +kernel
theorem dX4_joins_36 : decode cX4_joins 36 = .ok (.invokestatic 36, 3) := by decide +kernel
theorem dX4_joins_39 : decode cX4_joins 39 = .ok (.istore 4, 2) := by decide +kernel
theorem dX4_joins_41 : decode cX4_joins 41 = .ok (.aload_n 1, 1) := by decide +kernel
theorem dX4_joins_42 : decode cX4_joins 42 = .ok (.iload 4, 2) := by decide +kernel
theorem dX4_joins_44 : decode cX4_joins 44 = .ok (.invokevirtual 42, 3) := by decide +kernel
theorem dX4_joins_47 : decode cX4_joins 47 = .ok (.ifCond .eq 12, 3) := by decide +kernel
theorem dX4_joins_50 : decode cX4_joins 50 = .ok (.aload_n 2, 1) := by decide +kernel
theorem dX4_joins_51 : decode cX4_joins 51 = .ok (.iload 4, 2) := by decide +kernel
theorem dX4_joins_53 : decode cX4_joins 53 = .ok (.invokevirtual 42, 3) := by decide +kernel
theorem dX4_joins_56 : decode cX4_joins 56 = .ok (.ifCond .ne 5, 3) := by decide +kernel
theorem dX4_joins_59 : decode cX4_joins 59 = .ok (.iconst 0, 1) := by decide +kernel
theorem dX4_joins_60 : decode cX4_joins 60 = .ok (.ireturn, 1) := by decide +kernel
theorem dX4_joins_61 : decode cX4_joins 61 = .ok (.aload_n 0, 1) := by decide +kernel
theorem dX4_joins_62 : decode cX4_joins 62 = .ok (.getfield 12, 3) := by decide +kernel
theorem dX4_joins_65 : decode cX4_joins 65 = .ok (.aload_n 1, 1) := by decide +kernel
theorem dX4_joins_66 : decode cX4_joins 66 = .ok (.invokevirtual 46, 3) := by decide +kernel
theorem dX4_joins_69 : decode cX4_joins 69 = .ok (.aload_n 0, 1) := by decide +kernel
theorem dX4_joins_70 : decode cX4_joins 70 = .ok (.getfield 18, 3) := by decide +kernel
theorem dX4_joins_73 : decode cX4_joins 73 = .ok (.aload_n 2, 1) := by decide +kernel
theorem dX4_joins_74 : decode cX4_joins 74 = .ok (.invokevirtual 46, 3) := by decide +kernel
theorem dX4_joins_77 : decode cX4_joins 77 = .ok (.aload_n 0, 1) := by decide +kernel
theorem dX4_joins_78 : decode cX4_joins 78 = .ok (.getfield 12, 3) := by decide +kernel
theorem dX4_joins_81 : decode cX4_joins 81 = .ok (.aload_n 2, 1) := by decide +kernel
theorem dX4_joins_82 : decode cX4_joins 82 = .ok (.invokevirtual 50, 3) := by decide +kernel
theorem dX4_joins_85 : decode cX4_joins 85 = .ok (.aload_n 0, 1) := by decide +kernel
theorem dX4_joins_86 : decode cX4_joins 86 = .ok (.getfield 18, 3) := by decide +kernel
theorem dX4_joins_89 : decode cX4_joins 89 = .ok (.aload_n 1, 1) := by decide +kernel
theorem dX4_joins_90 : decode cX4_joins 90 = .ok (.invokevirtual 50, 3) := by decide +kernel
theorem dX4_joins_93 : decode cX4_joins 93 = .ok (.aload_n 0, 1) := by decide +kernel
theorem dX4_joins_94 : decode cX4_joins 94 = .ok (.invokevirtual 53, 3) := by decide +kernel
theorem dX4_joins_97 : decode cX4_joins 97 = .ok (.ifCond .ne 5, 3) := by decide +kernel
theorem dX4_joins_100 : decode cX4_joins 100 = .ok (.iconst 0, 1) := by decide +kernel
theorem dX4_joins_101 : decode cX4_joins 101 = .ok (.ireturn, 1) := by decide +kernel
theorem dX4_joins_102 : decode cX4_joins 102 = .ok (.iconst 0, 1) := by decide +kernel
theorem dX4_joins_103 : decode cX4_joins 103 = .ok (.istore 5, 2) := by decide +kernel
theorem dX4_joins_105 : decode cX4_joins 105 = .ok (.iload 5, 2) := by decide +kernel
theorem dX4_joins_107 : decode cX4_joins 107 = .ok (.iload_n 3, 1) := by decide +kernel
theorem dX4_joins_108 : decode cX4_joins 108 = .ok (.if_icmp .ge 15, 3) := by decide +kernel
theorem dX4_joins_111 : decode cX4_joins 111 = .ok (.aload_n 0, 1) := by decide +kernel
theorem dX4_joins_112 : decode cX4_joins 112 = .ok (.iload 5, 2) := by decide +kernel
theorem dX4_joins_114 : decode cX4_joins 114 = .ok (.invokevirtual 56, 3) := by decide +kernel
theorem dX4_joins_117 : decode cX4_joins 117 = .ok (.iinc 5 1, 3) := by decide +kernel
theorem dX4_joins_120 : decode cX4_joins 120 = .ok (.goto (-15), 3) := by decide +kernel
theorem dX4_joins_123 : decode cX4_joins 123 = .ok (.aload_n 1, 1) := by decide +kernel
theorem dX4_joins_124 : decode cX4_joins 124 = .ok (.aload_n 0, 1) := by decide +kernel
theorem dX4_joins_125 : decode cX4_joins 125 = .ok (.getfield 12, 3) := by decide +kernel
theorem dX4_joins_128 : decode cX4_joins 128 = .ok (.invokevirtual 46, 3) := by decide +kernel
theorem dX4_joins_131 : decode cX4_joins 131 = .ok (.iconst 1, 1) := by decide +kernel
theorem dX4_joins_132 : decode cX4_joins 132 = .ok (.ireturn, 1) := by decide +kernel
theorem dX4_takeAlts_0 : decode cX4_takeAlts 0 = .ok (.iconst 1, 1) := by decide +kernel
theorem dX4_takeAlts_1 : decode cX4_takeAlts 1 = .ok (.istore_n 1, 1) := by decide +kernel
theorem dX4_takeAlts_2 : decode cX4_takeAlts 2 = .ok (.iload_n 1, 1) := by decide +kernel
theorem dX4_takeAlts_3 : decode cX4_takeAlts 3 = .ok (.aload_n 0, 1) := by decide +kernel
theorem dX4_takeAlts_4 : decode cX4_takeAlts 4 = .ok (.getfield 18, 3) := by decide +kernel
theorem dX4_takeAlts_7 : decode cX4_takeAlts 7 = .ok (.getfield 60, 3) := by decide +kernel
theorem dX4_takeAlts_10 : decode cX4_takeAlts 10 = .ok (.if_icmp .ge 75, 3) := by decide +kernel
theorem dX4_takeAlts_13 : decode cX4_takeAlts 13 = .ok (.aload_n 0, 1) := by decide +kernel
theorem dX4_takeAlts_14 : decode cX4_takeAlts 14 = .ok (.getfield 12, 3) := by decide +kernel
theorem dX4_takeAlts_17 : decode cX4_takeAlts 17 = .ok (.aload_n 0, 1) := by decide +kernel
theorem dX4_takeAlts_18 : decode cX4_takeAlts 18 = .ok (.getfield 18, 3) := by decide +kernel
theorem dX4_takeAlts_21 : decode cX4_takeAlts 21 = .ok (.iload_n 1, 1) := by decide +kernel
theorem dX4_takeAlts_22 : decode cX4_takeAlts 22 = .ok (.invokevirtual 64, 3) := by decide +kernel
theorem dX4_takeAlts_25 : decode cX4_takeAlts 25 = .ok (.istore_n 2, 1) := by decide +kernel
theorem dX4_takeAlts_26 : decode cX4_takeAlts 26 = .ok (.iload_n 2, 1) := by decide +kernel
theorem dX4_takeAlts_27 : decode cX4_takeAlts 27 = .ok (.iconst (-1), 1) := by decide +kernel
theorem dX4_takeAlts_28 : decode cX4_takeAlts 28 = .ok (.if_icmp .ne 44, 3) := by decide +kernel
theorem dX4_takeAlts_31 : decode cX4_takeAlts 31 = .ok (.aload_n 0, 1) := by decide +kernel
theorem dX4_takeAlts_32 : decode cX4_takeAlts 32 = .ok (.getfield 12, 3) := by decide +kernel
theorem dX4_takeAlts_35 : decode cX4_takeAlts 35 = .ok (.getfield 60, 3) := by decide +kernel
theorem dX4_takeAlts_38 : decode cX4_takeAlts 38 = .ok (.istore_n 2, 1) := by decide +kernel
theorem dX4_takeAlts_39 : decode cX4_takeAlts 39 = .ok (.iload_n 2, 1) := by decide +kernel
theorem dX4_takeAlts_40 : decode cX4_takeAlts 40 = .ok (.iconst 4, 1) := by decide +kernel
theorem dX4_takeAlts_41 : decode cX4_takeAlts 41 = .ok (.if_icmp .ne 5, 3) := by decide +kernel
theorem dX4_takeAlts_44 : decode cX4_takeAlts 44 = .ok (.iconst 0, 1) := by decide +kernel
theorem dX4_takeAlts_45 : decode cX4_takeAlts 45 = .ok (.ireturn, 1) := by decide +kernel
theorem dX4_takeAlts_46 : decode cX4_takeAlts 46 = .ok (.aload_n 0, 1) := by decide +kernel
theorem dX4_takeAlts_47 : decode cX4_takeAlts 47 = .ok (.getfield 12, 3) := by decide +kernel
theorem dX4_takeAlts_50 : decode cX4_takeAlts 50 = .ok (.iload_n 2, 1) := by decide +kernel
theorem dX4_takeAlts_51 : decode cX4_takeAlts 51 = .ok (.aload_n 0, 1) := by decide +kernel
theorem dX4_takeAlts_52 : decode cX4_takeAlts 52 = .ok (.getfield 18, 3) := by decide +kernel
theorem dX4_takeAlts_55 : decode cX4_takeAlts 55 = .ok (.iload_n 1, 1) := by decide +kernel
theorem dX4_takeAlts_56 : decode cX4_takeAlts 56 = .ok (.invokevirtual 68, 3) := by decide +kernel
theorem dX4_takeAlts_59 : decode cX4_takeAlts 59 = .ok (.aload_n 0, 1) := by decide +kernel
theorem dX4_takeAlts_60 : decode cX4_takeAlts 60 = .ok (.getfield 12, 3) := by decide +kernel
theorem dX4_takeAlts_63 : decode cX4_takeAlts 63 = .ok (.dup, 1) := by decide +kernel
theorem dX4_takeAlts_64 : decode cX4_takeAlts 64 = .ok (.getfield 60, 3) := by decide +kernel
theorem dX4_takeAlts_67 : decode cX4_takeAlts 67 = .ok (.iconst 1, 1) := by decide +kernel
theorem dX4_takeAlts_68 : decode cX4_takeAlts 68 = .ok (.iadd, 1) := by decide +kernel
theorem dX4_takeAlts_69 : decode cX4_takeAlts 69 = .ok (.putfield 60, 3) := by decide +kernel
theorem dX4_takeAlts_72 : decode cX4_takeAlts 72 = .ok (.aload_n 0, 1) := by decide +kernel
theorem dX4_takeAlts_73 : decode cX4_takeAlts 73 = .ok (.getfield 21, 3) := by decide +kernel
theorem dX4_takeAlts_76 : decode cX4_takeAlts 76 = .ok (.iload_n 1, 1) := by decide +kernel
theorem dX4_takeAlts_77 : decode cX4_takeAlts 77 = .ok (.iload_n 2, 1) := by decide +kernel
theorem dX4_takeAlts_78 : decode cX4_takeAlts 78 = .ok (.iastore, 1) := by decide +kernel
theorem dX4_takeAlts_79 : decode cX4_takeAlts 79 = .ok (.iinc 1 1, 3) := by decide +kernel
theorem dX4_takeAlts_82 : decode cX4_takeAlts 82 = .ok (.goto (-80), 3) := by decide +kernel
theorem dX4_takeAlts_85 : decode cX4_takeAlts 85 = .ok (.iconst 1, 1) := by decide +kernel
theorem dX4_takeAlts_86 : decode cX4_takeAlts 86 = .ok (.ireturn, 1) := by decide +kernel
theorem dX4_joinCalls_0 : decode cX4_joinCalls 0 = .ok (.aload_n 0, 1) := by decide +kernel
theorem dX4_joinCalls_1 : decode cX4_joinCalls 1 = .ok (.getfield 12, 3) := by decide +kernel
theorem dX4_joinCalls_4 : decode cX4_joinCalls 4 = .ok (.getfield 72, 3) := by decide +kernel
theorem dX4_joinCalls_7 : decode cX4_joinCalls 7 = .ok (.iload_n 1, 1) := by decide +kernel
theorem dX4_joinCalls_8 : decode cX4_joinCalls 8 = .ok (.iaload, 1) := by decide +kernel
theorem dX4_joinCalls_9 : decode cX4_joinCalls 9 = .ok (.aload_n 0, 1) := by decide +kernel
theorem dX4_joinCalls_10 : decode cX4_joinCalls 10 = .ok (.getfield 18, 3) := by decide +kernel
theorem dX4_joinCalls_13 : decode cX4_joinCalls 13 = .ok (.getfield 72, 3) := by decide +kernel
theorem dX4_joinCalls_16 : decode cX4_joinCalls 16 = .ok (.iload_n 1, 1) := by decide +kernel
theorem dX4_joinCalls_17 : decode cX4_joinCalls 17 = .ok (.iaload, 1) := by decide +kernel
theorem dX4_joinCalls_18 : decode cX4_joinCalls 18 = .ok (.invokestatic 36, 3) := by decide +kernel
theorem dX4_joinCalls_21 : decode cX4_joinCalls 21 = .ok (.istore_n 2, 1) := by decide +kernel
theorem dX4_joinCalls_22 : decode cX4_joinCalls 22 = .ok (.aload_n 0, 1) := by decide +kernel
theorem dX4_joinCalls_23 : decode cX4_joinCalls 23 = .ok (.iload_n 1, 1) := by decide +kernel
theorem dX4_joinCalls_24 : decode cX4_joinCalls 24 = .ok (.invokevirtual 75, 3) := by decide +kernel
theorem dX4_joinCalls_27 : decode cX4_joinCalls 27 = .ok (.istore_n 3, 1) := by decide +kernel
theorem dX4_joinCalls_28 : decode cX4_joinCalls 28 = .ok (.iconst 0, 1) := by decide +kernel
theorem dX4_joinCalls_29 : decode cX4_joinCalls 29 = .ok (.istore 4, 2) := by decide +kernel
theorem dX4_joinCalls_31 : decode cX4_joinCalls 31 = .ok (.iload 4, 2) := by decide +kernel
theorem dX4_joinCalls_33 : decode cX4_joinCalls 33 = .ok (.iload_n 2, 1) := by decide +kernel
theorem dX4_joinCalls_34 : decode cX4_joinCalls 34 = .ok (.if_icmp .ge 43, 3) := by decide +kernel
theorem dX4_joinCalls_37 : decode cX4_joinCalls 37 = .ok (.aload_n 0, 1) := by decide +kernel
theorem dX4_joinCalls_38 : decode cX4_joinCalls 38 = .ok (.getfield 12, 3) := by decide +kernel
theorem dX4_joinCalls_41 : decode cX4_joinCalls 41 = .ok (.iload_n 1, 1) := by decide +kernel
theorem dX4_joinCalls_42 : decode cX4_joinCalls 42 = .ok (.iload 4, 2) := by decide +kernel
theorem dX4_joinCalls_44 : decode cX4_joinCalls 44 = .ok (.aload_n 0, 1) := by decide +kernel
theorem dX4_joinCalls_45 : decode cX4_joinCalls 45 = .ok (.aload_n 0, 1) := by decide +kernel
theorem dX4_joinCalls_46 : decode cX4_joinCalls 46 = .ok (.getfield 12, 3) := by decide +kernel
theorem dX4_joinCalls_49 : decode cX4_joinCalls 49 = .ok (.iload_n 1, 1) := by decide +kernel
theorem dX4_joinCalls_50 : decode cX4_joinCalls 50 = .ok (.iload 4, 2) := by decide +kernel
theorem dX4_joinCalls_52 : decode cX4_joinCalls 52 = .ok (.invokevirtual 78, 3) := by decide +kernel
theorem dX4_joinCalls_55 : decode cX4_joinCalls 55 = .ok (.aload_n 0, 1) := by decide +kernel
theorem dX4_joinCalls_56 : decode cX4_joinCalls 56 = .ok (.getfield 18, 3) := by decide +kernel
theorem dX4_joinCalls_59 : decode cX4_joinCalls 59 = .ok (.iload_n 1, 1) := by decide +kernel
theorem dX4_joinCalls_60 : decode cX4_joinCalls 60 = .ok (.iload 4, 2) := by decide +kernel
theorem dX4_joinCalls_62 : decode cX4_joinCalls 62 = .ok (.invokevirtual 78, 3) := by decide +kernel
theorem dX4_joinCalls_65 : decode cX4_joinCalls 65 = .ok (.invokevirtual 81, 3) := by decide +kernel
theorem dX4_joinCalls_68 : decode cX4_joinCalls 68 = .ok (.invokevirtual 84, 3) := by decide +kernel
theorem dX4_joinCalls_71 : decode cX4_joinCalls 71 = .ok (.iinc 4 1, 3) := by decide +kernel
theorem dX4_joinCalls_74 : decode cX4_joinCalls 74 = .ok (.goto (-43), 3) := by decide +kernel
theorem dX4_joinCalls_77 : decode cX4_joinCalls 77 = .ok (.aload_n 0, 1) := by decide +kernel
theorem dX4_joinCalls_78 : decode cX4_joinCalls 78 = .ok (.getfield 12, 3) := by decide +kernel
theorem dX4_joinCalls_81 : decode cX4_joinCalls 81 = .ok (.getfield 72, 3) := by decide +kernel
theorem dX4_joinCalls_84 : decode cX4_joinCalls 84 = .ok (.iload_n 1, 1) := by decide +kernel
theorem dX4_joinCalls_85 : decode cX4_joinCalls 85 = .ok (.iload_n 2, 1) := by decide +kernel
theorem dX4_joinCalls_86 : decode cX4_joinCalls 86 = .ok (.iastore, 1) := by decide +kernel
theorem dX4_joinCalls_87 : decode cX4_joinCalls 87 = .ok (.aload_n 0, 1) := by decide +kernel
theorem dX4_joinCalls_88 : decode cX4_joinCalls 88 = .ok (.getfield 12, 3) := by decide +kernel
theorem dX4_joinCalls_91 : decode cX4_joinCalls 91 = .ok (.getfield 88, 3) := by decide +kernel
theorem dX4_joinCalls_94 : decode cX4_joinCalls 94 = .ok (.iload_n 1, 1) := by decide +kernel
theorem dX4_joinCalls_95 : decode cX4_joinCalls 95 = .ok (.iload_n 3, 1) := by decide +kernel
theorem dX4_joinCalls_96 : decode cX4_joinCalls 96 = .ok (.bastore, 1) := by decide +kernel
theorem dX4_joinCalls_97 : decode cX4_joinCalls 97 = .ok (.return_, 1) := by decide +kernel
theorem dX4_joinedPhase_0 : decode cX4_joinedPhase 0 = .ok (.aload_n 0, 1) := by decide +kernel
theorem dX4_joinedPhase_1 : decode cX4_joinedPhase 1 = .ok (.getfield 12, 3) := by decide +kernel
theorem dX4_joinedPhase_4 : decode cX4_joinedPhase 4 = .ok (.getfield 72, 3) := by decide +kernel
theorem dX4_joinedPhase_7 : decode cX4_joinedPhase 7 = .ok (.iload_n 1, 1) := by decide +kernel
theorem dX4_joinedPhase_8 : decode cX4_joinedPhase 8 = .ok (.iaload, 1) := by decide +kernel
theorem dX4_joinedPhase_9 : decode cX4_joinedPhase 9 = .ok (.iconst 1, 1) := by decide +kernel
theorem dX4_joinedPhase_10 : decode cX4_joinedPhase 10 = .ok (.if_icmp .ne 13, 3) := by decide +kernel
theorem dX4_joinedPhase_13 : decode cX4_joinedPhase 13 = .ok (.aload_n 0, 1) := by decide +kernel
theorem dX4_joinedPhase_14 : decode cX4_joinedPhase 14 = .ok (.getfield 18, 3) := by decide +kernel
theorem dX4_joinedPhase_17 : decode cX4_joinedPhase 17 = .ok (.getfield 88, 3) := by decide +kernel
theorem dX4_joinedPhase_20 : decode cX4_joinedPhase 20 = .ok (.iload_n 1, 1) := by decide +kernel
theorem dX4_joinedPhase_21 : decode cX4_joinedPhase 21 = .ok (.baload, 1) := by decide +kernel
theorem dX4_joinedPhase_22 : decode cX4_joinedPhase 22 = .ok (.ireturn, 1) := by decide +kernel
theorem dX4_joinedPhase_23 : decode cX4_joinedPhase 23 = .ok (.aload_n 0, 1) := by decide +kernel
theorem dX4_joinedPhase_24 : decode cX4_joinedPhase 24 = .ok (.getfield 12, 3) := by decide +kernel
theorem dX4_joinedPhase_27 : decode cX4_joinedPhase 27 = .ok (.getfield 88, 3) := by decide +kernel
theorem dX4_joinedPhase_30 : decode cX4_joinedPhase 30 = .ok (.iload_n 1, 1) := by decide +kernel
theorem dX4_joinedPhase_31 : decode cX4_joinedPhase 31 = .ok (.baload, 1) := by decide +kernel
theorem dX4_joinedPhase_32 : decode cX4_joinedPhase 32 = .ok (.ifCond .eq 32, 3) := by decide +kernel
theorem dX4_joinedPhase_35 : decode cX4_joinedPhase 35 = .ok (.aload_n 0, 1) := by decide +kernel
theorem dX4_joinedPhase_36 : decode cX4_joinedPhase 36 = .ok (.getfield 18, 3) := by decide +kernel
theorem dX4_joinedPhase_39 : decode cX4_joinedPhase 39 = .ok (.getfield 72, 3) := by decide +kernel
theorem dX4_joinedPhase_42 : decode cX4_joinedPhase 42 = .ok (.iload_n 1, 1) := by decide +kernel
theorem dX4_joinedPhase_43 : decode cX4_joinedPhase 43 = .ok (.iaload, 1) := by decide +kernel
theorem dX4_joinedPhase_44 : decode cX4_joinedPhase 44 = .ok (.iconst 1, 1) := by decide +kernel
theorem dX4_joinedPhase_45 : decode cX4_joinedPhase 45 = .ok (.if_icmp .eq 15, 3) := by decide +kernel
theorem dX4_joinedPhase_48 : decode cX4_joinedPhase 48 = .ok (.aload_n 0, 1) := by decide +kernel
theorem dX4_joinedPhase_49 : decode cX4_joinedPhase 49 = .ok (.getfield 18, 3) := by decide +kernel
theorem dX4_joinedPhase_52 : decode cX4_joinedPhase 52 = .ok (.getfield 88, 3) := by decide +kernel
theorem dX4_joinedPhase_55 : decode cX4_joinedPhase 55 = .ok (.iload_n 1, 1) := by decide +kernel
theorem dX4_joinedPhase_56 : decode cX4_joinedPhase 56 = .ok (.baload, 1) := by decide +kernel
theorem dX4_joinedPhase_57 : decode cX4_joinedPhase 57 = .ok (.ifCond .eq 7, 3) := by decide +kernel
theorem dX4_joinedPhase_60 : decode cX4_joinedPhase 60 = .ok (.iconst 1, 1) := by decide +kernel
theorem dX4_joinedPhase_61 : decode cX4_joinedPhase 61 = .ok (.goto 4, 3) := by decide +kernel
theorem dX4_joinedPhase_64 : decode cX4_joinedPhase 64 = .ok (.iconst 0, 1) := by decide +kernel
theorem dX4_joinedPhase_65 : decode cX4_joinedPhase 65 = .ok (.ireturn, 1) := by decide +kernel
theorem dX4_joinedCall_0 : decode cX4_joinedCall 0 = .ok (.iload_n 1, 1) := by decide +kernel
theorem dX4_joinedCall_1 : decode cX4_joinedCall 1 = .ok (.ifCond .le 5, 3) := by decide +kernel
theorem dX4_joinedCall_4 : decode cX4_joinedCall 4 = .ok (.iload_n 1, 1) := by decide +kernel
theorem dX4_joinedCall_5 : decode cX4_joinedCall 5 = .ok (.ireturn, 1) := by decide +kernel
theorem dX4_joinedCall_6 : decode cX4_joinedCall 6 = .ok (.iload_n 2, 1) := by decide +kernel
theorem dX4_joinedCall_7 : decode cX4_joinedCall 7 = .ok (.ifCond .le 15, 3) := by decide +kernel
theorem dX4_joinedCall_10 : decode cX4_joinedCall 10 = .ok (.iload_n 2, 1) := by decide +kernel
theorem dX4_joinedCall_11 : decode cX4_joinedCall 11 = .ok (.iconst 4, 1) := by decide +kernel
theorem dX4_joinedCall_12 : decode cX4_joinedCall 12 = .ok (.if_icmp .ge 10, 3) := by decide +kernel
theorem dX4_joinedCall_15 : decode cX4_joinedCall 15 = .ok (.aload_n 0, 1) := by decide +kernel
theorem dX4_joinedCall_16 : decode cX4_joinedCall 16 = .ok (.getfield 21, 3) := by decide +kernel
theorem dX4_joinedCall_19 : decode cX4_joinedCall 19 = .ok (.iload_n 2, 1) := by decide +kernel
theorem dX4_joinedCall_20 : decode cX4_joinedCall 20 = .ok (.iaload, 1) := by decide +kernel
theorem dX4_joinedCall_21 : decode cX4_joinedCall 21 = .ok (.ireturn, 1) := by decide +kernel
theorem dX4_joinedCall_22 : decode cX4_joinedCall 22 = .ok (.iload_n 1, 1) := by decide +kernel
theorem dX4_joinedCall_23 : decode cX4_joinedCall 23 = .ok (.ifCond .eq 7, 3) := by decide +kernel
theorem dX4_joinedCall_26 : decode cX4_joinedCall 26 = .ok (.iload_n 2, 1) := by decide +kernel
theorem dX4_joinedCall_27 : decode cX4_joinedCall 27 = .ok (.ifCond .ne 7, 3) := by decide +kernel
theorem dX4_joinedCall_30 : decode cX4_joinedCall 30 = .ok (.iconst 0, 1) := by decide +kernel
theorem dX4_joinedCall_31 : decode cX4_joinedCall 31 = .ok (.goto 4, 3) := by decide +kernel
theorem dX4_joinedCall_34 : decode cX4_joinedCall 34 = .ok (.iconst (-1), 1) := by decide +kernel
theorem dX4_joinedCall_35 : decode cX4_joinedCall 35 = .ok (.ireturn, 1) := by decide +kernel
theorem dX5_init_0 : decode cX5_init 0 = .ok (.aload_n 0, 1) := by decide +kernel
theorem dX5_init_1 : decode cX5_init 1 = .ok (.invokespecial 3, 3) := by decide +kernel
theorem dX5_init_4 : decode cX5_init 4 = .ok (.aload_n 0, 1) := by decide +kernel
theorem dX5_init_5 : decode cX5_init 5 = .ok (.iconst 0, 1) := by decide +kernel
theorem dX5_init_6 : decode cX5_init 6 = .ok (.iload_n 1, 1) := by decide +kernel
theorem dX5_init_7 : decode cX5_init 7 = .ok (.invokestatic 9, 3) := by decide +kernel
theorem dX5_init_10 : decode cX5_init 10 = .ok (.putfield 15, 3) := by decide +kernel
theorem dX5_init_13 : decode cX5_init 13 = .ok (.aload_n 0, 1) := by decide +kernel
theorem dX5_init_14 : decode cX5_init 14 = .ok (.aload_n 0, 1) := by decide +kernel
theorem dX5_init_15 : decode cX5_init 15 = .ok (.getfield 15, 3) := by decide +kernel
theorem dX5_init_18 : decode cX5_init 18 = .ok (.bipush 20, 2) := by decide +kernel
theorem dX5_init_20 : decode cX5_init 20 = .ok (.imul, 1) := by decide +kernel
theorem dX5_init_21 : decode cX5_init 21 = .ok (.newarray .int, 2) := by decide +kernel
theorem dX5_init_23 : decode cX5_init 23 = .ok (.putfield 21, 3) := by decide +kernel
theorem dX5_init_26 : decode cX5_init 26 = .ok (.aload_n 0, 1) := by decide +kernel
theorem dX5_init_27 : decode cX5_init 27 = .ok (.aload_n 0, 1) := by decide +kernel
theorem dX5_init_28 : decode cX5_init 28 = .ok (.getfield 15, 3) := by decide +kernel
theorem dX5_init_31 : decode cX5_init 31 = .ok (.newarray .int, 2) := by decide +kernel
theorem dX5_init_33 : decode cX5_init 33 = .ok (.putfield 25, 3) := by decide +kernel
theorem dX5_init_36 : decode cX5_init 36 = .ok (.return_, 1) := by decide +kernel
theorem dX5_clear_0 : decode cX5_clear 0 = .ok (.aload_n 0, 1) := by decide +kernel
theorem dX5_clear_1 : decode cX5_clear 1 = .ok (.iconst 0, 1) := by decide +kernel
theorem dX5_clear_2 : decode cX5_clear 2 = .ok (.putfield 28, 3) := by decide +kernel
theorem dX5_clear_5 : decode cX5_clear 5 = .ok (.return_, 1) := by decide +kernel
theorem dX5_open_0 : decode cX5_open 0 = .ok (.aload_n 0, 1) := by decide +kernel
theorem dX5_open_1 : decode cX5_open 1 = .ok (.getfield 28, 3) := by decide +kernel
theorem dX5_open_4 : decode cX5_open 4 = .ok (.aload_n 0, 1) := by decide +kernel
theorem dX5_open_5 : decode cX5_open 5 = .ok (.getfield 15, 3) := by decide +kernel
theorem dX5_open_8 : decode cX5_open 8 = .ok (.if_icmp .ge 23, 3) := by decide +kernel
theorem dX5_open_11 : decode cX5_open 11 = .ok (.aload_n 0, 1) := by decide +kernel
theorem dX5_open_12 : decode cX5_open 12 = .ok (.getfield 25, 3) := by decide +kernel
theorem dX5_open_15 : decode cX5_open 15 = .ok (.aload_n 0, 1) := by decide +kernel
theorem dX5_open_16 : decode cX5_open 16 = .ok (.getfield 28, 3) := by decide +kernel
theorem dX5_open_19 : decode cX5_open 19 = .ok (.iconst 0, 1) := by decide +kernel
theorem dX5_open_20 : decode cX5_open 20 = .ok (.iastore, 1) := by decide +kernel
theorem dX5_open_21 : decode cX5_open 21 = .ok (.aload_n 0, 1) := by decide +kernel
theorem dX5_open_22 : decode cX5_open 22 = .ok (.dup, 1) := by decide +kernel
theorem dX5_open_23 : decode cX5_open 23 = .ok (.getfield 28, 3) := by decide +kernel
theorem dX5_open_26 : decode cX5_open 26 = .ok (.iconst 1, 1) := by decide +kernel
theorem dX5_open_27 : decode cX5_open 27 = .ok (.iadd, 1) := by decide +kernel
theorem dX5_open_28 : decode cX5_open 28 = .ok (.putfield 28, 3) := by decide +kernel
theorem dX5_open_31 : decode cX5_open 31 = .ok (.return_, 1) := by decide +kernel
theorem dX5_add_0 : decode cX5_add 0 = .ok (.aload_n 0, 1) := by decide +kernel
theorem dX5_add_1 : decode cX5_add 1 = .ok (.getfield 28, 3) := by decide +kernel
theorem dX5_add_4 : decode cX5_add 4 = .ok (.iconst 1, 1) := by decide +kernel
theorem dX5_add_5 : decode cX5_add 5 = .ok (.isub, 1) := by decide +kernel
theorem dX5_add_6 : decode cX5_add 6 = .ok (.istore_n 2, 1) := by decide +kernel
theorem dX5_add_7 : decode cX5_add 7 = .ok (.iload_n 2, 1) := by decide +kernel
theorem dX5_add_8 : decode cX5_add 8 = .ok (.ifCond .lt 41, 3) := by decide +kernel
theorem dX5_add_11 : decode cX5_add 11 = .ok (.aload_n 0, 1) := by decide +kernel
theorem dX5_add_12 : decode cX5_add 12 = .ok (.getfield 25, 3) := by decide +kernel
theorem dX5_add_15 : decode cX5_add 15 = .ok (.iload_n 2, 1) := by decide +kernel
theorem dX5_add_16 : decode cX5_add 16 = .ok (.iaload, 1) := by decide +kernel
theorem dX5_add_17 : decode cX5_add 17 = .ok (.bipush 20, 2) := by decide +kernel
theorem dX5_add_19 : decode cX5_add 19 = .ok (.if_icmp .ge 30, 3) := by decide +kernel
theorem dX5_add_22 : decode cX5_add 22 = .ok (.aload_n 0, 1) := by decide +kernel
theorem dX5_add_23 : decode cX5_add 23 = .ok (.getfield 21, 3) := by decide +kernel
theorem dX5_add_26 : decode cX5_add 26 = .ok (.iload_n 2, 1) := by decide +kernel
theorem dX5_add_27 : decode cX5_add 27 = .ok (.bipush 20, 2) := by decide +kernel
theorem dX5_add_29 : decode cX5_add 29 = .ok (.imul, 1) := by decide +kernel
theorem dX5_add_30 : decode cX5_add 30 = .ok (.aload_n 0, 1) := by decide +kernel
theorem dX5_add_31 : decode cX5_add 31 = .ok (.getfield 25, 3) := by decide +kernel
theorem dX5_add_34 : decode cX5_add 34 = .ok (.iload_n 2, 1) := by decide +kernel
theorem dX5_add_35 : decode cX5_add 35 = .ok (.iaload, 1) := by decide +kernel
theorem dX5_add_36 : decode cX5_add 36 = .ok (.iadd, 1) := by decide +kernel
theorem dX5_add_37 : decode cX5_add 37 = .ok (.iload_n 1, 1) := by decide +kernel
theorem dX5_add_38 : decode cX5_add 38 = .ok (.iastore, 1) := by decide +kernel
theorem dX5_add_39 : decode cX5_add 39 = .ok (.aload_n 0, 1) := by decide +kernel
theorem dX5_add_40 : decode cX5_add 40 = .ok (.getfield 25, 3) := by decide +kernel
theorem dX5_add_43 : decode cX5_add 43 = .ok (.iload_n 2, 1) := by decide +kernel
theorem dX5_add_44 : decode cX5_add 44 = .ok (.dup2, 1) := by decide +kernel
theorem dX5_add_45 : decode cX5_add 45 = .ok (.iaload, 1) := by decide +kernel
theorem dX5_add_46 : decode cX5_add 46 = .ok (.iconst 1, 1) := by decide +kernel
theorem dX5_add_47 : decode cX5_add 47 = .ok (.iadd, 1) := by decide +kernel
theorem dX5_add_48 : decode cX5_add 48 = .ok (.iastore, 1) := by decide +kernel
theorem dX5_add_49 : decode cX5_add 49 = .ok (.return_, 1) := by decide +kernel
theorem dX5_addAll_0 : decode cX5_addAll 0 = .ok (.iconst 0, 1) := by decide +kernel
theorem dX5_addAll_1 : decode cX5_addAll 1 = .ok (.istore_n 2, 1) := by decide +kernel
theorem dX5_addAll_2 : decode cX5_addAll 2 = .ok (.iload_n 2, 1) := by decide +kernel
theorem dX5_addAll_3 : decode cX5_addAll 3 = .ok (.aload_n 1, 1) := by decide +kernel
theorem dX5_addAll_4 : decode cX5_addAll 4 = .ok (.getfield 28, 3) := by decide +kernel
theorem dX5_addAll_7 : decode cX5_addAll 7 = .ok (.if_icmp .ge 46, 3) := by decide +kernel
theorem dX5_addAll_10 : decode cX5_addAll 10 = .ok (.aload_n 0, 1) := by decide +kernel
theorem dX5_addAll_11 : decode cX5_addAll 11 = .ok (.invokevirtual 31, 3) := by decide +kernel
theorem dX5_addAll_14 : decode cX5_addAll 14 = .ok (.iconst 0, 1) := by decide +kernel
theorem dX5_addAll_15 : decode cX5_addAll 15 = .ok (.istore_n 3, 1) := by decide +kernel
theorem dX5_addAll_16 : decode cX5_addAll 16 = .ok (.iload_n 3, 1) := by decide +kernel
theorem dX5_addAll_17 : decode cX5_addAll 17 = .ok (.aload_n 1, 1) := by decide +kernel
theorem dX5_addAll_18 : decode cX5_addAll 18 = .ok (.getfield 25, 3) := by decide +kernel
theorem dX5_addAll_21 : decode cX5_addAll 21 = .ok (.iload_n 2, 1) := by decide +kernel
theorem dX5_addAll_22 : decode cX5_addAll 22 = .ok (.iaload, 1) := by decide +kernel
theorem dX5_addAll_23 : decode cX5_addAll 23 = .ok (.if_icmp .ge 24, 3) := by decide +kernel
theorem dX5_addAll_26 : decode cX5_addAll 26 = .ok (.aload_n 0, 1) := by decide +kernel
theorem dX5_addAll_27 : decode cX5_addAll 27 = .ok (.aload_n 1, 1) := by decide +kernel
theorem dX5_addAll_28 : decode cX5_addAll 28 = .ok (.getfield 21, 3) := by decide +kernel
theorem dX5_addAll_31 : decode cX5_addAll 31 = .ok (.iload_n 2, 1) := by decide +kernel
theorem dX5_addAll_32 : decode cX5_addAll 32 = .ok (.bipush 20, 2) := by decide +kernel
theorem dX5_addAll_34 : decode cX5_addAll 34 = .ok (.imul, 1) := by decide +kernel
theorem dX5_addAll_35 : decode cX5_addAll 35 = .ok (.iload_n 3, 1) := by decide +kernel
theorem dX5_addAll_36 : decode cX5_addAll 36 = .ok (.iadd, 1) := by decide +kernel
theorem dX5_addAll_37 : decode cX5_addAll 37 = .ok (.iaload, 1) := by decide +kernel
theorem dX5_addAll_38 : decode cX5_addAll 38 = .ok (.invokevirtual 34, 3) := by decide +kernel
theorem dX5_addAll_41 : decode cX5_addAll 41 = .ok (.iinc 3 1, 3) := by decide +kernel
theorem dX5_addAll_44 : decode cX5_addAll 44 = .ok (.goto (-28), 3) := by decide +kernel
theorem dX5_addAll_47 : decode cX5_addAll 47 = .ok (.iinc 2 1, 3) := by decide +kernel
theorem dX5_addAll_50 : decode cX5_addAll 50 = .ok (.goto (-48), 3) := by decide +kernel
theorem dX5_addAll_53 : decode cX5_addAll 53 = .ok (.return_, 1) := by decide +kernel
theorem dX5_sizeOf_0 : decode cX5_sizeOf 0 = .ok (.iload_n 1, 1) := by decide +kernel
theorem dX5_sizeOf_1 : decode cX5_sizeOf 1 = .ok (.ifCond .lt 20, 3) := by decide +kernel
theorem dX5_sizeOf_4 : decode cX5_sizeOf 4 = .ok (.iload_n 1, 1) := by decide +kernel
theorem dX5_sizeOf_5 : decode cX5_sizeOf 5 = .ok (.aload_n 0, 1) := by decide +kernel
theorem dX5_sizeOf_6 : decode cX5_sizeOf 6 = .ok (.getfield 28, 3) := by decide +kernel
theorem dX5_sizeOf_9 : decode cX5_sizeOf 9 = .ok (.if_icmp .ge 12, 3) := by decide +kernel
theorem dX5_sizeOf_12 : decode cX5_sizeOf 12 = .ok (.aload_n 0, 1) := by decide +kernel
theorem dX5_sizeOf_13 : decode cX5_sizeOf 13 = .ok (.getfield 25, 3) := by decide +kernel
theorem dX5_sizeOf_16 : decode cX5_sizeOf 16 = .ok (.iload_n 1, 1) := by decide +kernel
theorem dX5_sizeOf_17 : decode cX5_sizeOf 17 = .ok (.iaload, 1) := by decide +kernel
theorem dX5_sizeOf_18 : decode cX5_sizeOf 18 = .ok (.goto 4, 3) := by decide +kernel
theorem dX5_sizeOf_21 : decode cX5_sizeOf 21 = .ok (.iconst (-1), 1) := by decide +kernel
theorem dX5_sizeOf_22 : decode cX5_sizeOf 22 = .ok (.ireturn, 1) := by decide +kernel
theorem dX5_octetAt_0 : decode cX5_octetAt 0 = .ok (.iload_n 2, 1) := by decide +kernel
theorem dX5_octetAt_1 : decode cX5_octetAt 1 = .ok (.ifCond .lt 26, 3) := by decide +kernel
theorem dX5_octetAt_4 : decode cX5_octetAt 4 = .ok (.iload_n 2, 1) := by decide +kernel
theorem dX5_octetAt_5 : decode cX5_octetAt 5 = .ok (.aload_n 0, 1) := by decide +kernel
theorem dX5_octetAt_6 : decode cX5_octetAt 6 = .ok (.iload_n 1, 1) := by decide +kernel
theorem dX5_octetAt_7 : decode cX5_octetAt 7 = .ok (.invokevirtual 38, 3) := by decide +kernel
theorem dX5_octetAt_10 : decode cX5_octetAt 10 = .ok (.if_icmp .ge 17, 3) := by decide +kernel
theorem dX5_octetAt_13 : decode cX5_octetAt 13 = .ok (.aload_n 0, 1) := by decide +kernel
theorem dX5_octetAt_14 : decode cX5_octetAt 14 = .ok (.getfield 21, 3) := by decide +kernel
theorem dX5_octetAt_17 : decode cX5_octetAt 17 = .ok (.iload_n 1, 1) := by decide +kernel
theorem dX5_octetAt_18 : decode cX5_octetAt 18 = .ok (.bipush 20, 2) := by decide +kernel
theorem dX5_octetAt_20 : decode cX5_octetAt 20 = .ok (.imul, 1) := by decide +kernel
theorem dX5_octetAt_21 : decode cX5_octetAt 21 = .ok (.iload_n 2, 1) := by decide +kernel
theorem dX5_octetAt_22 : decode cX5_octetAt 22 = .ok (.iadd, 1) := by decide +kernel
theorem dX5_octetAt_23 : decode cX5_octetAt 23 = .ok (.iaload, 1) := by decide +kernel
theorem dX5_octetAt_24 : decode cX5_octetAt 24 = .ok (.goto 4, 3) := by decide +kernel
theorem dX5_octetAt_27 : decode cX5_octetAt 27 = .ok (.iconst (-1), 1) := by decide +kernel
theorem dX5_octetAt_28 : decode cX5_octetAt 28 = .ok (.ireturn, 1) := by decide +kernel
theorem dX5_indexOf_0 : decode cX5_indexOf 0 = .ok (.iconst 0, 1) := by decide +kernel
theorem dX5_indexOf_1 : decode cX5_indexOf 1 = .ok (.istore_n 3, 1) := by decide +kernel
theorem dX5_indexOf_2 : decode cX5_indexOf 2 = .ok (.iload_n 3, 1) := by decide +kernel
theorem dX5_indexOf_3 : decode cX5_indexOf 3 = .ok (.aload_n 0, 1) := by decide +kernel
theorem dX5_indexOf_4 : decode cX5_indexOf 4 = .ok (.getfield 28, 3) := by decide +kernel
theorem dX5_indexOf_7 : decode cX5_indexOf 7 = .ok (.if_icmp .ge 33, 3) := by decide +kernel
theorem dX5_indexOf_10 : decode cX5_indexOf 10 = .ok (.iload_n 2, 1) := by decide +kernel
theorem dX5_indexOf_11 : decode cX5_indexOf 11 = .ok (.ifCond .lt 29, 3) := by decide +kernel
theorem dX5_indexOf_14 : decode cX5_indexOf 14 = .ok (.iload_n 2, 1) := by decide +kernel
theorem dX5_indexOf_15 : decode cX5_indexOf 15 = .ok (.aload_n 1, 1) := by decide +kernel
theorem dX5_indexOf_16 : decode cX5_indexOf 16 = .ok (.getfield 28, 3) := by decide +kernel
theorem dX5_indexOf_19 : decode cX5_indexOf 19 = .ok (.if_icmp .ge 21, 3) := by decide +kernel
theorem dX5_indexOf_22 : decode cX5_indexOf 22 = .ok (.aload_n 0, 1) := by decide +kernel
theorem dX5_indexOf_23 : decode cX5_indexOf 23 = .ok (.iload_n 3, 1) := by decide +kernel
theorem dX5_indexOf_24 : decode cX5_indexOf 24 = .ok (.aload_n 1, 1) := by decide +kernel
theorem dX5_indexOf_25 : decode cX5_indexOf 25 = .ok (.iload_n 2, 1) := by decide +kernel
theorem dX5_indexOf_26 : decode cX5_indexOf 26 = .ok (.invokevirtual 42, 3) := by decide +kernel
theorem dX5_indexOf_29 : decode cX5_indexOf 29 = .ok (.ifCond .eq 5, 3) := by decide +kernel
theorem dX5_indexOf_32 : decode cX5_indexOf 32 = .ok (.iload_n 3, 1) := by decide +kernel
theorem dX5_indexOf_33 : decode cX5_indexOf 33 = .ok (.ireturn, 1) := by decide +kernel
theorem dX5_indexOf_34 : decode cX5_indexOf 34 = .ok (.iinc 3 1, 3) := by decide +kernel
theorem dX5_indexOf_37 : decode cX5_indexOf 37 = .ok (.goto (-35), 3) := by decide +kernel
theorem dX5_indexOf_40 : decode cX5_indexOf 40 = .ok (.iconst (-1), 1) := by decide +kernel
theorem dX5_indexOf_41 : decode cX5_indexOf 41 = .ok (.ireturn, 1) := by decide +kernel
theorem dX5_isName_0 : decode cX5_isName 0 = .ok (.aload_n 0, 1) := by decide +kernel
theorem dX5_isName_1 : decode cX5_isName 1 = .ok (.getfield 25, 3) := by decide +kernel
theorem dX5_isName_4 : decode cX5_isName 4 = .ok (.iload_n 1, 1) := by decide +kernel
theorem dX5_isName_5 : decode cX5_isName 5 = .ok (.iaload, 1) := by decide +kernel
theorem dX5_isName_6 : decode cX5_isName 6 = .ok (.aload_n 2, 1) := by decide +kernel
theorem dX5_isName_7 : decode cX5_isName 7 = .ok (.getfield 25, 3) := by decide +kernel
theorem dX5_isName_10 : decode cX5_isName 10 = .ok (.iload_n 3, 1) := by decide +kernel
theorem dX5_isName_11 : decode cX5_isName 11 = .ok (.iaload, 1) := by decide +kernel
theorem dX5_isName_12 : decode cX5_isName 12 = .ok (.if_icmp .eq 5, 3) := by decide +kernel
theorem dX5_isName_15 : decode cX5_isName 15 = .ok (.iconst 0, 1) := by decide +kernel
theorem dX5_isName_16 : decode cX5_isName 16 = .ok (.ireturn, 1) := by decide +kernel
theorem dX5_isName_17 : decode cX5_isName 17 = .ok (.iconst 0, 1) := by decide +kernel
theorem dX5_isName_18 : decode cX5_isName 18 = .ok (.istore 4, 2) := by decide +kernel
theorem dX5_isName_20 : decode cX5_isName 20 = .ok (.iload 4, 2) := by decide +kernel
theorem dX5_isName_22 : decode cX5_isName 22 = .ok (.aload_n 0, 1) := by decide +kernel
theorem dX5_isName_23 : decode cX5_isName 23 = .ok (.getfield 25, 3) := by decide +kernel
theorem dX5_isName_26 : decode cX5_isName 26 = .ok (.iload_n 1, 1) := by decide +kernel
theorem dX5_isName_27 : decode cX5_isName 27 = .ok (.iaload, 1) := by decide +kernel
theorem dX5_isName_28 : decode cX5_isName 28 = .ok (.if_icmp .ge 38, 3) := by decide +kernel
theorem dX5_isName_31 : decode cX5_isName 31 = .ok (.aload_n 0, 1) := by decide +kernel
theorem dX5_isName_32 : decode cX5_isName 32 = .ok (.getfield 21, 3) := by decide +kernel
theorem dX5_isName_35 : decode cX5_isName 35 = .ok (.iload_n 1, 1) := by decide +kernel
theorem dX5_isName_36 : decode cX5_isName 36 = .ok (.bipush 20, 2) := by decide +kernel
theorem dX5_isName_38 : decode cX5_isName 38 = .ok (.imul, 1) := by decide +kernel
theorem dX5_isName_39 : decode cX5_isName 39 = .ok (.iload 4, 2) := by decide +kernel
theorem dX5_isName_41 : decode cX5_isName 41 = .ok (.iadd, 1) := by decide +kernel
theorem dX5_isName_42 : decode cX5_isName 42 = .ok (.iaload, 1) := by decide +kernel
theorem dX5_isName_43 : decode cX5_isName 43 = .ok (.aload_n 2, 1) := by decide +kernel
theorem dX5_isName_44 : decode cX5_isName 44 = .ok (.getfield 21, 3) := by decide +kernel
theorem dX5_isName_47 : decode cX5_isName 47 = .ok (.iload_n 3, 1) := by decide +kernel
theorem dX5_isName_48 : decode cX5_isName 48 = .ok (.bipush 20, 2) := by decide +kernel
theorem dX5_isName_50 : decode cX5_isName 50 = .ok (.imul, 1) := by decide +kernel
theorem dX5_isName_51 : decode cX5_isName 51 = .ok (.iload 4, 2) := by decide +kernel
theorem dX5_isName_53 : decode cX5_isName 53 = .ok (.iadd, 1) := by decide +kernel
theorem dX5_isName_54 : decode cX5_isName 54 = .ok (.iaload, 1) := by decide +kernel
theorem dX5_isName_55 : decode cX5_isName 55 = .ok (.if_icmp .eq 5, 3) := by decide +kernel
theorem dX5_isName_58 : decode cX5_isName 58 = .ok (.iconst 0, 1) := by decide +kernel
theorem dX5_isName_59 : decode cX5_isName 59 = .ok (.ireturn, 1) := by decide +kernel
theorem dX5_isName_60 : decode cX5_isName 60 = .ok (.iinc 4 1, 3) := by decide +kernel
theorem dX5_isName_63 : decode cX5_isName 63 = .ok (.goto (-43), 3) := by decide +kernel
theorem dX5_isName_66 : decode cX5_isName 66 = .ok (.iconst 1, 1) := by decide +kernel
theorem dX5_isName_67 : decode cX5_isName 67 = .ok (.ireturn, 1) := by decide +kernel
theorem dX5_indexIn_0 : decode cX5_indexIn 0 = .ok (.iconst 0, 1) := by decide +kernel
theorem dX5_indexIn_1 : decode cX5_indexIn 1 = .ok (.istore 4, 2) := by decide +kernel
theorem dX5_indexIn_3 : decode cX5_indexIn 3 = .ok (.iload 4, 2) := by decide +kernel
theorem dX5_indexIn_5 : decode cX5_indexIn 5 = .ok (.aload_n 0, 1) := by decide +kernel
theorem dX5_indexIn_6 : decode cX5_indexIn 6 = .ok (.getfield 28, 3) := by decide +kernel
theorem dX5_indexIn_9 : decode cX5_indexIn 9 = .ok (.if_icmp .ge 37, 3) := by decide +kernel
theorem dX5_indexIn_12 : decode cX5_indexIn 12 = .ok (.aload_n 1, 1) := by decide +kernel
theorem dX5_indexIn_13 : decode cX5_indexIn 13 = .ok (.iload_n 2, 1) := by decide +kernel
theorem dX5_indexIn_14 : decode cX5_indexIn 14 = .ok (.iload_n 3, 1) := by decide +kernel
theorem dX5_indexIn_15 : decode cX5_indexIn 15 = .ok (.aload_n 0, 1) := by decide +kernel
theorem dX5_indexIn_16 : decode cX5_indexIn 16 = .ok (.getfield 21, 3) := by decide +kernel
theorem dX5_indexIn_19 : decode cX5_indexIn 19 = .ok (.iload 4, 2) := by decide +kernel
theorem dX5_indexIn_21 : decode cX5_indexIn 21 = .ok (.bipush 20, 2) := by decide +kernel
theorem dX5_indexIn_23 : decode cX5_indexIn 23 = .ok (.imul, 1) := by decide +kernel
theorem dX5_indexIn_24 : decode cX5_indexIn 24 = .ok (.aload_n 0, 1) := by decide +kernel
theorem dX5_indexIn_25 : decode cX5_indexIn 25 = .ok (.getfield 25, 3) := by decide +kernel
theorem dX5_indexIn_28 : decode cX5_indexIn 28 = .ok (.iload 4, 2) := by decide +kernel
theorem dX5_indexIn_30 : decode cX5_indexIn 30 = .ok (.iaload, 1) := by decide +kernel
theorem dX5_indexIn_31 : decode cX5_indexIn 31 = .ok (.invokevirtual 46, 3) := by decide +kernel
theorem dX5_indexIn_34 : decode cX5_indexIn 34 = .ok (.ifCond .eq 6, 3) := by decide +kernel
theorem dX5_indexIn_37 : decode cX5_indexIn 37 = .ok (.iload 4, 2) := by decide +kernel
theorem dX5_indexIn_39 : decode cX5_indexIn 39 = .ok (.ireturn, 1) := by decide +kernel
theorem dX5_indexIn_40 : decode cX5_indexIn 40 = .ok (.iinc 4 1, 3) := by decide +kernel
theorem dX5_indexIn_43 : decode cX5_indexIn 43 = .ok (.goto (-40), 3) := by decide +kernel
theorem dX5_indexIn_46 : decode cX5_indexIn 46 = .ok (.iconst (-1), 1) := by decide +kernel
theorem dX5_indexIn_47 : decode cX5_indexIn 47 = .ok (.ireturn, 1) := by decide +kernel
theorem dX5_writeName_0 : decode cX5_writeName 0 = .ok (.aload_n 2, 1) := by decide +kernel
theorem dX5_writeName_1 : decode cX5_writeName 1 = .ok (.aload_n 0, 1) := by decide +kernel
theorem dX5_writeName_2 : decode cX5_writeName 2 = .ok (.getfield 21, 3) := by decide +kernel
theorem dX5_writeName_5 : decode cX5_writeName 5 = .ok (.iload_n 1, 1) := by decide +kernel
theorem dX5_writeName_6 : decode cX5_writeName 6 = .ok (.bipush 20, 2) := by decide +kernel
theorem dX5_writeName_8 : decode cX5_writeName 8 = .ok (.imul, 1) := by decide +kernel
theorem dX5_writeName_9 : decode cX5_writeName 9 = .ok (.aload_n 0, 1) := by decide +kernel
theorem dX5_writeName_10 : decode cX5_writeName 10 = .ok (.iload_n 1, 1) := by decide +kernel
theorem dX5_writeName_11 : decode cX5_writeName 11 = .ok (.invokevirtual 38, 3) := by decide +kernel
theorem dX5_writeName_14 : decode cX5_writeName 14 = .ok (.invokevirtual 52, 3) := by decide +kernel
theorem dX5_writeName_17 : decode cX5_writeName 17 = .ok (.return_, 1) := by decide +kernel
theorem dX6_init_0 : decode cX6_init 0 = .ok (.aload_n 0, 1) := by decide +kernel
theorem dX6_init_1 : decode cX6_init 1 = .ok (.invokespecial 3, 3) := by decide +kernel
theorem dX6_init_4 : decode cX6_init 4 = .ok (.aload_n 0, 1) := by decide +kernel
theorem dX6_init_5 : decode cX6_init 5 = .ok (.sipush 8000, 3) := by decide +kernel
theorem dX6_init_8 : decode cX6_init 8 = .ok (.newarray .int, 2) := by decide +kernel
theorem dX6_init_10 : decode cX6_init 10 = .ok (.putfield 9, 3) := by decide +kernel
theorem dX6_init_13 : decode cX6_init 13 = .ok (.return_, 1) := by decide +kernel
theorem dX6_clear_0 : decode cX6_clear 0 = .ok (.aload_n 0, 1) := by decide +kernel
theorem dX6_clear_1 : decode cX6_clear 1 = .ok (.iconst 0, 1) := by decide +kernel
theorem dX6_clear_2 : decode cX6_clear 2 = .ok (.putfield 15, 3) := by decide +kernel
theorem dX6_clear_5 : decode cX6_clear 5 = .ok (.aload_n 0, 1) := by decide +kernel
theorem dX6_clear_6 : decode cX6_clear 6 = .ok (.iconst 0, 1) := by decide +kernel
theorem dX6_clear_7 : decode cX6_clear 7 = .ok (.putfield 19, 3) := by decide +kernel
theorem dX6_clear_10 : decode cX6_clear 10 = .ok (.return_, 1) := by decide +kernel
theorem dX6_add_0 : decode cX6_add 0 = .ok (.aload_n 0, 1) := by decide +kernel
theorem dX6_add_1 : decode cX6_add 1 = .ok (.getfield 15, 3) := by decide +kernel
theorem dX6_add_4 : decode cX6_add 4 = .ok (.sipush 8000, 3) := by decide +kernel
theorem dX6_add_7 : decode cX6_add 7 = .ok (.if_icmp .ge 26, 3) := by decide +kernel
theorem dX6_add_10 : decode cX6_add 10 = .ok (.aload_n 0, 1) := by decide +kernel
theorem dX6_add_11 : decode cX6_add 11 = .ok (.getfield 9, 3) := by decide +kernel
theorem dX6_add_14 : decode cX6_add 14 = .ok (.aload_n 0, 1) := by decide +kernel
theorem dX6_add_15 : decode cX6_add 15 = .ok (.getfield 15, 3) := by decide +kernel
theorem dX6_add_18 : decode cX6_add 18 = .ok (.iload_n 1, 1) := by decide +kernel
theorem dX6_add_19 : decode cX6_add 19 = .ok (.iastore, 1) := by decide +kernel
theorem dX6_add_20 : decode cX6_add 20 = .ok (.aload_n 0, 1) := by decide +kernel
theorem dX6_add_21 : decode cX6_add 21 = .ok (.dup, 1) := by decide +kernel
theorem dX6_add_22 : decode cX6_add 22 = .ok (.getfield 15, 3) := by decide +kernel
theorem dX6_add_25 : decode cX6_add 25 = .ok (.iconst 1, 1) := by decide +kernel
theorem dX6_add_26 : decode cX6_add 26 = .ok (.iadd, 1) := by decide +kernel
theorem dX6_add_27 : decode cX6_add 27 = .ok (.putfield 15, 3) := by decide +kernel
theorem dX6_add_30 : decode cX6_add 30 = .ok (.goto 8, 3) := by decide +kernel
theorem dX6_add_33 : decode cX6_add 33 = .ok (.aload_n 0, 1) := by decide +kernel
theorem dX6_add_34 : decode cX6_add 34 = .ok (.iconst 1, 1) := by decide +kernel
theorem dX6_add_35 : decode cX6_add 35 = .ok (.putfield 19, 3) := by decide +kernel
theorem dX6_add_38 : decode cX6_add 38 = .ok (.return_, 1) := by decide +kernel
theorem dX6_addText_0 : decode cX6_addText 0 = .ok (.iconst 0, 1) := by decide +kernel
theorem dX6_addText_1 : decode cX6_addText 1 = .ok (.istore_n 2, 1) := by decide +kernel
theorem dX6_addText_2 : decode cX6_addText 2 = .ok (.iload_n 2, 1) := by decide +kernel
theorem dX6_addText_3 : decode cX6_addText 3 = .ok (.aload_n 1, 1) := by decide +kernel
theorem dX6_addText_4 : decode cX6_addText 4 = .ok (.invokevirtual 23, 3) := by decide +kernel
theorem dX6_addText_7 : decode cX6_addText 7 = .ok (.if_icmp .ge 18, 3) := by decide +kernel
theorem dX6_addText_10 : decode cX6_addText 10 = .ok (.aload_n 0, 1) := by decide +kernel
theorem dX6_addText_11 : decode cX6_addText 11 = .ok (.aload_n 1, 1) := by decide +kernel
theorem dX6_addText_12 : decode cX6_addText 12 = .ok (.iload_n 2, 1) := by decide +kernel
theorem dX6_addText_13 : decode cX6_addText 13 = .ok (.invokevirtual 29, 3) := by decide +kernel
theorem dX6_addText_16 : decode cX6_addText 16 = .ok (.invokevirtual 33, 3) := by decide +kernel
theorem dX6_addText_19 : decode cX6_addText 19 = .ok (.iinc 2 1, 3) := by decide +kernel
theorem dX6_addText_22 : decode cX6_addText 22 = .ok (.goto (-20), 3) := by decide +kernel
theorem dX6_addText_25 : decode cX6_addText 25 = .ok (.return_, 1) := by decide +kernel
theorem dX6_addPart_0 : decode cX6_addPart 0 = .ok (.iconst 0, 1) := by decide +kernel
theorem dX6_addPart_1 : decode cX6_addPart 1 = .ok (.iload_n 2, 1) := by decide +kernel
theorem dX6_addPart_2 : decode cX6_addPart 2 = .ok (.invokestatic 37, 3) := by decide +kernel
theorem dX6_addPart_5 : decode cX6_addPart 5 = .ok (.istore 4, 2) := by decide +kernel
theorem dX6_addPart_7 : decode cX6_addPart 7 = .ok (.iload 4, 2) := by decide +kernel
theorem dX6_addPart_9 : decode cX6_addPart 9 = .ok (.iload_n 2, 1) := by decide +kernel
theorem dX6_addPart_10 : decode cX6_addPart 10 = .ok (.iload_n 3, 1) := by decide +kernel
theorem dX6_addPart_11 : decode cX6_addPart 11 = .ok (.iadd, 1) := by decide +kernel
theorem dX6_addPart_12 : decode cX6_addPart 12 = .ok (.if_icmp .ge 24, 3) := by decide +kernel
theorem dX6_addPart_15 : decode cX6_addPart 15 = .ok (.iload 4, 2) := by decide +kernel
theorem dX6_addPart_17 : decode cX6_addPart 17 = .ok (.aload_n 1, 1) := by decide +kernel
theorem dX6_addPart_18 : decode cX6_addPart 18 = .ok (.arraylength, 1) := by decide +kernel
theorem dX6_addPart_19 : decode cX6_addPart 19 = .ok (.if_icmp .ge 17, 3) := by decide +kernel
theorem dX6_addPart_22 : decode cX6_addPart 22 = .ok (.aload_n 0, 1) := by decide +kernel
theorem dX6_addPart_23 : decode cX6_addPart 23 = .ok (.aload_n 1, 1) := by decide +kernel
theorem dX6_addPart_24 : decode cX6_addPart 24 = .ok (.iload 4, 2) := by decide +kernel
theorem dX6_addPart_26 : decode cX6_addPart 26 = .ok (.iaload, 1) := by decide +kernel
theorem dX6_addPart_27 : decode cX6_addPart 27 = .ok (.invokevirtual 33, 3) := by decide +kernel
theorem dX6_addPart_30 : decode cX6_addPart 30 = .ok (.iinc 4 1, 3) := by decide +kernel
theorem dX6_addPart_33 : decode cX6_addPart 33 = .ok (.goto (-26), 3) := by decide +kernel
theorem dX6_addPart_36 : decode cX6_addPart 36 = .ok (.return_, 1) := by decide +kernel
theorem dX6_addNumber_0 : decode cX6_addNumber 0 = .ok (.ldc 43, 2) := by decide +kernel
theorem dX6_addNumber_2 : decode cX6_addNumber 2 = .ok (.istore_n 2, 1) := by decide +kernel
theorem dX6_addNumber_3 : decode cX6_addNumber 3 = .ok (.iload_n 2, 1) := by decide +kernel
theorem dX6_addNumber_4 : decode cX6_addNumber 4 = .ok (.ifCond .le 34, 3) := by decide +kernel
theorem dX6_addNumber_7 : decode cX6_addNumber 7 = .ok (.iload_n 1, 1) := by decide +kernel
theorem dX6_addNumber_8 : decode cX6_addNumber 8 = .ok (.iload_n 2, 1) := by decide +kernel
theorem dX6_addNumber_9 : decode cX6_addNumber 9 = .ok (.if_icmp .ge 8, 3) := by decide +kernel
theorem dX6_addNumber_12 : decode cX6_addNumber 12 = .ok (.iload_n 2, 1) := by decide +kernel
theorem dX6_addNumber_13 : decode cX6_addNumber 13 = .ok (.iconst 1, 1) := by decide +kernel
theorem dX6_addNumber_14 : decode cX6_addNumber 14 = .ok (.if_icmp .ne 16, 3) := by decide +kernel
theorem dX6_addNumber_17 : decode cX6_addNumber 17 = .ok (.aload_n 0, 1) := by decide +kernel
theorem dX6_addNumber_18 : decode cX6_addNumber 18 = .ok (.bipush 48, 2) := by decide +kernel
theorem dX6_addNumber_20 : decode cX6_addNumber 20 = .ok (.iload_n 1, 1) := by decide +kernel
theorem dX6_addNumber_21 : decode cX6_addNumber 21 = .ok (.iload_n 2, 1) := by decide +kernel
theorem dX6_addNumber_22 : decode cX6_addNumber 22 = .ok (.idiv, 1) := by decide +kernel
theorem dX6_addNumber_23 : decode cX6_addNumber 23 = .ok (.bipush 10, 2) := by decide +kernel
theorem dX6_addNumber_25 : decode cX6_addNumber 25 = .ok (.irem, 1) := by decide +kernel
theorem dX6_addNumber_26 : decode cX6_addNumber 26 = .ok (.iadd, 1) := by decide +kernel
theorem dX6_addNumber_27 : decode cX6_addNumber 27 = .ok (.invokevirtual 33, 3) := by decide +kernel
theorem dX6_addNumber_30 : decode cX6_addNumber 30 = .ok (.iload_n 2, 1) := by decide +kernel
theorem dX6_addNumber_31 : decode cX6_addNumber 31 = .ok (.bipush 10, 2) := by decide +kernel
theorem dX6_addNumber_33 : decode cX6_addNumber 33 = .ok (.idiv, 1) := by decide +kernel
theorem dX6_addNumber_34 : decode cX6_addNumber 34 = .ok (.istore_n 2, 1) := by decide +kernel
theorem dX6_addNumber_35 : decode cX6_addNumber 35 = .ok (.goto (-32), 3) := by decide +kernel
theorem dX6_addNumber_38 : decode cX6_addNumber 38 = .ok (.return_, 1) := by decide +kernel
theorem dX6_addNumberOrPoint_0 : decode cX6_addNumberOrPoint 0 = .ok (.iload_n 1, 1) := by decide +kernel
theorem dX6_addNumberOrPoint_1 : decode cX6_addNumberOrPoint 1 = .ok (.iconst (-1), 1) := by decide +kernel
theorem dX6_addNumberOrPoint_2 : decode cX6_addNumberOrPoint 2 = .ok (.if_icmp .ne 12, 3) := by decide +kernel
theorem dX6_addNumberOrPoint_5 : decode cX6_addNumberOrPoint 5 = .ok (.aload_n 0, 1) := by decide +kernel
theorem dX6_addNumberOrPoint_6 : decode cX6_addNumberOrPoint 6 = .ok (.bipush 46, 2) := by decide +kernel
theorem dX6_addNumberOrPoint_8 : decode cX6_addNumberOrPoint 8 = .ok (.invokevirtual 33, 3) := by decide +kernel
theorem dX6_addNumberOrPoint_11 : decode cX6_addNumberOrPoint 11 = .ok (.goto 8, 3) := by decide +kernel
theorem dX6_addNumberOrPoint_14 : decode cX6_addNumberOrPoint 14 = .ok (.aload_n 0, 1) := by decide +kernel
theorem dX6_addNumberOrPoint_15 : decode cX6_addNumberOrPoint 15 = .ok (.iload_n 1, 1) := by decide +kernel
theorem dX6_addNumberOrPoint_16 : decode cX6_addNumberOrPoint 16 = .ok (.invokevirtual 44, 3) := by decide +kernel
theorem dX6_addNumberOrPoint_19 : decode cX6_addNumberOrPoint 19 = .ok (.return_, 1) := by decide +kernel
theorem dX6_at_0 : decode cX6_at 0 = .ok (.iload_n 1, 1) := by decide +kernel
theorem dX6_at_1 : decode cX6_at 1 = .ok (.ifCond .lt 20, 3) := by decide +kernel
theorem dX6_at_4 : decode cX6_at 4 = .ok (.iload_n 1, 1) := by decide +kernel
theorem dX6_at_5 : decode cX6_at 5 = .ok (.aload_n 0, 1) := by decide +kernel
theorem dX6_at_6 : decode cX6_at 6 = .ok (.getfield 15, 3) := by decide +kernel
theorem dX6_at_9 : decode cX6_at 9 = .ok (.if_icmp .ge 12, 3) := by decide +kernel
theorem dX6_at_12 : decode cX6_at 12 = .ok (.aload_n 0, 1) := by decide +kernel
theorem dX6_at_13 : decode cX6_at 13 = .ok (.getfield 9, 3) := by decide +kernel
theorem dX6_at_16 : decode cX6_at 16 = .ok (.iload_n 1, 1) := by decide +kernel
theorem dX6_at_17 : decode cX6_at 17 = .ok (.iaload, 1) := by decide +kernel
theorem dX6_at_18 : decode cX6_at 18 = .ok (.goto 4, 3) := by decide +kernel
theorem dX6_at_21 : decode cX6_at 21 = .ok (.iconst (-1), 1) := by decide +kernel
theorem dX6_at_22 : decode cX6_at 22 = .ok (.ireturn, 1) := by decide +kernel
theorem dX6_find_0 : decode cX6_find 0 = .ok (.iconst 0, 1) := by decide +kernel
theorem dX6_find_1 : decode cX6_find 1 = .ok (.iload_n 2, 1) := by decide +kernel
theorem dX6_find_2 : decode cX6_find 2 = .ok (.invokestatic 37, 3) := by decide +kernel
theorem dX6_find_5 : decode cX6_find 5 = .ok (.istore_n 3, 1) := by decide +kernel
theorem dX6_find_6 : decode cX6_find 6 = .ok (.iload_n 3, 1) := by decide +kernel
theorem dX6_find_7 : decode cX6_find 7 = .ok (.aload_n 0, 1) := by decide +kernel
theorem dX6_find_8 : decode cX6_find 8 = .ok (.getfield 15, 3) := by decide +kernel
theorem dX6_find_11 : decode cX6_find 11 = .ok (.if_icmp .ge 21, 3) := by decide +kernel
theorem dX6_find_14 : decode cX6_find 14 = .ok (.aload_n 0, 1) := by decide +kernel
theorem dX6_find_15 : decode cX6_find 15 = .ok (.getfield 9, 3) := by decide +kernel
theorem dX6_find_18 : decode cX6_find 18 = .ok (.iload_n 3, 1) := by decide +kernel
theorem dX6_find_19 : decode cX6_find 19 = .ok (.iaload, 1) := by decide +kernel
theorem dX6_find_20 : decode cX6_find 20 = .ok (.iload_n 1, 1) := by decide +kernel
theorem dX6_find_21 : decode cX6_find 21 = .ok (.if_icmp .ne 5, 3) := by decide +kernel
theorem dX6_find_24 : decode cX6_find 24 = .ok (.iload_n 3, 1) := by decide +kernel
theorem dX6_find_25 : decode cX6_find 25 = .ok (.ireturn, 1) := by decide +kernel
theorem dX6_find_26 : decode cX6_find 26 = .ok (.iinc 3 1, 3) := by decide +kernel
theorem dX6_find_29 : decode cX6_find 29 = .ok (.goto (-23), 3) := by decide +kernel
theorem dX6_find_32 : decode cX6_find 32 = .ok (.iconst (-1), 1) := by decide +kernel
theorem dX6_find_33 : decode cX6_find 33 = .ok (.ireturn, 1) := by decide +kernel
theorem dX6_isText_0 : decode cX6_isText 0 = .ok (.iload_n 2, 1) := by decide +kernel
theorem dX6_isText_1 : decode cX6_isText 1 = .ok (.iload_n 1, 1) := by decide +kernel
theorem dX6_isText_2 : decode cX6_isText 2 = .ok (.isub, 1) := by decide +kernel
theorem dX6_isText_3 : decode cX6_isText 3 = .ok (.aload_n 3, 1) := by decide +kernel
theorem dX6_isText_4 : decode cX6_isText 4 = .ok (.invokevirtual 23, 3) := by decide +kernel
theorem dX6_isText_7 : decode cX6_isText 7 = .ok (.if_icmp .ne 16, 3) := by decide +kernel
theorem dX6_isText_10 : decode cX6_isText 10 = .ok (.aload_n 0, 1) := by decide +kernel
theorem dX6_isText_11 : decode cX6_isText 11 = .ok (.iload_n 1, 1) := by decide +kernel
theorem dX6_isText_12 : decode cX6_isText 12 = .ok (.aload_n 3, 1) := by decide +kernel
theorem dX6_isText_13 : decode cX6_isText 13 = .ok (.invokevirtual 47, 3) := by decide +kernel
theorem dX6_isText_16 : decode cX6_isText 16 = .ok (.ifCond .eq 7, 3) := by decide +kernel
theorem dX6_isText_19 : decode cX6_isText 19 = .ok (.iconst 1, 1) := by decide +kernel
theorem dX6_isText_20 : decode cX6_isText 20 = .ok (.goto 4, 3) := by decide +kernel
theorem dX6_isText_23 : decode cX6_isText 23 = .ok (.iconst 0, 1) := by decide +kernel
theorem dX6_isText_24 : decode cX6_isText 24 = .ok (.ireturn, 1) := by decide +kernel
theorem dX6_beginsWith_0 : decode cX6_beginsWith 0 = .ok (.iload_n 1, 1) := by decide +kernel
theorem dX6_beginsWith_1 : decode cX6_beginsWith 1 = .ok (.ifCond .lt 16, 3) := by decide +kernel
theorem dX6_beginsWith_4 : decode cX6_beginsWith 4 = .ok (.iload_n 1, 1) := by decide +kernel
theorem dX6_beginsWith_5 : decode cX6_beginsWith 5 = .ok (.aload_n 2, 1) := by decide +kernel
theorem dX6_beginsWith_6 : decode cX6_beginsWith 6 = .ok (.invokevirtual 23, 3) := by decide +kernel
theorem dX6_beginsWith_9 : decode cX6_beginsWith 9 = .ok (.iadd, 1) := by decide +kernel
theorem dX6_beginsWith_10 : decode cX6_beginsWith 10 = .ok (.aload_n 0, 1) := by decide +kernel
theorem dX6_beginsWith_11 : decode cX6_beginsWith 11 = .ok (.getfield 15, 3) := by decide +kernel
theorem dX6_beginsWith_14 : decode cX6_beginsWith 14 = .ok (.if_icmp .le 5, 3) := by decide +kernel
theorem dX6_beginsWith_17 : decode cX6_beginsWith 17 = .ok (.iconst 0, 1) := by decide +kernel
theorem dX6_beginsWith_18 : decode cX6_beginsWith 18 = .ok (.ireturn, 1) := by decide +kernel
theorem dX6_beginsWith_19 : decode cX6_beginsWith 19 = .ok (.iconst 0, 1) := by decide +kernel
theorem dX6_beginsWith_20 : decode cX6_beginsWith 20 = .ok (.istore_n 3, 1) := by decide +kernel
theorem dX6_beginsWith_21 : decode cX6_beginsWith 21 = .ok (.iload_n 3, 1) := by decide +kernel
theorem dX6_beginsWith_22 : decode cX6_beginsWith 22 = .ok (.aload_n 2, 1) := by decide +kernel
theorem dX6_beginsWith_23 : decode cX6_beginsWith 23 = .ok (.invokevirtual 23, 3) := by decide +kernel
theorem dX6_beginsWith_26 : decode cX6_beginsWith 26 = .ok (.if_icmp .ge 27, 3) := by decide +kernel
theorem dX6_beginsWith_29 : decode cX6_beginsWith 29 = .ok (.aload_n 0, 1) := by decide +kernel
theorem dX6_beginsWith_30 : decode cX6_beginsWith 30 = .ok (.getfield 9, 3) := by decide +kernel
theorem dX6_beginsWith_33 : decode cX6_beginsWith 33 = .ok (.iload_n 1, 1) := by decide +kernel
theorem dX6_beginsWith_34 : decode cX6_beginsWith 34 = .ok (.iload_n 3, 1) := by decide +kernel
theorem dX6_beginsWith_35 : decode cX6_beginsWith 35 = .ok (.iadd, 1) := by decide +kernel
theorem dX6_beginsWith_36 : decode cX6_beginsWith 36 = .ok (.iaload, 1) := by decide +kernel
theorem dX6_beginsWith_37 : decode cX6_beginsWith 37 = .ok (.aload_n 2, 1) := by decide +kernel
theorem dX6_beginsWith_38 : decode cX6_beginsWith 38 = .ok (.iload_n 3, 1) := by decide +kernel
theorem dX6_beginsWith_39 : decode cX6_beginsWith 39 = .ok (.invokevirtual 29, 3) := by decide +kernel
theorem dX6_beginsWith_42 : decode cX6_beginsWith 42 = .ok (.if_icmp .eq 5, 3) := by decide +kernel
theorem dX6_beginsWith_45 : decode cX6_beginsWith 45 = .ok (.iconst 0, 1) := by decide +kernel
theorem dX6_beginsWith_46 : decode cX6_beginsWith 46 = .ok (.ireturn, 1) := by decide +kernel
theorem dX6_beginsWith_47 : decode cX6_beginsWith 47 = .ok (.iinc 3 1, 3) := by decide +kernel
theorem dX6_beginsWith_50 : decode cX6_beginsWith 50 = .ok (.goto (-29), 3) := by decide +kernel
theorem dX6_beginsWith_53 : decode cX6_beginsWith 53 = .ok (.iconst 1, 1) := by decide +kernel
theorem dX6_beginsWith_54 : decode cX6_beginsWith 54 = .ok (.ireturn, 1) := by decide +kernel
theorem dX6_isPart_0 : decode cX6_isPart 0 = .ok (.iload_n 1, 1) := by decide +kernel
theorem dX6_isPart_1 : decode cX6_isPart 1 = .ok (.ifCond .lt 29, 3) := by decide +kernel
theorem dX6_isPart_4 : decode cX6_isPart 4 = .ok (.iload_n 2, 1) := by decide +kernel
theorem dX6_isPart_5 : decode cX6_isPart 5 = .ok (.aload_n 0, 1) := by decide +kernel
theorem dX6_isPart_6 : decode cX6_isPart 6 = .ok (.getfield 15, 3) := by decide +kernel
theorem dX6_isPart_9 : decode cX6_isPart 9 = .ok (.if_icmp .gt 21, 3) := by decide +kernel
theorem dX6_isPart_12 : decode cX6_isPart 12 = .ok (.iload_n 2, 1) := by decide +kernel
theorem dX6_isPart_13 : decode cX6_isPart 13 = .ok (.iload_n 1, 1) := by decide +kernel
theorem dX6_isPart_14 : decode cX6_isPart 14 = .ok (.isub, 1) := by decide +kernel
theorem dX6_isPart_15 : decode cX6_isPart 15 = .ok (.iload 5, 2) := by decide +kernel
theorem dX6_isPart_17 : decode cX6_isPart 17 = .ok (.if_icmp .ne 13, 3) := by decide +kernel
theorem dX6_isPart_20 : decode cX6_isPart 20 = .ok (.iload 4, 2) := by decide +kernel
theorem dX6_isPart_22 : decode cX6_isPart 22 = .ok (.iload 5, 2) := by decide +kernel
theorem dX6_isPart_24 : decode cX6_isPart 24 = .ok (.iadd, 1) := by decide +kernel
theorem dX6_isPart_25 : decode cX6_isPart 25 = .ok (.aload_n 3, 1) := by decide +kernel
theorem dX6_isPart_26 : decode cX6_isPart 26 = .ok (.arraylength, 1) := by decide +kernel
theorem dX6_isPart_27 : decode cX6_isPart 27 = .ok (.if_icmp .le 5, 3) := by decide +kernel
theorem dX6_isPart_30 : decode cX6_isPart 30 = .ok (.iconst 0, 1) := by decide +kernel
theorem dX6_isPart_31 : decode cX6_isPart 31 = .ok (.ireturn, 1) := by decide +kernel
theorem dX6_isPart_32 : decode cX6_isPart 32 = .ok (.iconst 0, 1) := by decide +kernel
theorem dX6_isPart_33 : decode cX6_isPart 33 = .ok (.istore 6, 2) := by decide +kernel
theorem dX6_isPart_35 : decode cX6_isPart 35 = .ok (.iload 6, 2) := by decide +kernel
theorem dX6_isPart_37 : decode cX6_isPart 37 = .ok (.iload 5, 2) := by decide +kernel
theorem dX6_isPart_39 : decode cX6_isPart 39 = .ok (.if_icmp .ge 30, 3) := by decide +kernel
theorem dX6_isPart_42 : decode cX6_isPart 42 = .ok (.aload_n 0, 1) := by decide +kernel
theorem dX6_isPart_43 : decode cX6_isPart 43 = .ok (.getfield 9, 3) := by decide +kernel
theorem dX6_isPart_46 : decode cX6_isPart 46 = .ok (.iload_n 1, 1) := by decide +kernel
theorem dX6_isPart_47 : decode cX6_isPart 47 = .ok (.iload 6, 2) := by decide +kernel
theorem dX6_isPart_49 : decode cX6_isPart 49 = .ok (.iadd, 1) := by decide +kernel
theorem dX6_isPart_50 : decode cX6_isPart 50 = .ok (.iaload, 1) := by decide +kernel
theorem dX6_isPart_51 : decode cX6_isPart 51 = .ok (.aload_n 3, 1) := by decide +kernel
theorem dX6_isPart_52 : decode cX6_isPart 52 = .ok (.iload 4, 2) := by decide +kernel
theorem dX6_isPart_54 : decode cX6_isPart 54 = .ok (.iload 6, 2) := by decide +kernel
theorem dX6_isPart_56 : decode cX6_isPart 56 = .ok (.iadd, 1) := by decide +kernel
theorem dX6_isPart_57 : decode cX6_isPart 57 = .ok (.iaload, 1) := by decide +kernel
theorem dX6_isPart_58 : decode cX6_isPart 58 = .ok (.if_icmp .eq 5, 3) := by decide +kernel
theorem dX6_isPart_61 : decode cX6_isPart 61 = .ok (.iconst 0, 1) := by decide +kernel
theorem dX6_isPart_62 : decode cX6_isPart 62 = .ok (.ireturn, 1) := by decide +kernel
theorem dX6_isPart_63 : decode cX6_isPart 63 = .ok (.iinc 6 1, 3) := by decide +kernel
theorem dX6_isPart_66 : decode cX6_isPart 66 = .ok (.goto (-31), 3) := by decide +kernel
theorem dX6_isPart_69 : decode cX6_isPart 69 = .ok (.iconst 1, 1) := by decide +kernel
theorem dX6_isPart_70 : decode cX6_isPart 70 = .ok (.ireturn, 1) := by decide +kernel
theorem dX6_isWord_0 : decode cX6_isWord 0 = .ok (.iload_n 2, 1) := by decide +kernel
theorem dX6_isWord_1 : decode cX6_isWord 1 = .ok (.iload_n 1, 1) := by decide +kernel
theorem dX6_isWord_2 : decode cX6_isWord 2 = .ok (.if_icmp .le 11, 3) := by decide +kernel
theorem dX6_isWord_5 : decode cX6_isWord 5 = .ok (.iload_n 2, 1) := by decide +kernel
theorem dX6_isWord_6 : decode cX6_isWord 6 = .ok (.iload_n 1, 1) := by decide +kernel
theorem dX6_isWord_7 : decode cX6_isWord 7 = .ok (.isub, 1) := by decide +kernel
theorem dX6_isWord_8 : decode cX6_isWord 8 = .ok (.bipush 20, 2) := by decide +kernel
theorem dX6_isWord_10 : decode cX6_isWord 10 = .ok (.if_icmp .le 5, 3) := by decide +kernel
theorem dX6_isWord_13 : decode cX6_isWord 13 = .ok (.iconst 0, 1) := by decide +kernel
theorem dX6_isWord_14 : decode cX6_isWord 14 = .ok (.ireturn, 1) := by decide +kernel
theorem dX6_isWord_15 : decode cX6_isWord 15 = .ok (.iload_n 1, 1) := by decide +kernel
theorem dX6_isWord_16 : decode cX6_isWord 16 = .ok (.istore_n 3, 1) := by decide +kernel
theorem dX6_isWord_17 : decode cX6_isWord 17 = .ok (.iload_n 3, 1) := by decide +kernel
theorem dX6_isWord_18 : decode cX6_isWord 18 = .ok (.iload_n 2, 1) := by decide +kernel
theorem dX6_isWord_19 : decode cX6_isWord 19 = .ok (.if_icmp .ge 31, 3) := by decide +kernel
theorem dX6_isWord_22 : decode cX6_isWord 22 = .ok (.aload_n 0, 1) := by decide +kernel
theorem dX6_isWord_23 : decode cX6_isWord 23 = .ok (.iload_n 3, 1) := by decide +kernel
theorem dX6_isWord_24 : decode cX6_isWord 24 = .ok (.invokevirtual 51, 3) := by decide +kernel
theorem dX6_isWord_27 : decode cX6_isWord 27 = .ok (.bipush 32, 2) := by decide +kernel
theorem dX6_isWord_29 : decode cX6_isWord 29 = .ok (.if_icmp .le 13, 3) := by decide +kernel
theorem dX6_isWord_32 : decode cX6_isWord 32 = .ok (.aload_n 0, 1) := by decide +kernel
theorem dX6_isWord_33 : decode cX6_isWord 33 = .ok (.iload_n 3, 1) := by decide +kernel
theorem dX6_isWord_34 : decode cX6_isWord 34 = .ok (.invokevirtual 51, 3) := by decide +kernel
theorem dX6_isWord_37 : decode cX6_isWord 37 = .ok (.bipush 126, 2) := by decide +kernel
theorem dX6_isWord_39 : decode cX6_isWord 39 = .ok (.if_icmp .le 5, 3) := by decide +kernel
theorem dX6_isWord_42 : decode cX6_isWord 42 = .ok (.iconst 0, 1) := by decide +kernel
theorem dX6_isWord_43 : decode cX6_isWord 43 = .ok (.ireturn, 1) := by decide +kernel
theorem dX6_isWord_44 : decode cX6_isWord 44 = .ok (.iinc 3 1, 3) := by decide +kernel
theorem dX6_isWord_47 : decode cX6_isWord 47 = .ok (.goto (-30), 3) := by decide +kernel
theorem dX6_isWord_50 : decode cX6_isWord 50 = .ok (.iconst 1, 1) := by decide +kernel
theorem dX6_isWord_51 : decode cX6_isWord 51 = .ok (.ireturn, 1) := by decide +kernel
theorem dX6_numberAt_0 : decode cX6_numberAt 0 = .ok (.iload_n 2, 1) := by decide +kernel
theorem dX6_numberAt_1 : decode cX6_numberAt 1 = .ok (.iload_n 1, 1) := by decide +kernel
theorem dX6_numberAt_2 : decode cX6_numberAt 2 = .ok (.if_icmp .le 20, 3) := by decide +kernel
theorem dX6_numberAt_5 : decode cX6_numberAt 5 = .ok (.iload_n 2, 1) := by decide +kernel
theorem dX6_numberAt_6 : decode cX6_numberAt 6 = .ok (.iload_n 1, 1) := by decide +kernel
theorem dX6_numberAt_7 : decode cX6_numberAt 7 = .ok (.isub, 1) := by decide +kernel
theorem dX6_numberAt_8 : decode cX6_numberAt 8 = .ok (.iconst 1, 1) := by decide +kernel
theorem dX6_numberAt_9 : decode cX6_numberAt 9 = .ok (.if_icmp .le 15, 3) := by decide +kernel
theorem dX6_numberAt_12 : decode cX6_numberAt 12 = .ok (.aload_n 0, 1) := by decide +kernel
theorem dX6_numberAt_13 : decode cX6_numberAt 13 = .ok (.iload_n 1, 1) := by decide +kernel
theorem dX6_numberAt_14 : decode cX6_numberAt 14 = .ok (.invokevirtual 51, 3) := by decide +kernel
theorem dX6_numberAt_17 : decode cX6_numberAt 17 = .ok (.bipush 48, 2) := by decide +kernel
theorem dX6_numberAt_19 : decode cX6_numberAt 19 = .ok (.if_icmp .ne 5, 3) := by decide +kernel
theorem dX6_numberAt_22 : decode cX6_numberAt 22 = .ok (.iconst (-1), 1) := by decide +kernel
theorem dX6_numberAt_23 : decode cX6_numberAt 23 = .ok (.ireturn, 1) := by decide +kernel
theorem dX6_numberAt_24 : decode cX6_numberAt 24 = .ok (.iconst 0, 1) := by decide +kernel
theorem dX6_numberAt_25 : decode cX6_numberAt 25 = .ok (.istore 4, 2) := by decide +kernel
theorem dX6_numberAt_27 : decode cX6_numberAt 27 = .ok (.iload_n 1, 1) := by decide +kernel
theorem dX6_numberAt_28 : decode cX6_numberAt 28 = .ok (.istore 5, 2) := by decide +kernel
theorem dX6_numberAt_30 : decode cX6_numberAt 30 = .ok (.iload 5, 2) := by decide +kernel
theorem dX6_numberAt_32 : decode cX6_numberAt 32 = .ok (.iload_n 2, 1) := by decide +kernel
theorem dX6_numberAt_33 : decode cX6_numberAt 33 = .ok (.if_icmp .ge 54, 3) := by decide +kernel
theorem dX6_numberAt_36 : decode cX6_numberAt 36 = .ok (.aload_n 0, 1) := by decide +kernel
theorem dX6_numberAt_37 : decode cX6_numberAt 37 = .ok (.iload 5, 2) := by decide +kernel
theorem dX6_numberAt_39 : decode cX6_numberAt 39 = .ok (.invokevirtual 51, 3) := by decide +kernel
theorem dX6_numberAt_42 : decode cX6_numberAt 42 = .ok (.istore 6, 2) := by decide +kernel
theorem dX6_numberAt_44 : decode cX6_numberAt 44 = .ok (.iload 6, 2) := by decide +kernel
theorem dX6_numberAt_46 : decode cX6_numberAt 46 = .ok (.bipush 48, 2) := by decide +kernel
theorem dX6_numberAt_48 : decode cX6_numberAt 48 = .ok (.if_icmp .lt 10, 3) := by decide +kernel
theorem dX6_numberAt_51 : decode cX6_numberAt 51 = .ok (.iload 6, 2) := by decide +kernel
theorem dX6_numberAt_53 : decode cX6_numberAt 53 = .ok (.bipush 57, 2) := by decide +kernel
theorem dX6_numberAt_55 : decode cX6_numberAt 55 = .ok (.if_icmp .le 5, 3) := by decide +kernel
theorem dX6_numberAt_58 : decode cX6_numberAt 58 = .ok (.iconst (-1), 1) := by decide +kernel
theorem dX6_numberAt_59 : decode cX6_numberAt 59 = .ok (.ireturn, 1) := by decide +kernel
theorem dX6_numberAt_60 : decode cX6_numberAt 60 = .ok (.iload 4, 2) := by decide +kernel
theorem dX6_numberAt_62 : decode cX6_numberAt 62 = .ok (.bipush 10, 2) := by decide +kernel
theorem dX6_numberAt_64 : decode cX6_numberAt 64 = .ok (.imul, 1) := by decide +kernel
theorem dX6_numberAt_65 : decode cX6_numberAt 65 = .ok (.iload 6, 2) := by decide +kernel
theorem dX6_numberAt_67 : decode cX6_numberAt 67 = .ok (.iadd, 1) := by decide +kernel
theorem dX6_numberAt_68 : decode cX6_numberAt 68 = .ok (.bipush 48, 2) := by decide +kernel
theorem dX6_numberAt_70 : decode cX6_numberAt 70 = .ok (.isub, 1) := by decide +kernel
theorem dX6_numberAt_71 : decode cX6_numberAt 71 = .ok (.istore 4, 2) := by decide +kernel
theorem dX6_numberAt_73 : decode cX6_numberAt 73 = .ok (.iload 4, 2) := by decide +kernel
theorem dX6_numberAt_75 : decode cX6_numberAt 75 = .ok (.iload_n 3, 1) := by decide +kernel
theorem dX6_numberAt_76 : decode cX6_numberAt 76 = .ok (.if_icmp .le 5, 3) := by decide +kernel
theorem dX6_numberAt_79 : decode cX6_numberAt 79 = .ok (.iconst (-1), 1) := by decide +kernel
theorem dX6_numberAt_80 : decode cX6_numberAt 80 = .ok (.ireturn, 1) := by decide +kernel
theorem dX6_numberAt_81 : decode cX6_numberAt 81 = .ok (.iinc 5 1, 3) := by decide +kernel
theorem dX6_numberAt_84 : decode cX6_numberAt 84 = .ok (.goto (-54), 3) := by decide +kernel
theorem dX6_numberAt_87 : decode cX6_numberAt 87 = .ok (.iload 4, 2) := by decide +kernel
theorem dX6_numberAt_89 : decode cX6_numberAt 89 = .ok (.ireturn, 1) := by decide +kernel
theorem dX6_copyFrom_0 : decode cX6_copyFrom 0 = .ok (.aload_n 0, 1) := by decide +kernel
theorem dX6_copyFrom_1 : decode cX6_copyFrom 1 = .ok (.aload_n 1, 1) := by decide +kernel
theorem dX6_copyFrom_2 : decode cX6_copyFrom 2 = .ok (.getfield 15, 3) := by decide +kernel
theorem dX6_copyFrom_5 : decode cX6_copyFrom 5 = .ok (.putfield 15, 3) := by decide +kernel
theorem dX6_copyFrom_8 : decode cX6_copyFrom 8 = .ok (.aload_n 0, 1) := by decide +kernel
theorem dX6_copyFrom_9 : decode cX6_copyFrom 9 = .ok (.iconst 0, 1) := by decide +kernel
theorem dX6_copyFrom_10 : decode cX6_copyFrom 10 = .ok (.putfield 19, 3) := by decide +kernel
theorem dX6_copyFrom_13 : decode cX6_copyFrom 13 = .ok (.aload_n 1, 1) := by decide +kernel
theorem dX6_copyFrom_14 : decode cX6_copyFrom 14 = .ok (.getfield 9, 3) := by decide +kernel
theorem dX6_copyFrom_17 : decode cX6_copyFrom 17 = .ok (.iconst 0, 1) := by decide +kernel
theorem dX6_copyFrom_18 : decode cX6_copyFrom 18 = .ok (.aload_n 0, 1) := by decide +kernel
theorem dX6_copyFrom_19 : decode cX6_copyFrom 19 = .ok (.getfield 9, 3) := by decide +kernel
theorem dX6_copyFrom_22 : decode cX6_copyFrom 22 = .ok (.iconst 0, 1) := by decide +kernel
theorem dX6_copyFrom_23 : decode cX6_copyFrom 23 = .ok (.aload_n 0, 1) := by decide +kernel
theorem dX6_copyFrom_24 : decode cX6_copyFrom 24 = .ok (.getfield 15, 3) := by decide +kernel
theorem dX6_copyFrom_27 : decode cX6_copyFrom 27 = .ok (.invokestatic 55, 3) := by decide +kernel
theorem dX6_copyFrom_30 : decode cX6_copyFrom 30 = .ok (.return_, 1) := by decide +kernel
theorem dX7_init_0 : decode cX7_init 0 = .ok (.aload_n 0, 1) := by decide +kernel
theorem dX7_init_1 : decode cX7_init 1 = .ok (.invokespecial 3, 3) := by decide +kernel
theorem dX7_init_4 : decode cX7_init 4 = .ok (.aload_n 0, 1) := by decide +kernel
theorem dX7_init_5 : decode cX7_init 5 = .ok (.bipush 60, 2) := by decide +kernel
theorem dX7_init_7 : decode cX7_init 7 = .ok (.anewarray 9, 3) := by decide +kernel
theorem dX7_init_10 : decode cX7_init 10 = .ok (.putfield 11, 3) := by decide +kernel
theorem dX7_init_13 : decode cX7_init 13 = .ok (.aload_n 0, 1) := by decide +kernel
theorem dX7_init_14 : decode cX7_init 14 = .ok (.new 17, 3) := by decide +kernel
theorem dX7_init_17 : decode cX7_init 17 = .ok (.dup, 1) := by decide +kernel
theorem dX7_init_18 : decode cX7_init 18 = .ok (.iconst 3, 1) := by decide +kernel
theorem dX7_init_19 : decode cX7_init 19 = .ok (.invokespecial 19, 3) := by decide +kernel
theorem dX7_init_22 : decode cX7_init 22 = .ok (.putfield 22, 3) := by decide +kernel
theorem dX7_init_25 : decode cX7_init 25 = .ok (.iconst 0, 1) := by decide +kernel
theorem dX7_init_26 : decode cX7_init 26 = .ok (.istore_n 1, 1) := by decide +kernel
theorem dX7_init_27 : decode cX7_init 27 = .ok (.iload_n 1, 1) := by decide +kernel
theorem dX7_init_28 : decode cX7_init 28 = .ok (.bipush 60, 2) := by decide +kernel
theorem dX7_init_30 : decode cX7_init 30 = .ok (.if_icmp .ge 22, 3) := by decide +kernel
theorem dX7_init_33 : decode cX7_init 33 = .ok (.aload_n 0, 1) := by decide +kernel
theorem dX7_init_34 : decode cX7_init 34 = .ok (.getfield 11, 3) := by decide +kernel
theorem dX7_init_37 : decode cX7_init 37 = .ok (.iload_n 1, 1) := by decide +kernel
theorem dX7_init_38 : decode cX7_init 38 = .ok (.new 9, 3) := by decide +kernel
theorem dX7_init_41 : decode cX7_init 41 = .ok (.dup, 1) := by decide +kernel
theorem dX7_init_42 : decode cX7_init 42 = .ok (.invokespecial 26, 3) := by decide +kernel
theorem dX7_init_45 : decode cX7_init 45 = .ok (.aastore, 1) := by decide +kernel
theorem dX7_init_46 : decode cX7_init 46 = .ok (.iinc 1 1, 3) := by decide +kernel
theorem dX7_init_49 : decode cX7_init 49 = .ok (.goto (-22), 3) := by decide +kernel
theorem dX7_init_52 : decode cX7_init 52 = .ok (.return_, 1) := by decide +kernel
theorem dX7_clear_0 : decode cX7_clear 0 = .ok (.aload_n 0, 1) := by decide +kernel
theorem dX7_clear_1 : decode cX7_clear 1 = .ok (.iconst 0, 1) := by decide +kernel
theorem dX7_clear_2 : decode cX7_clear 2 = .ok (.putfield 27, 3) := by decide +kernel
theorem dX7_clear_5 : decode cX7_clear 5 = .ok (.aload_n 0, 1) := by decide +kernel
theorem dX7_clear_6 : decode cX7_clear 6 = .ok (.getfield 22, 3) := by decide +kernel
theorem dX7_clear_9 : decode cX7_clear 9 = .ok (.invokevirtual 31, 3) := by decide +kernel
theorem dX7_clear_12 : decode cX7_clear 12 = .ok (.return_, 1) := by decide +kernel
theorem dX7_canTakeSamples_0 : decode cX7_canTakeSamples 0 = .ok (.aload_n 0, 1) := by decide +kernel
theorem dX7_canTakeSamples_1 : decode cX7_canTakeSamples 1 = .ok (.getfield 22, 3) := by decide +kernel
theorem dX7_canTakeSamples_4 : decode cX7_canTakeSamples 4 = .ok (.getfield 34, 3) := by decide +kernel
theorem dX7_canTakeSamples_7 : decode cX7_canTakeSamples 7 = .ok (.aload_n 1, 1) := by decide +kernel
theorem dX7_canTakeSamples_8 : decode cX7_canTakeSamples 8 = .ok (.getfield 22, 3) := by decide +kernel
theorem dX7_canTakeSamples_11 : decode cX7_canTakeSamples 11 = .ok (.getfield 34, 3) := by decide +kernel
theorem dX7_canTakeSamples_14 : decode cX7_canTakeSamples 14 = .ok (.iadd, 1) := by decide +kernel
theorem dX7_canTakeSamples_15 : decode cX7_canTakeSamples 15 = .ok (.iconst 3, 1) := by decide +kernel
theorem dX7_canTakeSamples_16 : decode cX7_canTakeSamples 16 = .ok (.if_icmp .le 5, 3) := by decide +kernel
theorem dX7_canTakeSamples_19 : decode cX7_canTakeSamples 19 = .ok (.iconst 0, 1) := by decide +kernel
theorem dX7_canTakeSamples_20 : decode cX7_canTakeSamples 20 = .ok (.ireturn, 1) := by decide +kernel
theorem dX7_canTakeSamples_21 : decode cX7_canTakeSamples 21 = .ok (.iconst 0, 1) := by decide +kernel
theorem dX7_canTakeSamples_22 : decode cX7_canTakeSamples 22 = .ok (.istore_n 2, 1) := by decide +kernel
theorem dX7_canTakeSamples_23 : decode cX7_canTakeSamples 23 = .ok (.iload_n 2, 1) := by decide +kernel
theorem dX7_canTakeSamples_24 : decode cX7_canTakeSamples 24 = .ok (.aload_n 1, 1) := by decide +kernel
theorem dX7_canTakeSamples_25 : decode cX7_canTakeSamples 25 = .ok (.getfield 22, 3) := by decide +kernel
theorem dX7_canTakeSamples_28 : decode cX7_canTakeSamples 28 = .ok (.getfield 34, 3) := by decide +kernel
theorem dX7_canTakeSamples_31 : decode cX7_canTakeSamples 31 = .ok (.if_icmp .ge 27, 3) := by decide +kernel
theorem dX7_canTakeSamples_34 : decode cX7_canTakeSamples 34 = .ok (.aload_n 0, 1) := by decide +kernel
theorem dX7_canTakeSamples_35 : decode cX7_canTakeSamples 35 = .ok (.getfield 22, 3) := by decide +kernel
theorem dX7_canTakeSamples_38 : decode cX7_canTakeSamples 38 = .ok (.aload_n 1, 1) := by decide +kernel
theorem dX7_canTakeSamples_39 : decode cX7_canTakeSamples 39 = .ok (.getfield 22, 3) := by decide +kernel
theorem dX7_canTakeSamples_42 : decode cX7_canTakeSamples 42 = .ok (.iload_n 2, 1) := by decide +kernel
theorem dX7_canTakeSamples_43 : decode cX7_canTakeSamples 43 = .ok (.invokevirtual 37, 3) := by decide +kernel
theorem dX7_canTakeSamples_46 : decode cX7_canTakeSamples 46 = .ok (.iconst (-1), 1) := by decide +kernel
theorem dX7_canTakeSamples_47 : decode cX7_canTakeSamples 47 = .ok (.if_icmp .eq 5, 3) := by decide +kernel
theorem dX7_canTakeSamples_50 : decode cX7_canTakeSamples 50 = .ok (.iconst 0, 1) := by decide +kernel
theorem dX7_canTakeSamples_51 : decode cX7_canTakeSamples 51 = .ok (.ireturn, 1) := by decide +kernel
theorem dX7_canTakeSamples_52 : decode cX7_canTakeSamples 52 = .ok (.iinc 2 1, 3) := by decide +kernel
theorem dX7_canTakeSamples_55 : decode cX7_canTakeSamples 55 = .ok (.goto (-32), 3) := by decide +kernel
theorem dX7_canTakeSamples_58 : decode cX7_canTakeSamples 58 = .ok (.iconst 1, 1) := by decide +kernel
theorem dX7_canTakeSamples_59 : decode cX7_canTakeSamples 59 = .ok (.ireturn, 1) := by decide +kernel
theorem dX7_sizeWhenSplit_0 : decode cX7_sizeWhenSplit 0 = .ok (.iconst 0, 1) := by decide +kernel
theorem dX7_sizeWhenSplit_1 : decode cX7_sizeWhenSplit 1 = .ok (.istore_n 1, 1) := by decide +kernel
theorem dX7_sizeWhenSplit_2 : decode cX7_sizeWhenSplit 2 = .ok (.iconst 0, 1) := by decide +kernel
theorem dX7_sizeWhenSplit_3 : decode cX7_sizeWhenSplit 3 = .ok (.istore_n 2, 1) := by decide +kernel
theorem dX7_sizeWhenSplit_4 : decode cX7_sizeWhenSplit 4 = .ok (.iload_n 2, 1) := by decide +kernel
theorem dX7_sizeWhenSplit_5 : decode cX7_sizeWhenSplit 5 = .ok (.aload_n 0, 1) := by decide +kernel
theorem dX7_sizeWhenSplit_6 : decode cX7_sizeWhenSplit 6 = .ok (.getfield 27, 3) := by decide +kernel
theorem dX7_sizeWhenSplit_9 : decode cX7_sizeWhenSplit 9 = .ok (.if_icmp .ge 27, 3) := by decide +kernel
theorem dX7_sizeWhenSplit_12 : decode cX7_sizeWhenSplit 12 = .ok (.iload_n 1, 1) := by decide +kernel
theorem dX7_sizeWhenSplit_13 : decode cX7_sizeWhenSplit 13 = .ok (.iconst 1, 1) := by decide +kernel
theorem dX7_sizeWhenSplit_14 : decode cX7_sizeWhenSplit 14 = .ok (.aload_n 0, 1) := by decide +kernel
theorem dX7_sizeWhenSplit_15 : decode cX7_sizeWhenSplit 15 = .ok (.getfield 11, 3) := by decide +kernel
theorem dX7_sizeWhenSplit_18 : decode cX7_sizeWhenSplit 18 = .ok (.iload_n 2, 1) := by decide +kernel
theorem dX7_sizeWhenSplit_19 : decode cX7_sizeWhenSplit 19 = .ok (.aaload, 1) := by decide +kernel
theorem dX7_sizeWhenSplit_20 : decode cX7_sizeWhenSplit 20 = .ok (.getfield 41, 3) := by decide +kernel
theorem dX7_sizeWhenSplit_23 : decode cX7_sizeWhenSplit 23 = .ok (.iconst 1, 1) := by decide +kernel
theorem dX7_sizeWhenSplit_24 : decode cX7_sizeWhenSplit 24 = .ok (.isub, 1) := by decide +kernel
theorem dX7_sizeWhenSplit_25 : decode cX7_sizeWhenSplit 25 = .ok (.invokestatic 44, 3) := by decide +kernel
theorem dX7_sizeWhenSplit_28 : decode cX7_sizeWhenSplit 28 = .ok (.iadd, 1) := by decide +kernel
theorem dX7_sizeWhenSplit_29 : decode cX7_sizeWhenSplit 29 = .ok (.istore_n 1, 1) := by decide +kernel
theorem dX7_sizeWhenSplit_30 : decode cX7_sizeWhenSplit 30 = .ok (.iinc 2 1, 3) := by decide +kernel
theorem dX7_sizeWhenSplit_33 : decode cX7_sizeWhenSplit 33 = .ok (.goto (-29), 3) := by decide +kernel
theorem dX7_sizeWhenSplit_36 : decode cX7_sizeWhenSplit 36 = .ok (.iload_n 1, 1) := by decide +kernel
theorem dX7_sizeWhenSplit_37 : decode cX7_sizeWhenSplit 37 = .ok (.ireturn, 1) := by decide +kernel
theorem dX7_takeSplit_0 : decode cX7_takeSplit 0 = .ok (.aload_n 0, 1) := by decide +kernel
theorem dX7_takeSplit_1 : decode cX7_takeSplit 1 = .ok (.invokevirtual 50, 3) := by decide +kernel
theorem dX7_takeSplit_4 : decode cX7_takeSplit 4 = .ok (.aload_n 0, 1) := by decide +kernel
theorem dX7_takeSplit_5 : decode cX7_takeSplit 5 = .ok (.getfield 22, 3) := by decide +kernel
theorem dX7_takeSplit_8 : decode cX7_takeSplit 8 = .ok (.aload_n 1, 1) := by decide +kernel
theorem dX7_takeSplit_9 : decode cX7_takeSplit 9 = .ok (.getfield 22, 3) := by decide +kernel
theorem dX7_takeSplit_12 : decode cX7_takeSplit 12 = .ok (.invokevirtual 51, 3) := by decide +kernel
theorem dX7_takeSplit_15 : decode cX7_takeSplit 15 = .ok (.iconst 0, 1) := by decide +kernel
theorem dX7_takeSplit_16 : decode cX7_takeSplit 16 = .ok (.istore_n 2, 1) := by decide +kernel
theorem dX7_takeSplit_17 : decode cX7_takeSplit 17 = .ok (.iload_n 2, 1) := by decide +kernel
theorem dX7_takeSplit_18 : decode cX7_takeSplit 18 = .ok (.aload_n 1, 1) := by decide +kernel
theorem dX7_takeSplit_19 : decode cX7_takeSplit 19 = .ok (.getfield 27, 3) := by decide +kernel
theorem dX7_takeSplit_22 : decode cX7_takeSplit 22 = .ok (.if_icmp .ge 19, 3) := by decide +kernel
theorem dX7_takeSplit_25 : decode cX7_takeSplit 25 = .ok (.aload_n 0, 1) := by decide +kernel
theorem dX7_takeSplit_26 : decode cX7_takeSplit 26 = .ok (.aload_n 1, 1) := by decide +kernel
theorem dX7_takeSplit_27 : decode cX7_takeSplit 27 = .ok (.getfield 11, 3) := by decide +kernel
theorem dX7_takeSplit_30 : decode cX7_takeSplit 30 = .ok (.iload_n 2, 1) := by decide +kernel
theorem dX7_takeSplit_31 : decode cX7_takeSplit 31 = .ok (.aaload, 1) := by decide +kernel
theorem dX7_takeSplit_32 : decode cX7_takeSplit 32 = .ok (.invokevirtual 55, 3) := by decide +kernel
theorem dX7_takeSplit_35 : decode cX7_takeSplit 35 = .ok (.iinc 2 1, 3) := by decide +kernel
theorem dX7_takeSplit_38 : decode cX7_takeSplit 38 = .ok (.goto (-21), 3) := by decide +kernel
theorem dX7_takeSplit_41 : decode cX7_takeSplit 41 = .ok (.return_, 1) := by decide +kernel
theorem dX7_takeSplitEntry_0 : decode cX7_takeSplitEntry 0 = .ok (.aload_n 1, 1) := by decide +kernel
theorem dX7_takeSplitEntry_1 : decode cX7_takeSplitEntry 1 = .ok (.invokevirtual 59, 3) := by decide +kernel
theorem dX7_takeSplitEntry_4 : decode cX7_takeSplitEntry 4 = .ok (.ifCond .ne 35, 3) := by decide +kernel
theorem dX7_takeSplitEntry_7 : decode cX7_takeSplitEntry 7 = .ok (.aload_n 0, 1) := by decide +kernel
theorem dX7_takeSplitEntry_8 : decode cX7_takeSplitEntry 8 = .ok (.getfield 27, 3) := by decide +kernel
theorem dX7_takeSplitEntry_11 : decode cX7_takeSplitEntry 11 = .ok (.bipush 60, 2) := by decide +kernel
theorem dX7_takeSplitEntry_13 : decode cX7_takeSplitEntry 13 = .ok (.if_icmp .ge 26, 3) := by decide +kernel
theorem dX7_takeSplitEntry_16 : decode cX7_takeSplitEntry 16 = .ok (.aload_n 0, 1) := by decide +kernel
theorem dX7_takeSplitEntry_17 : decode cX7_takeSplitEntry 17 = .ok (.getfield 11, 3) := by decide +kernel
theorem dX7_takeSplitEntry_20 : decode cX7_takeSplitEntry 20 = .ok (.aload_n 0, 1) := by decide +kernel
theorem dX7_takeSplitEntry_21 : decode cX7_takeSplitEntry 21 = .ok (.getfield 27, 3) := by decide +kernel
theorem dX7_takeSplitEntry_24 : decode cX7_takeSplitEntry 24 = .ok (.aaload, 1) := by decide +kernel
theorem dX7_takeSplitEntry_25 : decode cX7_takeSplitEntry 25 = .ok (.aload_n 1, 1) := by decide +kernel
theorem dX7_takeSplitEntry_26 : decode cX7_takeSplitEntry 26 = .ok (.invokevirtual 63, 3) := by decide +kernel
theorem dX7_takeSplitEntry_29 : decode cX7_takeSplitEntry 29 = .ok (.aload_n 0, 1) := by decide +kernel
theorem dX7_takeSplitEntry_30 : decode cX7_takeSplitEntry 30 = .ok (.dup, 1) := by decide +kernel
theorem dX7_takeSplitEntry_31 : decode cX7_takeSplitEntry 31 = .ok (.getfield 27, 3) := by decide +kernel
theorem dX7_takeSplitEntry_34 : decode cX7_takeSplitEntry 34 = .ok (.iconst 1, 1) := by decide +kernel
theorem dX7_takeSplitEntry_35 : decode cX7_takeSplitEntry 35 = .ok (.iadd, 1) := by decide +kernel
theorem dX7_takeSplitEntry_36 : decode cX7_takeSplitEntry 36 = .ok (.putfield 27, 3) := by decide +kernel
theorem dX7_takeSplitEntry_39 : decode cX7_takeSplitEntry 39 = .ok (.iconst 1, 1) := by decide +kernel
theorem dX7_takeSplitEntry_40 : decode cX7_takeSplitEntry 40 = .ok (.istore_n 2, 1) := by decide +kernel
theorem dX7_takeSplitEntry_41 : decode cX7_takeSplitEntry 41 = .ok (.iload_n 2, 1) := by decide +kernel
theorem dX7_takeSplitEntry_42 : decode cX7_takeSplitEntry 42 = .ok (.aload_n 1, 1) := by decide +kernel
theorem dX7_takeSplitEntry_43 : decode cX7_takeSplitEntry 43 = .ok (.getfield 41, 3) := by decide +kernel
theorem dX7_takeSplitEntry_46 : decode cX7_takeSplitEntry 46 = .ok (.if_icmp .ge 49, 3) := by decide +kernel
theorem dX7_takeSplitEntry_49 : decode cX7_takeSplitEntry 49 = .ok (.aload_n 0, 1) := by decide +kernel
theorem dX7_takeSplitEntry_50 : decode cX7_takeSplitEntry 50 = .ok (.getfield 27, 3) := by decide +kernel
theorem dX7_takeSplitEntry_53 : decode cX7_takeSplitEntry 53 = .ok (.bipush 60, 2) := by decide +kernel
theorem dX7_takeSplitEntry_55 : decode cX7_takeSplitEntry 55 = .ok (.if_icmp .ge 40, 3) := by decide +kernel
theorem dX7_takeSplitEntry_58 : decode cX7_takeSplitEntry 58 = .ok (.aload_n 0, 1) := by decide +kernel
theorem dX7_takeSplitEntry_59 : decode cX7_takeSplitEntry 59 = .ok (.getfield 11, 3) := by decide +kernel
theorem dX7_takeSplitEntry_62 : decode cX7_takeSplitEntry 62 = .ok (.aload_n 0, 1) := by decide +kernel
theorem dX7_takeSplitEntry_63 : decode cX7_takeSplitEntry 63 = .ok (.getfield 27, 3) := by decide +kernel
theorem dX7_takeSplitEntry_66 : decode cX7_takeSplitEntry 66 = .ok (.aaload, 1) := by decide +kernel
theorem dX7_takeSplitEntry_67 : decode cX7_takeSplitEntry 67 = .ok (.aload_n 1, 1) := by decide +kernel
theorem dX7_takeSplitEntry_68 : decode cX7_takeSplitEntry 68 = .ok (.iload_n 2, 1) := by decide +kernel
theorem dX7_takeSplitEntry_69 : decode cX7_takeSplitEntry 69 = .ok (.aload_n 0, 1) := by decide +kernel
theorem dX7_takeSplitEntry_70 : decode cX7_takeSplitEntry 70 = .ok (.getfield 22, 3) := by decide +kernel
theorem dX7_takeSplitEntry_73 : decode cX7_takeSplitEntry 73 = .ok (.getfield 34, 3) := by decide +kernel
theorem dX7_takeSplitEntry_76 : decode cX7_takeSplitEntry 76 = .ok (.invokevirtual 66, 3) := by decide +kernel
theorem dX7_takeSplitEntry_79 : decode cX7_takeSplitEntry 79 = .ok (.aload_n 0, 1) := by decide +kernel
theorem dX7_takeSplitEntry_80 : decode cX7_takeSplitEntry 80 = .ok (.dup, 1) := by decide +kernel
theorem dX7_takeSplitEntry_81 : decode cX7_takeSplitEntry 81 = .ok (.getfield 27, 3) := by decide +kernel
theorem dX7_takeSplitEntry_84 : decode cX7_takeSplitEntry 84 = .ok (.iconst 1, 1) := by decide +kernel
theorem dX7_takeSplitEntry_85 : decode cX7_takeSplitEntry 85 = .ok (.iadd, 1) := by decide +kernel
theorem dX7_takeSplitEntry_86 : decode cX7_takeSplitEntry 86 = .ok (.putfield 27, 3) := by decide +kernel
theorem dX7_takeSplitEntry_89 : decode cX7_takeSplitEntry 89 = .ok (.iinc 2 1, 3) := by decide +kernel
theorem dX7_takeSplitEntry_92 : decode cX7_takeSplitEntry 92 = .ok (.goto (-51), 3) := by decide +kernel
theorem dX7_takeSplitEntry_95 : decode cX7_takeSplitEntry 95 = .ok (.return_, 1) := by decide +kernel
theorem dX7_joinAll_0 : decode cX7_joinAll 0 = .ok (.iconst 0, 1) := by decide +kernel
theorem dX7_joinAll_1 : decode cX7_joinAll 1 = .ok (.istore_n 2, 1) := by decide +kernel
theorem dX7_joinAll_2 : decode cX7_joinAll 2 = .ok (.iconst 1, 1) := by decide +kernel
theorem dX7_joinAll_3 : decode cX7_joinAll 3 = .ok (.istore_n 3, 1) := by decide +kernel
theorem dX7_joinAll_4 : decode cX7_joinAll 4 = .ok (.iload_n 3, 1) := by decide +kernel
theorem dX7_joinAll_5 : decode cX7_joinAll 5 = .ok (.aload_n 0, 1) := by decide +kernel
theorem dX7_joinAll_6 : decode cX7_joinAll 6 = .ok (.getfield 27, 3) := by decide +kernel
theorem dX7_joinAll_9 : decode cX7_joinAll 9 = .ok (.if_icmp .ge 51, 3) := by decide +kernel
theorem dX7_joinAll_12 : decode cX7_joinAll 12 = .ok (.aload_n 1, 1) := by decide +kernel
theorem dX7_joinAll_13 : decode cX7_joinAll 13 = .ok (.aload_n 0, 1) := by decide +kernel
theorem dX7_joinAll_14 : decode cX7_joinAll 14 = .ok (.getfield 11, 3) := by decide +kernel
theorem dX7_joinAll_17 : decode cX7_joinAll 17 = .ok (.iload_n 2, 1) := by decide +kernel
theorem dX7_joinAll_18 : decode cX7_joinAll 18 = .ok (.aaload, 1) := by decide +kernel
theorem dX7_joinAll_19 : decode cX7_joinAll 19 = .ok (.aload_n 0, 1) := by decide +kernel
theorem dX7_joinAll_20 : decode cX7_joinAll 20 = .ok (.getfield 11, 3) := by decide +kernel
theorem dX7_joinAll_23 : decode cX7_joinAll 23 = .ok (.iload_n 3, 1) := by decide +kernel
theorem dX7_joinAll_24 : decode cX7_joinAll 24 = .ok (.aaload, 1) := by decide +kernel
theorem dX7_joinAll_25 : decode cX7_joinAll 25 = .ok (.aload_n 0, 1) := by decide +kernel
theorem dX7_joinAll_26 : decode cX7_joinAll 26 = .ok (.getfield 22, 3) := by decide +kernel
theorem dX7_joinAll_29 : decode cX7_joinAll 29 = .ok (.getfield 34, 3) := by decide +kernel
theorem dX7_joinAll_32 : decode cX7_joinAll 32 = .ok (.invokevirtual 70, 3) := by decide +kernel
theorem dX7_joinAll_35 : decode cX7_joinAll 35 = .ok (.ifCond .ne 19, 3) := by decide +kernel
theorem dX7_joinAll_38 : decode cX7_joinAll 38 = .ok (.iinc 2 1, 3) := by decide +kernel
theorem dX7_joinAll_41 : decode cX7_joinAll 41 = .ok (.aload_n 0, 1) := by decide +kernel
theorem dX7_joinAll_42 : decode cX7_joinAll 42 = .ok (.getfield 11, 3) := by decide +kernel
theorem dX7_joinAll_45 : decode cX7_joinAll 45 = .ok (.iload_n 2, 1) := by decide +kernel
theorem dX7_joinAll_46 : decode cX7_joinAll 46 = .ok (.aload_n 0, 1) := by decide +kernel
theorem dX7_joinAll_47 : decode cX7_joinAll 47 = .ok (.getfield 11, 3) := by decide +kernel
theorem dX7_joinAll_50 : decode cX7_joinAll 50 = .ok (.iload_n 3, 1) := by decide +kernel
theorem dX7_joinAll_51 : decode cX7_joinAll 51 = .ok (.invokestatic 76, 3) := by decide +kernel
theorem dX7_joinAll_54 : decode cX7_joinAll 54 = .ok (.iinc 3 1, 3) := by decide +kernel
theorem dX7_joinAll_57 : decode cX7_joinAll 57 = .ok (.goto (-53), 3) := by decide +kernel
theorem dX7_joinAll_60 : decode cX7_joinAll 60 = .ok (.aload_n 0, 1) := by decide +kernel
theorem dX7_joinAll_61 : decode cX7_joinAll 61 = .ok (.aload_n 0, 1) := by decide +kernel
theorem dX7_joinAll_62 : decode cX7_joinAll 62 = .ok (.getfield 27, 3) := by decide +kernel
theorem dX7_joinAll_65 : decode cX7_joinAll 65 = .ok (.iload_n 2, 1) := by decide +kernel
theorem dX7_joinAll_66 : decode cX7_joinAll 66 = .ok (.iconst 1, 1) := by decide +kernel
theorem dX7_joinAll_67 : decode cX7_joinAll 67 = .ok (.iadd, 1) := by decide +kernel
theorem dX7_joinAll_68 : decode cX7_joinAll 68 = .ok (.invokestatic 80, 3) := by decide +kernel
theorem dX7_joinAll_71 : decode cX7_joinAll 71 = .ok (.putfield 27, 3) := by decide +kernel
theorem dX7_joinAll_74 : decode cX7_joinAll 74 = .ok (.return_, 1) := by decide +kernel
theorem dX7_putInOrder_0 : decode cX7_putInOrder 0 = .ok (.iconst 0, 1) := by decide +kernel
theorem dX7_putInOrder_1 : decode cX7_putInOrder 1 = .ok (.istore_n 1, 1) := by decide +kernel
theorem dX7_putInOrder_2 : decode cX7_putInOrder 2 = .ok (.iload_n 1, 1) := by decide +kernel
theorem dX7_putInOrder_3 : decode cX7_putInOrder 3 = .ok (.aload_n 0, 1) := by decide +kernel
theorem dX7_putInOrder_4 : decode cX7_putInOrder 4 = .ok (.getfield 27, 3) := by decide +kernel
theorem dX7_putInOrder_7 : decode cX7_putInOrder 7 = .ok (.if_icmp .ge 24, 3) := by decide +kernel
theorem dX7_putInOrder_10 : decode cX7_putInOrder 10 = .ok (.aload_n 0, 1) := by decide +kernel
theorem dX7_putInOrder_11 : decode cX7_putInOrder 11 = .ok (.getfield 11, 3) := by decide +kernel
theorem dX7_putInOrder_14 : decode cX7_putInOrder 14 = .ok (.iload_n 1, 1) := by decide +kernel
theorem dX7_putInOrder_15 : decode cX7_putInOrder 15 = .ok (.aaload, 1) := by decide +kernel
theorem dX7_putInOrder_16 : decode cX7_putInOrder 16 = .ok (.iload_n 1, 1) := by decide +kernel
theorem dX7_putInOrder_17 : decode cX7_putInOrder 17 = .ok (.putfield 83, 3) := by decide +kernel
theorem dX7_putInOrder_20 : decode cX7_putInOrder 20 = .ok (.aload_n 0, 1) := by decide +kernel
theorem dX7_putInOrder_21 : decode cX7_putInOrder 21 = .ok (.iload_n 1, 1) := by decide +kernel
theorem dX7_putInOrder_22 : decode cX7_putInOrder 22 = .ok (.invokevirtual 86, 3) := by decide +kernel
theorem dX7_putInOrder_25 : decode cX7_putInOrder 25 = .ok (.iinc 1 1, 3) := by decide +kernel
theorem dX7_putInOrder_28 : decode cX7_putInOrder 28 = .ok (.goto (-26), 3) := by decide +kernel
theorem dX7_putInOrder_31 : decode cX7_putInOrder 31 = .ok (.iconst 0, 1) := by decide +kernel
theorem dX7_putInOrder_32 : decode cX7_putInOrder 32 = .ok (.istore_n 1, 1) := by decide +kernel
theorem dX7_putInOrder_33 : decode cX7_putInOrder 33 = .ok (.iconst 0, 1) := by decide +kernel
theorem dX7_putInOrder_34 : decode cX7_putInOrder 34 = .ok (.istore_n 2, 1) := by decide +kernel
theorem dX7_putInOrder_35 : decode cX7_putInOrder 35 = .ok (.iload_n 2, 1) := by decide +kernel
theorem dX7_putInOrder_36 : decode cX7_putInOrder 36 = .ok (.aload_n 0, 1) := by decide +kernel
theorem dX7_putInOrder_37 : decode cX7_putInOrder 37 = .ok (.getfield 27, 3) := by decide +kernel
theorem dX7_putInOrder_40 : decode cX7_putInOrder 40 = .ok (.if_icmp .ge 25, 3) := by decide +kernel
theorem dX7_putInOrder_43 : decode cX7_putInOrder 43 = .ok (.aload_n 0, 1) := by decide +kernel
theorem dX7_putInOrder_44 : decode cX7_putInOrder 44 = .ok (.getfield 11, 3) := by decide +kernel
theorem dX7_putInOrder_47 : decode cX7_putInOrder 47 = .ok (.iload_n 2, 1) := by decide +kernel
theorem dX7_putInOrder_48 : decode cX7_putInOrder 48 = .ok (.aaload, 1) := by decide +kernel
theorem dX7_putInOrder_49 : decode cX7_putInOrder 49 = .ok (.getfield 83, 3) := by decide +kernel
theorem dX7_putInOrder_52 : decode cX7_putInOrder 52 = .ok (.iload_n 2, 1) := by decide +kernel
theorem dX7_putInOrder_53 : decode cX7_putInOrder 53 = .ok (.if_icmp .eq 6, 3) := by decide +kernel
theorem dX7_putInOrder_56 : decode cX7_putInOrder 56 = .ok (.iinc 1 1, 3) := by decide +kernel
theorem dX7_putInOrder_59 : decode cX7_putInOrder 59 = .ok (.iinc 2 1, 3) := by decide +kernel
theorem dX7_putInOrder_62 : decode cX7_putInOrder 62 = .ok (.goto (-27), 3) := by decide +kernel
theorem dX7_putInOrder_65 : decode cX7_putInOrder 65 = .ok (.iload_n 1, 1) := by decide +kernel
theorem dX7_putInOrder_66 : decode cX7_putInOrder 66 = .ok (.ireturn, 1) := by decide +kernel
theorem dX7_sinkToPlace_0 : decode cX7_sinkToPlace 0 = .ok (.aload_n 0, 1) := by decide +kernel
theorem dX7_sinkToPlace_1 : decode cX7_sinkToPlace 1 = .ok (.getfield 11, 3) := by decide +kernel
theorem dX7_sinkToPlace_4 : decode cX7_sinkToPlace 4 = .ok (.iload_n 1, 1) := by decide +kernel
end
