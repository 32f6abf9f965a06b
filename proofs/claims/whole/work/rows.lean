section
-- ===== PART A: goes FIRST, ahead of the names: the tables' words, and 'selects' of the private methods out of them =====
/-- a private method of a class that the tables say can be made, by its rows of tables_1 -/
def lw_okq (q : MethodName × Nat) : Prop := (q.1.cls ≠ "java/lang/invoke/MethodHandle" ∧ q.1.cls ≠ "java/lang/invoke/VarHandle") ∧ Cond.instantiable q.1.cls q.2 ∈ tables_1 ∧ Cond.privateMethod q.1 ∈ tables_1 ∧ Cond.instanceMethod q.1 ∈ tables_1
theorem lw_p0 : lw_okq (⟨"VariantDesk$GenomeReader", "take", "(I)Z"⟩, 11) := ⟨⟨by decide +kernel, by decide +kernel⟩, List.mem_of_getElem? (i := 311) (by decide +kernel), List.mem_of_getElem? (i := 369) (by decide +kernel), List.mem_of_getElem? (i := 370) (by decide +kernel)⟩
theorem lw_p1 : lw_okq (⟨"VariantDesk$GenomeReader", "takeInName", "(I)Z"⟩, 11) := ⟨⟨by decide +kernel, by decide +kernel⟩, List.mem_of_getElem? (i := 311) (by decide +kernel), List.mem_of_getElem? (i := 373) (by decide +kernel), List.mem_of_getElem? (i := 374) (by decide +kernel)⟩
theorem lw_p2 : lw_okq (⟨"VariantDesk$GenomeReader", "fail", "(I)Z"⟩, 11) := ⟨⟨by decide +kernel, by decide +kernel⟩, List.mem_of_getElem? (i := 311) (by decide +kernel), List.mem_of_getElem? (i := 380) (by decide +kernel), List.mem_of_getElem? (i := 381) (by decide +kernel)⟩
theorem lw_p3 : lw_okq (⟨"VariantDesk$GenomeReader", "endNameLine", "()Z"⟩, 11) := ⟨⟨by decide +kernel, by decide +kernel⟩, List.mem_of_getElem? (i := 311) (by decide +kernel), List.mem_of_getElem? (i := 388) (by decide +kernel), List.mem_of_getElem? (i := 389) (by decide +kernel)⟩
theorem lw_p4 : lw_okq (⟨"VariantDesk$Names", "isName", "(ILVariantDesk$Names;I)Z"⟩, 4) := ⟨⟨by decide +kernel, by decide +kernel⟩, List.mem_of_getElem? (i := 60) (by decide +kernel), List.mem_of_getElem? (i := 396) (by decide +kernel), List.mem_of_getElem? (i := 397) (by decide +kernel)⟩
theorem lw_p5 : lw_okq (⟨"VariantDesk$GenomeReader", "takeInRemark", "(I)Z"⟩, 11) := ⟨⟨by decide +kernel, by decide +kernel⟩, List.mem_of_getElem? (i := 311) (by decide +kernel), List.mem_of_getElem? (i := 400) (by decide +kernel), List.mem_of_getElem? (i := 401) (by decide +kernel)⟩
theorem lw_p6 : lw_okq (⟨"VariantDesk$GenomeReader", "takeInLetters", "(I)Z"⟩, 11) := ⟨⟨by decide +kernel, by decide +kernel⟩, List.mem_of_getElem? (i := 311) (by decide +kernel), List.mem_of_getElem? (i := 404) (by decide +kernel), List.mem_of_getElem? (i := 405) (by decide +kernel)⟩
theorem lw_p7 : lw_okq (⟨"VariantDesk$GenomeReader", "endLetterLine", "()V"⟩, 11) := ⟨⟨by decide +kernel, by decide +kernel⟩, List.mem_of_getElem? (i := 311) (by decide +kernel), List.mem_of_getElem? (i := 408) (by decide +kernel), List.mem_of_getElem? (i := 409) (by decide +kernel)⟩
theorem lw_p8 : lw_okq (⟨"VariantDesk$GenomeReader", "takeLetter", "(I)Z"⟩, 11) := ⟨⟨by decide +kernel, by decide +kernel⟩, List.mem_of_getElem? (i := 311) (by decide +kernel), List.mem_of_getElem? (i := 419) (by decide +kernel), List.mem_of_getElem? (i := 420) (by decide +kernel)⟩
theorem lw_p9 : lw_okq (⟨"VariantDesk$GenomeReader", "takeAtLineStart", "(I)Z"⟩, 11) := ⟨⟨by decide +kernel, by decide +kernel⟩, List.mem_of_getElem? (i := 311) (by decide +kernel), List.mem_of_getElem? (i := 427) (by decide +kernel), List.mem_of_getElem? (i := 428) (by decide +kernel)⟩
theorem lw_p10 : lw_okq (⟨"VariantDesk$GenomeReader", "openSequence", "()Z"⟩, 11) := ⟨⟨by decide +kernel, by decide +kernel⟩, List.mem_of_getElem? (i := 311) (by decide +kernel), List.mem_of_getElem? (i := 431) (by decide +kernel), List.mem_of_getElem? (i := 432) (by decide +kernel)⟩
theorem lw_p11 : lw_okq (⟨"VariantDesk$Sheet", "firstFreeLike", "(LVariantDesk$Entry;)I"⟩, 3) := ⟨⟨by decide +kernel, by decide +kernel⟩, List.mem_of_getElem? (i := 121) (by decide +kernel), List.mem_of_getElem? (i := 473) (by decide +kernel), List.mem_of_getElem? (i := 474) (by decide +kernel)⟩
theorem lw_p12 : lw_okq (⟨"VariantDesk$Sheet", "sinkToPlace", "(I)V"⟩, 3) := ⟨⟨by decide +kernel, by decide +kernel⟩, List.mem_of_getElem? (i := 121) (by decide +kernel), List.mem_of_getElem? (i := 528) (by decide +kernel), List.mem_of_getElem? (i := 529) (by decide +kernel)⟩
theorem lw_p13 : lw_okq (⟨"VariantDesk$Haplotype", "moved", "(I[I[I[I[I)I"⟩, 9) := ⟨⟨by decide +kernel, by decide +kernel⟩, List.mem_of_getElem? (i := 242) (by decide +kernel), List.mem_of_getElem? (i := 544) (by decide +kernel), List.mem_of_getElem? (i := 545) (by decide +kernel)⟩
theorem lw_p14 : lw_okq (⟨"java/lang/Throwable", "fillInStackTrace", "(I)Ljava/lang/Throwable;"⟩, 6) := ⟨⟨by decide +kernel, by decide +kernel⟩, List.mem_of_getElem? (i := 617) (by decide +kernel), List.mem_of_getElem? (i := 615) (by decide +kernel), List.mem_of_getElem? (i := 616) (by decide +kernel)⟩
theorem lw_p15 : lw_okq (⟨"VariantDesk", "sheetAt", "(I)LVariantDesk$Sheet;"⟩, 10) := ⟨⟨by decide +kernel, by decide +kernel⟩, List.mem_of_getElem? (i := 24) (by decide +kernel), List.mem_of_getElem? (i := 660) (by decide +kernel), List.mem_of_getElem? (i := 661) (by decide +kernel)⟩
def lw_privs_1 : List (MethodName × Nat) := [(⟨"VariantDesk$GenomeReader", "take", "(I)Z"⟩, 11), (⟨"VariantDesk$GenomeReader", "takeInName", "(I)Z"⟩, 11), (⟨"VariantDesk$GenomeReader", "fail", "(I)Z"⟩, 11), (⟨"VariantDesk$GenomeReader", "endNameLine", "()Z"⟩, 11), (⟨"VariantDesk$Names", "isName", "(ILVariantDesk$Names;I)Z"⟩, 4), (⟨"VariantDesk$GenomeReader", "takeInRemark", "(I)Z"⟩, 11), (⟨"VariantDesk$GenomeReader", "takeInLetters", "(I)Z"⟩, 11), (⟨"VariantDesk$GenomeReader", "endLetterLine", "()V"⟩, 11), (⟨"VariantDesk$GenomeReader", "takeLetter", "(I)Z"⟩, 11), (⟨"VariantDesk$GenomeReader", "takeAtLineStart", "(I)Z"⟩, 11), (⟨"VariantDesk$GenomeReader", "openSequence", "()Z"⟩, 11), (⟨"VariantDesk$Sheet", "firstFreeLike", "(LVariantDesk$Entry;)I"⟩, 3), (⟨"VariantDesk$Sheet", "sinkToPlace", "(I)V"⟩, 3), (⟨"VariantDesk$Haplotype", "moved", "(I[I[I[I[I)I"⟩, 9), (⟨"java/lang/Throwable", "fillInStackTrace", "(I)Ljava/lang/Throwable;"⟩, 6), (⟨"VariantDesk", "sheetAt", "(I)LVariantDesk$Sheet;"⟩, 10)]
theorem lw_r1 : ∀ q ∈ lw_privs_1, lw_okq q := List.forall_mem_cons.mpr ⟨lw_p0, List.forall_mem_cons.mpr ⟨lw_p1, List.forall_mem_cons.mpr ⟨lw_p2, List.forall_mem_cons.mpr ⟨lw_p3, List.forall_mem_cons.mpr ⟨lw_p4, List.forall_mem_cons.mpr ⟨lw_p5, List.forall_mem_cons.mpr ⟨lw_p6, List.forall_mem_cons.mpr ⟨lw_p7, List.forall_mem_cons.mpr ⟨lw_p8, List.forall_mem_cons.mpr ⟨lw_p9, List.forall_mem_cons.mpr ⟨lw_p10, List.forall_mem_cons.mpr ⟨lw_p11, List.forall_mem_cons.mpr ⟨lw_p12, List.forall_mem_cons.mpr ⟨lw_p13, List.forall_mem_cons.mpr ⟨lw_p14, List.forall_mem_cons.mpr ⟨lw_p15, fun _ h => absurd h List.not_mem_nil⟩⟩⟩⟩⟩⟩⟩⟩⟩⟩⟩⟩⟩⟩⟩⟩
theorem lw_p16 : lw_okq (⟨"VariantDesk$SheetReader", "takeFirstLine", "()Z"⟩, 10) := ⟨⟨by decide +kernel, by decide +kernel⟩, List.mem_of_getElem? (i := 680) (by decide +kernel), List.mem_of_getElem? (i := 724) (by decide +kernel), List.mem_of_getElem? (i := 725) (by decide +kernel)⟩
theorem lw_p17 : lw_okq (⟨"VariantDesk$SheetReader", "takeLine", "()Z"⟩, 10) := ⟨⟨by decide +kernel, by decide +kernel⟩, List.mem_of_getElem? (i := 680) (by decide +kernel), List.mem_of_getElem? (i := 728) (by decide +kernel), List.mem_of_getElem? (i := 729) (by decide +kernel)⟩
theorem lw_p18 : lw_okq (⟨"VariantDesk$SheetReader", "fail", "(II)Z"⟩, 10) := ⟨⟨by decide +kernel, by decide +kernel⟩, List.mem_of_getElem? (i := 680) (by decide +kernel), List.mem_of_getElem? (i := 737) (by decide +kernel), List.mem_of_getElem? (i := 738) (by decide +kernel)⟩
theorem lw_p19 : lw_okq (⟨"VariantDesk$SheetReader", "takeLinesToHead", "()Z"⟩, 10) := ⟨⟨by decide +kernel, by decide +kernel⟩, List.mem_of_getElem? (i := 680) (by decide +kernel), List.mem_of_getElem? (i := 798) (by decide +kernel), List.mem_of_getElem? (i := 799) (by decide +kernel)⟩
theorem lw_p20 : lw_okq (⟨"VariantDesk$SheetReader", "cutColumns", "()V"⟩, 10) := ⟨⟨by decide +kernel, by decide +kernel⟩, List.mem_of_getElem? (i := 680) (by decide +kernel), List.mem_of_getElem? (i := 804) (by decide +kernel), List.mem_of_getElem? (i := 805) (by decide +kernel)⟩
theorem lw_p21 : lw_okq (⟨"VariantDesk$SheetReader", "takeHead", "()Z"⟩, 10) := ⟨⟨by decide +kernel, by decide +kernel⟩, List.mem_of_getElem? (i := 680) (by decide +kernel), List.mem_of_getElem? (i := 809) (by decide +kernel), List.mem_of_getElem? (i := 810) (by decide +kernel)⟩
theorem lw_p22 : lw_okq (⟨"VariantDesk$SheetReader", "columnIs", "(ILjava/lang/String;)Z"⟩, 10) := ⟨⟨by decide +kernel, by decide +kernel⟩, List.mem_of_getElem? (i := 680) (by decide +kernel), List.mem_of_getElem? (i := 815) (by decide +kernel), List.mem_of_getElem? (i := 816) (by decide +kernel)⟩
theorem lw_p23 : lw_okq (⟨"VariantDesk$SheetReader", "takeSampleName", "(II)Z"⟩, 10) := ⟨⟨by decide +kernel, by decide +kernel⟩, List.mem_of_getElem? (i := 680) (by decide +kernel), List.mem_of_getElem? (i := 819) (by decide +kernel), List.mem_of_getElem? (i := 820) (by decide +kernel)⟩
theorem lw_p24 : lw_okq (⟨"VariantDesk$SheetReader", "takeEntry", "(LVariantDesk$Entry;)Z"⟩, 10) := ⟨⟨by decide +kernel, by decide +kernel⟩, List.mem_of_getElem? (i := 680) (by decide +kernel), List.mem_of_getElem? (i := 838) (by decide +kernel), List.mem_of_getElem? (i := 839) (by decide +kernel)⟩
theorem lw_p25 : lw_okq (⟨"VariantDesk$SheetReader", "takeSequence", "(LVariantDesk$Entry;)Z"⟩, 10) := ⟨⟨by decide +kernel, by decide +kernel⟩, List.mem_of_getElem? (i := 680) (by decide +kernel), List.mem_of_getElem? (i := 842) (by decide +kernel), List.mem_of_getElem? (i := 843) (by decide +kernel)⟩
theorem lw_p26 : lw_okq (⟨"VariantDesk$SheetReader", "failColumn", "(I)Z"⟩, 10) := ⟨⟨by decide +kernel, by decide +kernel⟩, List.mem_of_getElem? (i := 680) (by decide +kernel), List.mem_of_getElem? (i := 846) (by decide +kernel), List.mem_of_getElem? (i := 847) (by decide +kernel)⟩
theorem lw_p27 : lw_okq (⟨"VariantDesk$SheetReader", "takePlace", "(LVariantDesk$Entry;)Z"⟩, 10) := ⟨⟨by decide +kernel, by decide +kernel⟩, List.mem_of_getElem? (i := 680) (by decide +kernel), List.mem_of_getElem? (i := 850) (by decide +kernel), List.mem_of_getElem? (i := 851) (by decide +kernel)⟩
theorem lw_p28 : lw_okq (⟨"VariantDesk$SheetReader", "takeId", "(LVariantDesk$Entry;)Z"⟩, 10) := ⟨⟨by decide +kernel, by decide +kernel⟩, List.mem_of_getElem? (i := 680) (by decide +kernel), List.mem_of_getElem? (i := 866) (by decide +kernel), List.mem_of_getElem? (i := 867) (by decide +kernel)⟩
theorem lw_p29 : lw_okq (⟨"VariantDesk$SheetReader", "takeRow", "(LVariantDesk$Entry;III)Z"⟩, 10) := ⟨⟨by decide +kernel, by decide +kernel⟩, List.mem_of_getElem? (i := 680) (by decide +kernel), List.mem_of_getElem? (i := 875) (by decide +kernel), List.mem_of_getElem? (i := 876) (by decide +kernel)⟩
theorem lw_p30 : lw_okq (⟨"VariantDesk$SheetReader", "refIsThere", "(LVariantDesk$Entry;)Z"⟩, 10) := ⟨⟨by decide +kernel, by decide +kernel⟩, List.mem_of_getElem? (i := 680) (by decide +kernel), List.mem_of_getElem? (i := 884) (by decide +kernel), List.mem_of_getElem? (i := 885) (by decide +kernel)⟩
theorem lw_p31 : lw_okq (⟨"VariantDesk$SheetReader", "takeAlts", "(LVariantDesk$Entry;)Z"⟩, 10) := ⟨⟨by decide +kernel, by decide +kernel⟩, List.mem_of_getElem? (i := 680) (by decide +kernel), List.mem_of_getElem? (i := 893) (by decide +kernel), List.mem_of_getElem? (i := 894) (by decide +kernel)⟩
def lw_privs_2 : List (MethodName × Nat) := [(⟨"VariantDesk$SheetReader", "takeFirstLine", "()Z"⟩, 10), (⟨"VariantDesk$SheetReader", "takeLine", "()Z"⟩, 10), (⟨"VariantDesk$SheetReader", "fail", "(II)Z"⟩, 10), (⟨"VariantDesk$SheetReader", "takeLinesToHead", "()Z"⟩, 10), (⟨"VariantDesk$SheetReader", "cutColumns", "()V"⟩, 10), (⟨"VariantDesk$SheetReader", "takeHead", "()Z"⟩, 10), (⟨"VariantDesk$SheetReader", "columnIs", "(ILjava/lang/String;)Z"⟩, 10), (⟨"VariantDesk$SheetReader", "takeSampleName", "(II)Z"⟩, 10), (⟨"VariantDesk$SheetReader", "takeEntry", "(LVariantDesk$Entry;)Z"⟩, 10), (⟨"VariantDesk$SheetReader", "takeSequence", "(LVariantDesk$Entry;)Z"⟩, 10), (⟨"VariantDesk$SheetReader", "failColumn", "(I)Z"⟩, 10), (⟨"VariantDesk$SheetReader", "takePlace", "(LVariantDesk$Entry;)Z"⟩, 10), (⟨"VariantDesk$SheetReader", "takeId", "(LVariantDesk$Entry;)Z"⟩, 10), (⟨"VariantDesk$SheetReader", "takeRow", "(LVariantDesk$Entry;III)Z"⟩, 10), (⟨"VariantDesk$SheetReader", "refIsThere", "(LVariantDesk$Entry;)Z"⟩, 10), (⟨"VariantDesk$SheetReader", "takeAlts", "(LVariantDesk$Entry;)Z"⟩, 10)]
theorem lw_r2 : ∀ q ∈ lw_privs_2, lw_okq q := List.forall_mem_cons.mpr ⟨lw_p16, List.forall_mem_cons.mpr ⟨lw_p17, List.forall_mem_cons.mpr ⟨lw_p18, List.forall_mem_cons.mpr ⟨lw_p19, List.forall_mem_cons.mpr ⟨lw_p20, List.forall_mem_cons.mpr ⟨lw_p21, List.forall_mem_cons.mpr ⟨lw_p22, List.forall_mem_cons.mpr ⟨lw_p23, List.forall_mem_cons.mpr ⟨lw_p24, List.forall_mem_cons.mpr ⟨lw_p25, List.forall_mem_cons.mpr ⟨lw_p26, List.forall_mem_cons.mpr ⟨lw_p27, List.forall_mem_cons.mpr ⟨lw_p28, List.forall_mem_cons.mpr ⟨lw_p29, List.forall_mem_cons.mpr ⟨lw_p30, List.forall_mem_cons.mpr ⟨lw_p31, fun _ h => absurd h List.not_mem_nil⟩⟩⟩⟩⟩⟩⟩⟩⟩⟩⟩⟩⟩⟩⟩⟩
theorem lw_p32 : lw_okq (⟨"VariantDesk$SheetReader", "takeAlt", "(LVariantDesk$Entry;II)Z"⟩, 10) := ⟨⟨by decide +kernel, by decide +kernel⟩, List.mem_of_getElem? (i := 680) (by decide +kernel), List.mem_of_getElem? (i := 897) (by decide +kernel), List.mem_of_getElem? (i := 898) (by decide +kernel)⟩
theorem lw_p33 : lw_okq (⟨"VariantDesk$SheetReader", "takeQuality", "(LVariantDesk$Entry;)Z"⟩, 10) := ⟨⟨by decide +kernel, by decide +kernel⟩, List.mem_of_getElem? (i := 680) (by decide +kernel), List.mem_of_getElem? (i := 902) (by decide +kernel), List.mem_of_getElem? (i := 903) (by decide +kernel)⟩
theorem lw_p34 : lw_okq (⟨"VariantDesk$SheetReader", "takePassed", "(LVariantDesk$Entry;)Z"⟩, 10) := ⟨⟨by decide +kernel, by decide +kernel⟩, List.mem_of_getElem? (i := 680) (by decide +kernel), List.mem_of_getElem? (i := 907) (by decide +kernel), List.mem_of_getElem? (i := 908) (by decide +kernel)⟩
theorem lw_p35 : lw_okq (⟨"VariantDesk$SheetReader", "takeAllCalls", "(LVariantDesk$Entry;)Z"⟩, 10) := ⟨⟨by decide +kernel, by decide +kernel⟩, List.mem_of_getElem? (i := 680) (by decide +kernel), List.mem_of_getElem? (i := 913) (by decide +kernel), List.mem_of_getElem? (i := 914) (by decide +kernel)⟩
theorem lw_p36 : lw_okq (⟨"VariantDesk$SheetReader", "takeCalls", "(LVariantDesk$Entry;III)Z"⟩, 10) := ⟨⟨by decide +kernel, by decide +kernel⟩, List.mem_of_getElem? (i := 680) (by decide +kernel), List.mem_of_getElem? (i := 917) (by decide +kernel), List.mem_of_getElem? (i := 918) (by decide +kernel)⟩
theorem lw_p37 : lw_okq (⟨"VariantDesk$SheetReader", "callAt", "(III)I"⟩, 10) := ⟨⟨by decide +kernel, by decide +kernel⟩, List.mem_of_getElem? (i := 680) (by decide +kernel), List.mem_of_getElem? (i := 921) (by decide +kernel), List.mem_of_getElem? (i := 922) (by decide +kernel)⟩
theorem lw_p38 : lw_okq (⟨"VariantDesk", "useSpareSheet", "(I)V"⟩, 10) := ⟨⟨by decide +kernel, by decide +kernel⟩, List.mem_of_getElem? (i := 24) (by decide +kernel), List.mem_of_getElem? (i := 926) (by decide +kernel), List.mem_of_getElem? (i := 927) (by decide +kernel)⟩
theorem lw_p39 : lw_okq (⟨"VariantDesk", "checkSequence", "(I)V"⟩, 10) := ⟨⟨by decide +kernel, by decide +kernel⟩, List.mem_of_getElem? (i := 24) (by decide +kernel), List.mem_of_getElem? (i := 937) (by decide +kernel), List.mem_of_getElem? (i := 938) (by decide +kernel)⟩
theorem lw_p40 : lw_okq (⟨"VariantDesk", "entryAt", "(II)LVariantDesk$Entry;"⟩, 10) := ⟨⟨by decide +kernel, by decide +kernel⟩, List.mem_of_getElem? (i := 24) (by decide +kernel), List.mem_of_getElem? (i := 976) (by decide +kernel), List.mem_of_getElem? (i := 977) (by decide +kernel)⟩
theorem lw_p41 : lw_okq (⟨"VariantDesk", "checkSample", "(II)V"⟩, 10) := ⟨⟨by decide +kernel, by decide +kernel⟩, List.mem_of_getElem? (i := 24) (by decide +kernel), List.mem_of_getElem? (i := 998) (by decide +kernel), List.mem_of_getElem? (i := 999) (by decide +kernel)⟩
theorem lw_p42 : lw_okq (⟨"VariantDesk$Entry", "cutEnds", "(LVariantDesk$Genome;)I"⟩, 14) := ⟨⟨by decide +kernel, by decide +kernel⟩, List.mem_of_getElem? (i := 130) (by decide +kernel), List.mem_of_getElem? (i := 1023) (by decide +kernel), List.mem_of_getElem? (i := 1024) (by decide +kernel)⟩
theorem lw_p43 : lw_okq (⟨"VariantDesk$Entry", "shortestRow", "()I"⟩, 14) := ⟨⟨by decide +kernel, by decide +kernel⟩, List.mem_of_getElem? (i := 130) (by decide +kernel), List.mem_of_getElem? (i := 1027) (by decide +kernel), List.mem_of_getElem? (i := 1028) (by decide +kernel)⟩
theorem lw_p44 : lw_okq (⟨"VariantDesk$Entry", "endAlikeAfter", "(ILVariantDesk$Genome;)Z"⟩, 14) := ⟨⟨by decide +kernel, by decide +kernel⟩, List.mem_of_getElem? (i := 130) (by decide +kernel), List.mem_of_getElem? (i := 1034) (by decide +kernel), List.mem_of_getElem? (i := 1035) (by decide +kernel)⟩
theorem lw_p45 : lw_okq (⟨"VariantDesk$Entry", "movedLetter", "(IIILVariantDesk$Genome;)I"⟩, 14) := ⟨⟨by decide +kernel, by decide +kernel⟩, List.mem_of_getElem? (i := 130) (by decide +kernel), List.mem_of_getElem? (i := 1038) (by decide +kernel), List.mem_of_getElem? (i := 1039) (by decide +kernel)⟩
theorem lw_p46 : lw_okq (⟨"VariantDesk$Entry", "stepsToLeft", "(LVariantDesk$Genome;)I"⟩, 14) := ⟨⟨by decide +kernel, by decide +kernel⟩, List.mem_of_getElem? (i := 130) (by decide +kernel), List.mem_of_getElem? (i := 1043) (by decide +kernel), List.mem_of_getElem? (i := 1044) (by decide +kernel)⟩
theorem lw_p47 : lw_okq (⟨"VariantDesk$Entry", "moveLeft", "(ILVariantDesk$Genome;)V"⟩, 14) := ⟨⟨by decide +kernel, by decide +kernel⟩, List.mem_of_getElem? (i := 130) (by decide +kernel), List.mem_of_getElem? (i := 1047) (by decide +kernel), List.mem_of_getElem? (i := 1048) (by decide +kernel)⟩
def lw_privs_3 : List (MethodName × Nat) := [(⟨"VariantDesk$SheetReader", "takeAlt", "(LVariantDesk$Entry;II)Z"⟩, 10), (⟨"VariantDesk$SheetReader", "takeQuality", "(LVariantDesk$Entry;)Z"⟩, 10), (⟨"VariantDesk$SheetReader", "takePassed", "(LVariantDesk$Entry;)Z"⟩, 10), (⟨"VariantDesk$SheetReader", "takeAllCalls", "(LVariantDesk$Entry;)Z"⟩, 10), (⟨"VariantDesk$SheetReader", "takeCalls", "(LVariantDesk$Entry;III)Z"⟩, 10), (⟨"VariantDesk$SheetReader", "callAt", "(III)I"⟩, 10), (⟨"VariantDesk", "useSpareSheet", "(I)V"⟩, 10), (⟨"VariantDesk", "checkSequence", "(I)V"⟩, 10), (⟨"VariantDesk", "entryAt", "(II)LVariantDesk$Entry;"⟩, 10), (⟨"VariantDesk", "checkSample", "(II)V"⟩, 10), (⟨"VariantDesk$Entry", "cutEnds", "(LVariantDesk$Genome;)I"⟩, 14), (⟨"VariantDesk$Entry", "shortestRow", "()I"⟩, 14), (⟨"VariantDesk$Entry", "endAlikeAfter", "(ILVariantDesk$Genome;)Z"⟩, 14), (⟨"VariantDesk$Entry", "movedLetter", "(IIILVariantDesk$Genome;)I"⟩, 14), (⟨"VariantDesk$Entry", "stepsToLeft", "(LVariantDesk$Genome;)I"⟩, 14), (⟨"VariantDesk$Entry", "moveLeft", "(ILVariantDesk$Genome;)V"⟩, 14)]
theorem lw_r3 : ∀ q ∈ lw_privs_3, lw_okq q := List.forall_mem_cons.mpr ⟨lw_p32, List.forall_mem_cons.mpr ⟨lw_p33, List.forall_mem_cons.mpr ⟨lw_p34, List.forall_mem_cons.mpr ⟨lw_p35, List.forall_mem_cons.mpr ⟨lw_p36, List.forall_mem_cons.mpr ⟨lw_p37, List.forall_mem_cons.mpr ⟨lw_p38, List.forall_mem_cons.mpr ⟨lw_p39, List.forall_mem_cons.mpr ⟨lw_p40, List.forall_mem_cons.mpr ⟨lw_p41, List.forall_mem_cons.mpr ⟨lw_p42, List.forall_mem_cons.mpr ⟨lw_p43, List.forall_mem_cons.mpr ⟨lw_p44, List.forall_mem_cons.mpr ⟨lw_p45, List.forall_mem_cons.mpr ⟨lw_p46, List.forall_mem_cons.mpr ⟨lw_p47, fun _ h => absurd h List.not_mem_nil⟩⟩⟩⟩⟩⟩⟩⟩⟩⟩⟩⟩⟩⟩⟩⟩
theorem lw_p48 : lw_okq (⟨"VariantDesk$Entry", "cutBeginnings", "()I"⟩, 14) := ⟨⟨by decide +kernel, by decide +kernel⟩, List.mem_of_getElem? (i := 130) (by decide +kernel), List.mem_of_getElem? (i := 1051) (by decide +kernel), List.mem_of_getElem? (i := 1052) (by decide +kernel)⟩
theorem lw_p49 : lw_okq (⟨"VariantDesk$Entry", "alikeAt", "(I)Z"⟩, 14) := ⟨⟨by decide +kernel, by decide +kernel⟩, List.mem_of_getElem? (i := 130) (by decide +kernel), List.mem_of_getElem? (i := 1055) (by decide +kernel), List.mem_of_getElem? (i := 1056) (by decide +kernel)⟩
theorem lw_p50 : lw_okq (⟨"VariantDesk$Sheet", "takeSplitEntry", "(LVariantDesk$Entry;)V"⟩, 3) := ⟨⟨by decide +kernel, by decide +kernel⟩, List.mem_of_getElem? (i := 121) (by decide +kernel), List.mem_of_getElem? (i := 1077) (by decide +kernel), List.mem_of_getElem? (i := 1078) (by decide +kernel)⟩
theorem lw_p51 : lw_okq (⟨"VariantDesk$Entry", "copyHead", "(LVariantDesk$Entry;)V"⟩, 14) := ⟨⟨by decide +kernel, by decide +kernel⟩, List.mem_of_getElem? (i := 130) (by decide +kernel), List.mem_of_getElem? (i := 1086) (by decide +kernel), List.mem_of_getElem? (i := 1087) (by decide +kernel)⟩
theorem lw_p52 : lw_okq (⟨"VariantDesk$Joiner", "takeAlts", "()Z"⟩, 3) := ⟨⟨by decide +kernel, by decide +kernel⟩, List.mem_of_getElem? (i := 224) (by decide +kernel), List.mem_of_getElem? (i := 1129) (by decide +kernel), List.mem_of_getElem? (i := 1130) (by decide +kernel)⟩
theorem lw_p53 : lw_okq (⟨"VariantDesk$Joiner", "joinCalls", "(I)V"⟩, 3) := ⟨⟨by decide +kernel, by decide +kernel⟩, List.mem_of_getElem? (i := 224) (by decide +kernel), List.mem_of_getElem? (i := 1138) (by decide +kernel), List.mem_of_getElem? (i := 1139) (by decide +kernel)⟩
theorem lw_p54 : lw_okq (⟨"VariantDesk$Joiner", "joinedPhase", "(I)Z"⟩, 3) := ⟨⟨by decide +kernel, by decide +kernel⟩, List.mem_of_getElem? (i := 224) (by decide +kernel), List.mem_of_getElem? (i := 1142) (by decide +kernel), List.mem_of_getElem? (i := 1143) (by decide +kernel)⟩
theorem lw_p55 : lw_okq (⟨"VariantDesk$Joiner", "joinedCall", "(II)I"⟩, 3) := ⟨⟨by decide +kernel, by decide +kernel⟩, List.mem_of_getElem? (i := 224) (by decide +kernel), List.mem_of_getElem? (i := 1147) (by decide +kernel), List.mem_of_getElem? (i := 1148) (by decide +kernel)⟩
theorem lw_p56 : lw_okq (⟨"VariantDesk$Haplotype", "insert", "(LVariantDesk$Sheet;I)V"⟩, 9) := ⟨⟨by decide +kernel, by decide +kernel⟩, List.mem_of_getElem? (i := 242) (by decide +kernel), List.mem_of_getElem? (i := 1173) (by decide +kernel), List.mem_of_getElem? (i := 1174) (by decide +kernel)⟩
theorem lw_p57 : lw_okq (⟨"VariantDesk$Entry", "growth", "()I"⟩, 14) := ⟨⟨by decide +kernel, by decide +kernel⟩, List.mem_of_getElem? (i := 130) (by decide +kernel), List.mem_of_getElem? (i := 1212) (by decide +kernel), List.mem_of_getElem? (i := 1213) (by decide +kernel)⟩
theorem lw_p58 : lw_okq (⟨"VariantDesk$Entry", "letterAfter", "(ILVariantDesk$Genome;)I"⟩, 14) := ⟨⟨by decide +kernel, by decide +kernel⟩, List.mem_of_getElem? (i := 130) (by decide +kernel), List.mem_of_getElem? (i := 1217) (by decide +kernel), List.mem_of_getElem? (i := 1218) (by decide +kernel)⟩
theorem lw_p59 : lw_okq (⟨"VariantDesk$Entry", "writeAlts", "(LVariantDesk$Octets;)V"⟩, 14) := ⟨⟨by decide +kernel, by decide +kernel⟩, List.mem_of_getElem? (i := 130) (by decide +kernel), List.mem_of_getElem? (i := 1257) (by decide +kernel), List.mem_of_getElem? (i := 1258) (by decide +kernel)⟩
theorem lw_p60 : lw_okq (⟨"VariantDesk$Entry", "writeCalls", "(ILVariantDesk$Octets;)V"⟩, 14) := ⟨⟨by decide +kernel, by decide +kernel⟩, List.mem_of_getElem? (i := 130) (by decide +kernel), List.mem_of_getElem? (i := 1270) (by decide +kernel), List.mem_of_getElem? (i := 1271) (by decide +kernel)⟩
theorem lw_p61 : lw_okq (⟨"VariantDeskModel", "goes", "(Z)Z"⟩, 53) := ⟨⟨by decide +kernel, by decide +kernel⟩, List.mem_of_getElem? (i := 1274) (by decide +kernel), List.mem_of_getElem? (i := 1451) (by decide +kernel), List.mem_of_getElem? (i := 1452) (by decide +kernel)⟩
theorem lw_p62 : lw_okq (⟨"VariantDeskModel", "readName", "(I)I"⟩, 53) := ⟨⟨by decide +kernel, by decide +kernel⟩, List.mem_of_getElem? (i := 1274) (by decide +kernel), List.mem_of_getElem? (i := 1459) (by decide +kernel), List.mem_of_getElem? (i := 1460) (by decide +kernel)⟩
theorem lw_p63 : lw_okq (⟨"VariantDeskModel", "at", "(I)I"⟩, 53) := ⟨⟨by decide +kernel, by decide +kernel⟩, List.mem_of_getElem? (i := 1274) (by decide +kernel), List.mem_of_getElem? (i := 1463) (by decide +kernel), List.mem_of_getElem? (i := 1464) (by decide +kernel)⟩
def lw_privs_4 : List (MethodName × Nat) := [(⟨"VariantDesk$Entry", "cutBeginnings", "()I"⟩, 14), (⟨"VariantDesk$Entry", "alikeAt", "(I)Z"⟩, 14), (⟨"VariantDesk$Sheet", "takeSplitEntry", "(LVariantDesk$Entry;)V"⟩, 3), (⟨"VariantDesk$Entry", "copyHead", "(LVariantDesk$Entry;)V"⟩, 14), (⟨"VariantDesk$Joiner", "takeAlts", "()Z"⟩, 3), (⟨"VariantDesk$Joiner", "joinCalls", "(I)V"⟩, 3), (⟨"VariantDesk$Joiner", "joinedPhase", "(I)Z"⟩, 3), (⟨"VariantDesk$Joiner", "joinedCall", "(II)I"⟩, 3), (⟨"VariantDesk$Haplotype", "insert", "(LVariantDesk$Sheet;I)V"⟩, 9), (⟨"VariantDesk$Entry", "growth", "()I"⟩, 14), (⟨"VariantDesk$Entry", "letterAfter", "(ILVariantDesk$Genome;)I"⟩, 14), (⟨"VariantDesk$Entry", "writeAlts", "(LVariantDesk$Octets;)V"⟩, 14), (⟨"VariantDesk$Entry", "writeCalls", "(ILVariantDesk$Octets;)V"⟩, 14), (⟨"VariantDeskModel", "goes", "(Z)Z"⟩, 53), (⟨"VariantDeskModel", "readName", "(I)I"⟩, 53), (⟨"VariantDeskModel", "at", "(I)I"⟩, 53)]
theorem lw_r4 : ∀ q ∈ lw_privs_4, lw_okq q := List.forall_mem_cons.mpr ⟨lw_p48, List.forall_mem_cons.mpr ⟨lw_p49, List.forall_mem_cons.mpr ⟨lw_p50, List.forall_mem_cons.mpr ⟨lw_p51, List.forall_mem_cons.mpr ⟨lw_p52, List.forall_mem_cons.mpr ⟨lw_p53, List.forall_mem_cons.mpr ⟨lw_p54, List.forall_mem_cons.mpr ⟨lw_p55, List.forall_mem_cons.mpr ⟨lw_p56, List.forall_mem_cons.mpr ⟨lw_p57, List.forall_mem_cons.mpr ⟨lw_p58, List.forall_mem_cons.mpr ⟨lw_p59, List.forall_mem_cons.mpr ⟨lw_p60, List.forall_mem_cons.mpr ⟨lw_p61, List.forall_mem_cons.mpr ⟨lw_p62, List.forall_mem_cons.mpr ⟨lw_p63, fun _ h => absurd h List.not_mem_nil⟩⟩⟩⟩⟩⟩⟩⟩⟩⟩⟩⟩⟩⟩⟩⟩
theorem lw_p64 : lw_okq (⟨"VariantDeskModel", "bad", "(II)V"⟩, 53) := ⟨⟨by decide +kernel, by decide +kernel⟩, List.mem_of_getElem? (i := 1274) (by decide +kernel), List.mem_of_getElem? (i := 1467) (by decide +kernel), List.mem_of_getElem? (i := 1468) (by decide +kernel)⟩
theorem lw_p65 : lw_okq (⟨"VariantDeskModel", "isOld", "(I)Z"⟩, 53) := ⟨⟨by decide +kernel, by decide +kernel⟩, List.mem_of_getElem? (i := 1274) (by decide +kernel), List.mem_of_getElem? (i := 1474) (by decide +kernel), List.mem_of_getElem? (i := 1475) (by decide +kernel)⟩
theorem lw_p66 : lw_okq (⟨"VariantDeskModel", "readLetters", "(I)I"⟩, 53) := ⟨⟨by decide +kernel, by decide +kernel⟩, List.mem_of_getElem? (i := 1274) (by decide +kernel), List.mem_of_getElem? (i := 1478) (by decide +kernel), List.mem_of_getElem? (i := 1479) (by decide +kernel)⟩
theorem lw_p67 : lw_okq (⟨"VariantDeskModel", "readTable", "()V"⟩, 53) := ⟨⟨by decide +kernel, by decide +kernel⟩, List.mem_of_getElem? (i := 1274) (by decide +kernel), List.mem_of_getElem? (i := 1489) (by decide +kernel), List.mem_of_getElem? (i := 1490) (by decide +kernel)⟩
theorem lw_p68 : lw_okq (⟨"VariantDeskModel", "needLine", "(I)I"⟩, 53) := ⟨⟨by decide +kernel, by decide +kernel⟩, List.mem_of_getElem? (i := 1274) (by decide +kernel), List.mem_of_getElem? (i := 1493) (by decide +kernel), List.mem_of_getElem? (i := 1494) (by decide +kernel)⟩
theorem lw_p69 : lw_okq (⟨"VariantDeskModel", "lineEnd", "(I)I"⟩, 53) := ⟨⟨by decide +kernel, by decide +kernel⟩, List.mem_of_getElem? (i := 1274) (by decide +kernel), List.mem_of_getElem? (i := 1497) (by decide +kernel), List.mem_of_getElem? (i := 1498) (by decide +kernel)⟩
theorem lw_p70 : lw_okq (⟨"VariantDeskModel", "isText", "(III)Z"⟩, 53) := ⟨⟨by decide +kernel, by decide +kernel⟩, List.mem_of_getElem? (i := 1274) (by decide +kernel), List.mem_of_getElem? (i := 1501) (by decide +kernel), List.mem_of_getElem? (i := 1502) (by decide +kernel)⟩
theorem lw_p71 : lw_okq (⟨"VariantDeskModel", "begins", "(III)Z"⟩, 53) := ⟨⟨by decide +kernel, by decide +kernel⟩, List.mem_of_getElem? (i := 1274) (by decide +kernel), List.mem_of_getElem? (i := 1508) (by decide +kernel), List.mem_of_getElem? (i := 1509) (by decide +kernel)⟩
theorem lw_p72 : lw_okq (⟨"VariantDeskModel", "readHead", "(II)Z"⟩, 53) := ⟨⟨by decide +kernel, by decide +kernel⟩, List.mem_of_getElem? (i := 1274) (by decide +kernel), List.mem_of_getElem? (i := 1530) (by decide +kernel), List.mem_of_getElem? (i := 1531) (by decide +kernel)⟩
theorem lw_p73 : lw_okq (⟨"VariantDeskModel", "columnEnd", "(II)I"⟩, 53) := ⟨⟨by decide +kernel, by decide +kernel⟩, List.mem_of_getElem? (i := 1274) (by decide +kernel), List.mem_of_getElem? (i := 1534) (by decide +kernel), List.mem_of_getElem? (i := 1535) (by decide +kernel)⟩
theorem lw_p74 : lw_okq (⟨"VariantDeskModel", "isShown", "(II)Z"⟩, 53) := ⟨⟨by decide +kernel, by decide +kernel⟩, List.mem_of_getElem? (i := 1274) (by decide +kernel), List.mem_of_getElem? (i := 1538) (by decide +kernel), List.mem_of_getElem? (i := 1539) (by decide +kernel)⟩
theorem lw_p75 : lw_okq (⟨"VariantDeskModel", "sameName", "(IIII)Z"⟩, 53) := ⟨⟨by decide +kernel, by decide +kernel⟩, List.mem_of_getElem? (i := 1274) (by decide +kernel), List.mem_of_getElem? (i := 1542) (by decide +kernel), List.mem_of_getElem? (i := 1543) (by decide +kernel)⟩
theorem lw_p76 : lw_okq (⟨"VariantDeskModel", "readRecord", "(II)V"⟩, 53) := ⟨⟨by decide +kernel, by decide +kernel⟩, List.mem_of_getElem? (i := 1274) (by decide +kernel), List.mem_of_getElem? (i := 1546) (by decide +kernel), List.mem_of_getElem? (i := 1547) (by decide +kernel)⟩
theorem lw_p77 : lw_okq (⟨"VariantDeskModel", "columns", "(II)I"⟩, 53) := ⟨⟨by decide +kernel, by decide +kernel⟩, List.mem_of_getElem? (i := 1274) (by decide +kernel), List.mem_of_getElem? (i := 1550) (by decide +kernel), List.mem_of_getElem? (i := 1551) (by decide +kernel)⟩
theorem lw_p78 : lw_okq (⟨"VariantDeskModel", "readColumn", "(IIII)V"⟩, 53) := ⟨⟨by decide +kernel, by decide +kernel⟩, List.mem_of_getElem? (i := 1274) (by decide +kernel), List.mem_of_getElem? (i := 1554) (by decide +kernel), List.mem_of_getElem? (i := 1555) (by decide +kernel)⟩
theorem lw_p79 : lw_okq (⟨"VariantDeskModel", "sequenceNamed", "(II)I"⟩, 53) := ⟨⟨by decide +kernel, by decide +kernel⟩, List.mem_of_getElem? (i := 1274) (by decide +kernel), List.mem_of_getElem? (i := 1558) (by decide +kernel), List.mem_of_getElem? (i := 1559) (by decide +kernel)⟩
def lw_privs_5 : List (MethodName × Nat) := [(⟨"VariantDeskModel", "bad", "(II)V"⟩, 53), (⟨"VariantDeskModel", "isOld", "(I)Z"⟩, 53), (⟨"VariantDeskModel", "readLetters", "(I)I"⟩, 53), (⟨"VariantDeskModel", "readTable", "()V"⟩, 53), (⟨"VariantDeskModel", "needLine", "(I)I"⟩, 53), (⟨"VariantDeskModel", "lineEnd", "(I)I"⟩, 53), (⟨"VariantDeskModel", "isText", "(III)Z"⟩, 53), (⟨"VariantDeskModel", "begins", "(III)Z"⟩, 53), (⟨"VariantDeskModel", "readHead", "(II)Z"⟩, 53), (⟨"VariantDeskModel", "columnEnd", "(II)I"⟩, 53), (⟨"VariantDeskModel", "isShown", "(II)Z"⟩, 53), (⟨"VariantDeskModel", "sameName", "(IIII)Z"⟩, 53), (⟨"VariantDeskModel", "readRecord", "(II)V"⟩, 53), (⟨"VariantDeskModel", "columns", "(II)I"⟩, 53), (⟨"VariantDeskModel", "readColumn", "(IIII)V"⟩, 53), (⟨"VariantDeskModel", "sequenceNamed", "(II)I"⟩, 53)]
theorem lw_r5 : ∀ q ∈ lw_privs_5, lw_okq q := List.forall_mem_cons.mpr ⟨lw_p64, List.forall_mem_cons.mpr ⟨lw_p65, List.forall_mem_cons.mpr ⟨lw_p66, List.forall_mem_cons.mpr ⟨lw_p67, List.forall_mem_cons.mpr ⟨lw_p68, List.forall_mem_cons.mpr ⟨lw_p69, List.forall_mem_cons.mpr ⟨lw_p70, List.forall_mem_cons.mpr ⟨lw_p71, List.forall_mem_cons.mpr ⟨lw_p72, List.forall_mem_cons.mpr ⟨lw_p73, List.forall_mem_cons.mpr ⟨lw_p74, List.forall_mem_cons.mpr ⟨lw_p75, List.forall_mem_cons.mpr ⟨lw_p76, List.forall_mem_cons.mpr ⟨lw_p77, List.forall_mem_cons.mpr ⟨lw_p78, List.forall_mem_cons.mpr ⟨lw_p79, fun _ h => absurd h List.not_mem_nil⟩⟩⟩⟩⟩⟩⟩⟩⟩⟩⟩⟩⟩⟩⟩⟩
theorem lw_p80 : lw_okq (⟨"VariantDeskModel", "numberOf", "(III)I"⟩, 53) := ⟨⟨by decide +kernel, by decide +kernel⟩, List.mem_of_getElem? (i := 1274) (by decide +kernel), List.mem_of_getElem? (i := 1562) (by decide +kernel), List.mem_of_getElem? (i := 1563) (by decide +kernel)⟩
theorem lw_p81 : lw_okq (⟨"VariantDeskModel", "readRef", "(III)V"⟩, 53) := ⟨⟨by decide +kernel, by decide +kernel⟩, List.mem_of_getElem? (i := 1274) (by decide +kernel), List.mem_of_getElem? (i := 1566) (by decide +kernel), List.mem_of_getElem? (i := 1567) (by decide +kernel)⟩
theorem lw_p82 : lw_okq (⟨"VariantDeskModel", "readRow", "(IIII)Z"⟩, 53) := ⟨⟨by decide +kernel, by decide +kernel⟩, List.mem_of_getElem? (i := 1274) (by decide +kernel), List.mem_of_getElem? (i := 1570) (by decide +kernel), List.mem_of_getElem? (i := 1571) (by decide +kernel)⟩
theorem lw_p83 : lw_okq (⟨"VariantDeskModel", "refAt", "(II)I"⟩, 53) := ⟨⟨by decide +kernel, by decide +kernel⟩, List.mem_of_getElem? (i := 1274) (by decide +kernel), List.mem_of_getElem? (i := 1574) (by decide +kernel), List.mem_of_getElem? (i := 1575) (by decide +kernel)⟩
theorem lw_p84 : lw_okq (⟨"VariantDeskModel", "readAlts", "(III)V"⟩, 53) := ⟨⟨by decide +kernel, by decide +kernel⟩, List.mem_of_getElem? (i := 1274) (by decide +kernel), List.mem_of_getElem? (i := 1578) (by decide +kernel), List.mem_of_getElem? (i := 1579) (by decide +kernel)⟩
theorem lw_p85 : lw_okq (⟨"VariantDeskModel", "sameRow", "(IIII)Z"⟩, 53) := ⟨⟨by decide +kernel, by decide +kernel⟩, List.mem_of_getElem? (i := 1274) (by decide +kernel), List.mem_of_getElem? (i := 1582) (by decide +kernel), List.mem_of_getElem? (i := 1583) (by decide +kernel)⟩
theorem lw_p86 : lw_okq (⟨"VariantDeskModel", "readCalls", "(IIII)V"⟩, 53) := ⟨⟨by decide +kernel, by decide +kernel⟩, List.mem_of_getElem? (i := 1274) (by decide +kernel), List.mem_of_getElem? (i := 1587) (by decide +kernel), List.mem_of_getElem? (i := 1588) (by decide +kernel)⟩
theorem lw_p87 : lw_okq (⟨"VariantDeskModel", "callOf", "(II)I"⟩, 53) := ⟨⟨by decide +kernel, by decide +kernel⟩, List.mem_of_getElem? (i := 1274) (by decide +kernel), List.mem_of_getElem? (i := 1591) (by decide +kernel), List.mem_of_getElem? (i := 1592) (by decide +kernel)⟩
theorem lw_p88 : lw_okq (⟨"VariantDeskModel", "copyTable", "(II)V"⟩, 53) := ⟨⟨by decide +kernel, by decide +kernel⟩, List.mem_of_getElem? (i := 1274) (by decide +kernel), List.mem_of_getElem? (i := 1595) (by decide +kernel), List.mem_of_getElem? (i := 1596) (by decide +kernel)⟩
theorem lw_p89 : lw_okq (⟨"VariantDeskModel", "copySample", "(IIII)V"⟩, 53) := ⟨⟨by decide +kernel, by decide +kernel⟩, List.mem_of_getElem? (i := 1274) (by decide +kernel), List.mem_of_getElem? (i := 1599) (by decide +kernel), List.mem_of_getElem? (i := 1600) (by decide +kernel)⟩
theorem lw_p90 : lw_okq (⟨"VariantDeskModel", "copy", "(II)V"⟩, 53) := ⟨⟨by decide +kernel, by decide +kernel⟩, List.mem_of_getElem? (i := 1274) (by decide +kernel), List.mem_of_getElem? (i := 1603) (by decide +kernel), List.mem_of_getElem? (i := 1604) (by decide +kernel)⟩
theorem lw_p91 : lw_okq (⟨"VariantDeskModel", "copyCalls", "(IIII)V"⟩, 53) := ⟨⟨by decide +kernel, by decide +kernel⟩, List.mem_of_getElem? (i := 1274) (by decide +kernel), List.mem_of_getElem? (i := 1607) (by decide +kernel), List.mem_of_getElem? (i := 1608) (by decide +kernel)⟩
theorem lw_p92 : lw_okq (⟨"VariantDeskModel", "isRecord", "(II)Z"⟩, 53) := ⟨⟨by decide +kernel, by decide +kernel⟩, List.mem_of_getElem? (i := 1274) (by decide +kernel), List.mem_of_getElem? (i := 1631) (by decide +kernel), List.mem_of_getElem? (i := 1632) (by decide +kernel)⟩
theorem lw_p93 : lw_okq (⟨"VariantDeskModel", "makeNormal", "(I)Z"⟩, 53) := ⟨⟨by decide +kernel, by decide +kernel⟩, List.mem_of_getElem? (i := 1274) (by decide +kernel), List.mem_of_getElem? (i := 1647) (by decide +kernel), List.mem_of_getElem? (i := 1648) (by decide +kernel)⟩
theorem lw_p94 : lw_okq (⟨"VariantDeskModel", "endAlike", "(I)Z"⟩, 53) := ⟨⟨by decide +kernel, by decide +kernel⟩, List.mem_of_getElem? (i := 1274) (by decide +kernel), List.mem_of_getElem? (i := 1651) (by decide +kernel), List.mem_of_getElem? (i := 1652) (by decide +kernel)⟩
theorem lw_p95 : lw_okq (⟨"VariantDeskModel", "lastOf", "(II)I"⟩, 53) := ⟨⟨by decide +kernel, by decide +kernel⟩, List.mem_of_getElem? (i := 1274) (by decide +kernel), List.mem_of_getElem? (i := 1655) (by decide +kernel), List.mem_of_getElem? (i := 1656) (by decide +kernel)⟩
def lw_privs_6 : List (MethodName × Nat) := [(⟨"VariantDeskModel", "numberOf", "(III)I"⟩, 53), (⟨"VariantDeskModel", "readRef", "(III)V"⟩, 53), (⟨"VariantDeskModel", "readRow", "(IIII)Z"⟩, 53), (⟨"VariantDeskModel", "refAt", "(II)I"⟩, 53), (⟨"VariantDeskModel", "readAlts", "(III)V"⟩, 53), (⟨"VariantDeskModel", "sameRow", "(IIII)Z"⟩, 53), (⟨"VariantDeskModel", "readCalls", "(IIII)V"⟩, 53), (⟨"VariantDeskModel", "callOf", "(II)I"⟩, 53), (⟨"VariantDeskModel", "copyTable", "(II)V"⟩, 53), (⟨"VariantDeskModel", "copySample", "(IIII)V"⟩, 53), (⟨"VariantDeskModel", "copy", "(II)V"⟩, 53), (⟨"VariantDeskModel", "copyCalls", "(IIII)V"⟩, 53), (⟨"VariantDeskModel", "isRecord", "(II)Z"⟩, 53), (⟨"VariantDeskModel", "makeNormal", "(I)Z"⟩, 53), (⟨"VariantDeskModel", "endAlike", "(I)Z"⟩, 53), (⟨"VariantDeskModel", "lastOf", "(II)I"⟩, 53)]
theorem lw_r6 : ∀ q ∈ lw_privs_6, lw_okq q := List.forall_mem_cons.mpr ⟨lw_p80, List.forall_mem_cons.mpr ⟨lw_p81, List.forall_mem_cons.mpr ⟨lw_p82, List.forall_mem_cons.mpr ⟨lw_p83, List.forall_mem_cons.mpr ⟨lw_p84, List.forall_mem_cons.mpr ⟨lw_p85, List.forall_mem_cons.mpr ⟨lw_p86, List.forall_mem_cons.mpr ⟨lw_p87, List.forall_mem_cons.mpr ⟨lw_p88, List.forall_mem_cons.mpr ⟨lw_p89, List.forall_mem_cons.mpr ⟨lw_p90, List.forall_mem_cons.mpr ⟨lw_p91, List.forall_mem_cons.mpr ⟨lw_p92, List.forall_mem_cons.mpr ⟨lw_p93, List.forall_mem_cons.mpr ⟨lw_p94, List.forall_mem_cons.mpr ⟨lw_p95, fun _ h => absurd h List.not_mem_nil⟩⟩⟩⟩⟩⟩⟩⟩⟩⟩⟩⟩⟩⟩⟩⟩
theorem lw_p96 : lw_okq (⟨"VariantDeskModel", "allLong", "(I)Z"⟩, 53) := ⟨⟨by decide +kernel, by decide +kernel⟩, List.mem_of_getElem? (i := 1274) (by decide +kernel), List.mem_of_getElem? (i := 1659) (by decide +kernel), List.mem_of_getElem? (i := 1660) (by decide +kernel)⟩
theorem lw_p97 : lw_okq (⟨"VariantDeskModel", "toFront", "(II)V"⟩, 53) := ⟨⟨by decide +kernel, by decide +kernel⟩, List.mem_of_getElem? (i := 1274) (by decide +kernel), List.mem_of_getElem? (i := 1663) (by decide +kernel), List.mem_of_getElem? (i := 1664) (by decide +kernel)⟩
theorem lw_p98 : lw_okq (⟨"VariantDeskModel", "beginAlike", "(I)Z"⟩, 53) := ⟨⟨by decide +kernel, by decide +kernel⟩, List.mem_of_getElem? (i := 1274) (by decide +kernel), List.mem_of_getElem? (i := 1667) (by decide +kernel), List.mem_of_getElem? (i := 1668) (by decide +kernel)⟩
theorem lw_p99 : lw_okq (⟨"VariantDeskModel", "fromFront", "(I)V"⟩, 53) := ⟨⟨by decide +kernel, by decide +kernel⟩, List.mem_of_getElem? (i := 1274) (by decide +kernel), List.mem_of_getElem? (i := 1671) (by decide +kernel), List.mem_of_getElem? (i := 1672) (by decide +kernel)⟩
theorem lw_p100 : lw_okq (⟨"VariantDeskModel", "tryJoin", "(III)Z"⟩, 53) := ⟨⟨by decide +kernel, by decide +kernel⟩, List.mem_of_getElem? (i := 1274) (by decide +kernel), List.mem_of_getElem? (i := 1683) (by decide +kernel), List.mem_of_getElem? (i := 1684) (by decide +kernel)⟩
theorem lw_p101 : lw_okq (⟨"VariantDeskModel", "longer", "(IIIII)V"⟩, 53) := ⟨⟨by decide +kernel, by decide +kernel⟩, List.mem_of_getElem? (i := 1274) (by decide +kernel), List.mem_of_getElem? (i := 1687) (by decide +kernel), List.mem_of_getElem? (i := 1688) (by decide +kernel)⟩
theorem lw_p102 : lw_okq (⟨"VariantDeskModel", "joinCalls", "(IIII)V"⟩, 53) := ⟨⟨by decide +kernel, by decide +kernel⟩, List.mem_of_getElem? (i := 1274) (by decide +kernel), List.mem_of_getElem? (i := 1691) (by decide +kernel), List.mem_of_getElem? (i := 1692) (by decide +kernel)⟩
theorem lw_p103 : lw_okq (⟨"VariantDeskModel", "callAt", "(III)I"⟩, 53) := ⟨⟨by decide +kernel, by decide +kernel⟩, List.mem_of_getElem? (i := 1274) (by decide +kernel), List.mem_of_getElem? (i := 1695) (by decide +kernel), List.mem_of_getElem? (i := 1696) (by decide +kernel)⟩
theorem lw_p104 : lw_okq (⟨"VariantDeskModel", "sortInto", "(II)I"⟩, 53) := ⟨⟨by decide +kernel, by decide +kernel⟩, List.mem_of_getElem? (i := 1274) (by decide +kernel), List.mem_of_getElem? (i := 1703) (by decide +kernel), List.mem_of_getElem? (i := 1704) (by decide +kernel)⟩
theorem lw_p105 : lw_okq (⟨"VariantDeskModel", "rank", "(II)I"⟩, 53) := ⟨⟨by decide +kernel, by decide +kernel⟩, List.mem_of_getElem? (i := 1274) (by decide +kernel), List.mem_of_getElem? (i := 1707) (by decide +kernel), List.mem_of_getElem? (i := 1708) (by decide +kernel)⟩
theorem lw_p106 : lw_okq (⟨"VariantDeskModel", "isBefore", "(II)Z"⟩, 53) := ⟨⟨by decide +kernel, by decide +kernel⟩, List.mem_of_getElem? (i := 1274) (by decide +kernel), List.mem_of_getElem? (i := 1711) (by decide +kernel), List.mem_of_getElem? (i := 1712) (by decide +kernel)⟩
theorem lw_p107 : lw_okq (⟨"VariantDeskModel", "sameRecord", "(II)Z"⟩, 53) := ⟨⟨by decide +kernel, by decide +kernel⟩, List.mem_of_getElem? (i := 1274) (by decide +kernel), List.mem_of_getElem? (i := 1719) (by decide +kernel), List.mem_of_getElem? (i := 1720) (by decide +kernel)⟩
theorem lw_p108 : lw_okq (⟨"VariantDeskModel", "noCalls", "(II)V"⟩, 53) := ⟨⟨by decide +kernel, by decide +kernel⟩, List.mem_of_getElem? (i := 1274) (by decide +kernel), List.mem_of_getElem? (i := 1723) (by decide +kernel), List.mem_of_getElem? (i := 1724) (by decide +kernel)⟩
theorem lw_p109 : lw_okq (⟨"VariantDeskModel", "nextCalled", "(IIIII)I"⟩, 53) := ⟨⟨by decide +kernel, by decide +kernel⟩, List.mem_of_getElem? (i := 1274) (by decide +kernel), List.mem_of_getElem? (i := 1731) (by decide +kernel), List.mem_of_getElem? (i := 1732) (by decide +kernel)⟩
theorem lw_p110 : lw_okq (⟨"VariantDeskModel", "add", "(II)V"⟩, 53) := ⟨⟨by decide +kernel, by decide +kernel⟩, List.mem_of_getElem? (i := 1274) (by decide +kernel), List.mem_of_getElem? (i := 1735) (by decide +kernel), List.mem_of_getElem? (i := 1736) (by decide +kernel)⟩
theorem lw_p111 : lw_okq (⟨"VariantDeskModel", "addRow", "(II)I"⟩, 53) := ⟨⟨by decide +kernel, by decide +kernel⟩, List.mem_of_getElem? (i := 1274) (by decide +kernel), List.mem_of_getElem? (i := 1739) (by decide +kernel), List.mem_of_getElem? (i := 1740) (by decide +kernel)⟩
def lw_privs_7 : List (MethodName × Nat) := [(⟨"VariantDeskModel", "allLong", "(I)Z"⟩, 53), (⟨"VariantDeskModel", "toFront", "(II)V"⟩, 53), (⟨"VariantDeskModel", "beginAlike", "(I)Z"⟩, 53), (⟨"VariantDeskModel", "fromFront", "(I)V"⟩, 53), (⟨"VariantDeskModel", "tryJoin", "(III)Z"⟩, 53), (⟨"VariantDeskModel", "longer", "(IIIII)V"⟩, 53), (⟨"VariantDeskModel", "joinCalls", "(IIII)V"⟩, 53), (⟨"VariantDeskModel", "callAt", "(III)I"⟩, 53), (⟨"VariantDeskModel", "sortInto", "(II)I"⟩, 53), (⟨"VariantDeskModel", "rank", "(II)I"⟩, 53), (⟨"VariantDeskModel", "isBefore", "(II)Z"⟩, 53), (⟨"VariantDeskModel", "sameRecord", "(II)Z"⟩, 53), (⟨"VariantDeskModel", "noCalls", "(II)V"⟩, 53), (⟨"VariantDeskModel", "nextCalled", "(IIIII)I"⟩, 53), (⟨"VariantDeskModel", "add", "(II)V"⟩, 53), (⟨"VariantDeskModel", "addRow", "(II)I"⟩, 53)]
theorem lw_r7 : ∀ q ∈ lw_privs_7, lw_okq q := List.forall_mem_cons.mpr ⟨lw_p96, List.forall_mem_cons.mpr ⟨lw_p97, List.forall_mem_cons.mpr ⟨lw_p98, List.forall_mem_cons.mpr ⟨lw_p99, List.forall_mem_cons.mpr ⟨lw_p100, List.forall_mem_cons.mpr ⟨lw_p101, List.forall_mem_cons.mpr ⟨lw_p102, List.forall_mem_cons.mpr ⟨lw_p103, List.forall_mem_cons.mpr ⟨lw_p104, List.forall_mem_cons.mpr ⟨lw_p105, List.forall_mem_cons.mpr ⟨lw_p106, List.forall_mem_cons.mpr ⟨lw_p107, List.forall_mem_cons.mpr ⟨lw_p108, List.forall_mem_cons.mpr ⟨lw_p109, List.forall_mem_cons.mpr ⟨lw_p110, List.forall_mem_cons.mpr ⟨lw_p111, fun _ h => absurd h List.not_mem_nil⟩⟩⟩⟩⟩⟩⟩⟩⟩⟩⟩⟩⟩⟩⟩⟩
theorem lw_p112 : lw_okq (⟨"VariantDeskModel", "calledMany", "(IIII)I"⟩, 53) := ⟨⟨by decide +kernel, by decide +kernel⟩, List.mem_of_getElem? (i := 1274) (by decide +kernel), List.mem_of_getElem? (i := 1743) (by decide +kernel), List.mem_of_getElem? (i := 1744) (by decide +kernel)⟩
theorem lw_p113 : lw_okq (⟨"VariantDeskModel", "lengthWith", "(I)I"⟩, 53) := ⟨⟨by decide +kernel, by decide +kernel⟩, List.mem_of_getElem? (i := 1274) (by decide +kernel), List.mem_of_getElem? (i := 1759) (by decide +kernel), List.mem_of_getElem? (i := 1760) (by decide +kernel)⟩
theorem lw_p114 : lw_okq (⟨"VariantDeskModel", "letterWith", "(II)I"⟩, 53) := ⟨⟨by decide +kernel, by decide +kernel⟩, List.mem_of_getElem? (i := 1274) (by decide +kernel), List.mem_of_getElem? (i := 1763) (by decide +kernel), List.mem_of_getElem? (i := 1764) (by decide +kernel)⟩
theorem lw_p115 : lw_okq (⟨"VariantDeskModel", "putText", "(I)V"⟩, 53) := ⟨⟨by decide +kernel, by decide +kernel⟩, List.mem_of_getElem? (i := 1274) (by decide +kernel), List.mem_of_getElem? (i := 1771) (by decide +kernel), List.mem_of_getElem? (i := 1772) (by decide +kernel)⟩
theorem lw_p116 : lw_okq (⟨"VariantDeskModel", "put", "(I)V"⟩, 53) := ⟨⟨by decide +kernel, by decide +kernel⟩, List.mem_of_getElem? (i := 1274) (by decide +kernel), List.mem_of_getElem? (i := 1775) (by decide +kernel), List.mem_of_getElem? (i := 1776) (by decide +kernel)⟩
theorem lw_p117 : lw_okq (⟨"VariantDeskModel", "putRecord", "(II)V"⟩, 53) := ⟨⟨by decide +kernel, by decide +kernel⟩, List.mem_of_getElem? (i := 1274) (by decide +kernel), List.mem_of_getElem? (i := 1779) (by decide +kernel), List.mem_of_getElem? (i := 1780) (by decide +kernel)⟩
theorem lw_p118 : lw_okq (⟨"VariantDeskModel", "putNumber", "(I)V"⟩, 53) := ⟨⟨by decide +kernel, by decide +kernel⟩, List.mem_of_getElem? (i := 1274) (by decide +kernel), List.mem_of_getElem? (i := 1783) (by decide +kernel), List.mem_of_getElem? (i := 1784) (by decide +kernel)⟩
theorem lw_p119 : lw_okq (⟨"VariantDeskModel", "putRow", "(II)V"⟩, 53) := ⟨⟨by decide +kernel, by decide +kernel⟩, List.mem_of_getElem? (i := 1274) (by decide +kernel), List.mem_of_getElem? (i := 1787) (by decide +kernel), List.mem_of_getElem? (i := 1788) (by decide +kernel)⟩
theorem lw_p120 : lw_okq (⟨"VariantDeskModel", "putCall", "(I)V"⟩, 53) := ⟨⟨by decide +kernel, by decide +kernel⟩, List.mem_of_getElem? (i := 1274) (by decide +kernel), List.mem_of_getElem? (i := 1791) (by decide +kernel), List.mem_of_getElem? (i := 1792) (by decide +kernel)⟩
def lw_privs_8 : List (MethodName × Nat) := [(⟨"VariantDeskModel", "calledMany", "(IIII)I"⟩, 53), (⟨"VariantDeskModel", "lengthWith", "(I)I"⟩, 53), (⟨"VariantDeskModel", "letterWith", "(II)I"⟩, 53), (⟨"VariantDeskModel", "putText", "(I)V"⟩, 53), (⟨"VariantDeskModel", "put", "(I)V"⟩, 53), (⟨"VariantDeskModel", "putRecord", "(II)V"⟩, 53), (⟨"VariantDeskModel", "putNumber", "(I)V"⟩, 53), (⟨"VariantDeskModel", "putRow", "(II)V"⟩, 53), (⟨"VariantDeskModel", "putCall", "(I)V"⟩, 53)]
theorem lw_r8 : ∀ q ∈ lw_privs_8, lw_okq q := List.forall_mem_cons.mpr ⟨lw_p112, List.forall_mem_cons.mpr ⟨lw_p113, List.forall_mem_cons.mpr ⟨lw_p114, List.forall_mem_cons.mpr ⟨lw_p115, List.forall_mem_cons.mpr ⟨lw_p116, List.forall_mem_cons.mpr ⟨lw_p117, List.forall_mem_cons.mpr ⟨lw_p118, List.forall_mem_cons.mpr ⟨lw_p119, List.forall_mem_cons.mpr ⟨lw_p120, fun _ h => absurd h List.not_mem_nil⟩⟩⟩⟩⟩⟩⟩⟩⟩
def lw_privs : List (MethodName × Nat) := lw_privs_1 ++ (lw_privs_2 ++ (lw_privs_3 ++ (lw_privs_4 ++ (lw_privs_5 ++ (lw_privs_6 ++ (lw_privs_7 ++ (lw_privs_8)))))))
def lw_tbl : List Cond := k2_sels lw_privs ++ tables_1
theorem lw_privs_ok : ∀ q ∈ lw_privs, lw_okq q := by
  show ∀ q ∈ lw_privs_1 ++ (lw_privs_2 ++ (lw_privs_3 ++ (lw_privs_4 ++ (lw_privs_5 ++ (lw_privs_6 ++ (lw_privs_7 ++ (lw_privs_8))))))), lw_okq q
  exact List.forall_mem_append.mpr ⟨lw_r1, List.forall_mem_append.mpr ⟨lw_r2, List.forall_mem_append.mpr ⟨lw_r3, List.forall_mem_append.mpr ⟨lw_r4, List.forall_mem_append.mpr ⟨lw_r5, List.forall_mem_append.mpr ⟨lw_r6, List.forall_mem_append.mpr ⟨lw_r7, lw_r8⟩⟩⟩⟩⟩⟩⟩
-- ===== end of PART A; then your names; then what follows =====
end
section
/-! ===== BEGIN words of one list among another's, by their places ===== -/
theorem goodIn_r {big : List Cond} (ws : List Cond) (ps : List Nat) (hp : ws = ps.filterMap (fun i => big[i]?)) (h : ws.all goodWord = true) : GoodIn big ws := by
  intro w hw
  have h1 := List.all_eq_true.mp h w hw
  rw [hp] at hw
  obtain ⟨i, -, hi⟩ := List.mem_filterMap.mp hw
  have hm : w ∈ big := by first | exact List.mem_of_getElem? hi | exact List.getElem?_mem hi
  exact ⟨hm, good_of_word h1⟩
theorem goodIn_app {big a b : List Cond} (ha : GoodIn big a) (hb : GoodIn big b) : GoodIn big (a ++ b) := fun w h => (List.mem_append.mp h).elim (ha w) (hb w)
theorem goodIn_ca {big a b : List Cond} {c : Cond} (ha : GoodIn big (c :: a)) (hb : GoodIn big b) : GoodIn big (c :: (a ++ b)) := fun w h => (List.mem_cons.mp h).elim (fun e => ha w (List.mem_cons.mpr (Or.inl e))) (fun h => (List.mem_append.mp h).elim (fun h => ha w (List.mem_cons.mpr (Or.inr h))) (hb w))
theorem goodIn_sub {big ws : List Cond} (hm : ∀ w ∈ ws, w ∈ big) (h : ws.all goodWord = true) : GoodIn big ws := fun w hw => ⟨hm w hw, good_of_word (List.all_eq_true.mp h w hw)⟩
/-! ===== END ===== -/

/-! ===== BEGIN exceptions that leave a method, and their catching by the caller (launches without stack traces) ===== -/
section VXA
/-! The laws vx_back, vx_callV, vx_callS, vx_callSW, vx_throw0, vx_throwS follow proofs of the library, with one case more: JvmDerived/Free/Laws.lean (Back.of_free), Shelf42/LK1.lean (callV, callS), Shelf/KitTraced.lean (throwNew0V, throwNewS). -/
def vx_T (XC : String → State → State → Prop) (st : State) (q : Addr) (t : State) (mc ms : Nat) (free : Addr → Prop) : Prop :=
  ∃ (E : String) (ce : Cell) (L : List Loc), XC E st t ∧ t.heap[q]? = some ce ∧ ce.vm = .none ∧ st.vm.findClass E = some ce.cls ∧ st.WarmedH t.vm ∧ st.sameButNew ({ t with vm := st.vm } : State) L mc ms ∧ ∀ z ∈ L, free z.base
def vx_Q (Qc : Array Value → State → Outcome → State → Prop) (XC : String → State → State → Prop) (mc ms : Nat) (free : Addr → Prop) : Array Value → State → Outcome → State → Prop := fun a st o t =>
  (Qc a st o t ∧ ∃ L, FrameEnd st o t L mc ms ∧ ∀ q ∈ L, free q.base) ∨ ∃ q, o = .threw q ∧ vx_T XC st q t mc ms free
def vx_Met (l : Launch) (y : MethodName) (ws : List Cond) (rm : Room) (Pc : Array Value → State → Prop) (Qc : Array Value → State → Outcome → State → Prop) (XC : String → State → State → Prop) (mc ms : Nat) (free : Addr → Prop) : Prop :=
  MetFree l y (headSpec ws rm) Pc (fun _ _ _ _ _ => True) (vx_Q Qc XC mc ms free)
def vx_Post (XC : String → State → State → Prop) (mc ms : Nat) (free : Addr → Prop) : Pt → Array Value → Addr → Pt → Prop := fun A a q B =>
  ∃ (g : JFrame) (mk : MethodId) (t : State) (L : List Loc) (E : String) (ce : Cell), B.U.heap = t.heap ∧ B.U.vm = t.vm ∧ XC E (A.U.calling g mk a) t ∧ t.heap[q]? = some ce ∧ ce.vm = .none ∧ A.U.vm.findClass E = some ce.cls ∧ B.locs = A.locs ++ L ∧ (∀ z ∈ L, free z.base) ∧ B.cells = A.cells + mc ∧ B.slots = A.slots + ms
def vx_Back (l : Launch) (R : Room) (p : Program) (e : Env) (below : List Frame) (s : State) (sargs : Array Value) (y : MethodName) (len W9 : Nat)
    (Pre : Pt → Array Value → Prop) (Post : Pt → Array Value → Option Value → Pt → Prop) (PostX : Pt → Array Value → Addr → Pt → Prop) : Prop :=
  ∀ (m : MethodId) (meth : Method) (c : Code) (A : Pt) (g : JFrame) (ig : Instr) (mk : MethodId) (a : Array Value),
    Stand p l e R s m sargs below meth c A.U A.locs A.cells A.slots → g.method = m → g.locals.size = c.maxLocals → decode c.code g.pc = .ok (ig, len) →
    2 * g.monitorRoom + (g.stack.map fun v => v.category).sum ≤ W9 → A.U.methodNamed? y = some mk → Pre A a →
    (∃ (v : Option Value) (B : Pt), Stand p l e R s m sargs below meth c B.U B.locs B.cells B.slots ∧ Post A a v B ∧
      Steps p.tables e below (doInvoke e (A.U.setTop g) [] mk a).1 (B.U.setTop { g with pc := g.pc + len, stack := v.toList ++ g.stack })) ∨
    (∃ (q : Addr) (B : Pt), Stand p l e R s m sargs below meth c B.U B.locs B.cells B.slots ∧ PostX A a q B ∧
      Steps p.tables e below (doInvoke e (A.U.setTop g) [] mk a).1 ((B.U.setTop g).pushFrame (.throwing q)))
section Payer
variable {l : Launch} {R : Room} {p : Program} {e : Env} {below : List Frame} {s : State} {sargs : Array Value} {y : MethodName} {len W9 : Nat}
theorem vx_back {ws : List Cond} {rm : Room} {Pc : Array Value → State → Prop} {Qc : Array Value → State → Outcome → State → Prop} {XC : String → State → State → Prop} {mc ms : Nat} {free : Addr → Prop} {bytes : ByteArray} {maxL : Nat} {ret : Option FieldType}
    (hM : vx_Met l y ws rm Pc Qc XC mc ms free) (hblind : FrameBlind Pc) (hrc : rm.cells = mc) (hrs : rm.slots = ms)
    (hframes : rm.frames + 1 ≤ R.frames) (hlocals : W9 + (maxL + 11) + rm.locals ≤ R.locals)
    (hws : ∀ w ∈ ws, ∀ a' U, s.WarmedH U.vm → w.before a' U = true) (hcode : Cond.code y bytes maxL ret ∈ ws) (hinit : ∀ a' U, s.WarmedH U.vm → (Cond.initialized y.cls).before a' U = true) :
    vx_Back l R p e below s sargs y len W9 (PreOf R mc ms Pc) (PostOf Qc mc ms free) (vx_Post XC mc ms free) := by
  intro m meth c A g ig mk a X hg hsize hdg hW hn hp
  have h1 : (headSpec ws rm).pre.before a A.U = true := atoms_intro fun w hw => hws w hw _ _ X.warmed
  have h2 : (Cond.code y bytes maxL ret).before a A.U = true := hws _ hcode _ _ X.warmed
  have h3 : (Cond.initialized y.cls).before a A.U = true := hinit _ _ X.warmed
  have h4 : A.cells + (headSpec ws rm).room.cells ≤ R.cells := by rw [show (headSpec ws rm).room.cells = mc from hrc]; exact hp.1
  have h5 : A.slots + (headSpec ws rm).room.slots ≤ R.slots := by rw [show (headSpec ws rm).room.slots = ms from hrs]; exact hp.2.1
  have hPc : Pc a (A.U.calling g mk a) := hblind _ _ _ _ hp.2.2
  obtain ⟨U, Ls, c0, s0⟩ := A
  dsimp only [Pt.U, Pt.locs, Pt.cells, Pt.slots] at h1 h2 h3 h4 h5 X hn hPc ⊢
  obtain ⟨methY, cY, hmY, hcY, -, hlY, -, -, -, -⟩ := Cond.code_spec hn h2
  obtain ⟨kY, hkY, -⟩ := className_of_methodNamed hn
  have hinitY : kY.init = .initialized := Cond.initialized_spec (findClass_of_methodNamed hn) hkY h3
  have h : At U g.method c below := by rw [hg]; exact X.here
  have hlocals9 : W9 + (maxL + 11) + (headSpec ws rm).room.locals ≤ R.locals := hlocals
  have happ : (headSpec ws rm).appliesLoose y e.platform (U.calling g mk a) = true :=
    Spec.appliesLoose_calling (g := g) h hdg hn hkY hinitY
      (X.room_calling (g := g) (R' := (headSpec ws rm).room) hsize hmY hcY hframes (by rw [hlY]; omega) h4 h5) h1
  obtain ⟨mid, hmid⟩ := h.above
  have hfr : (U.setTop g).frames = (.java g :: mid) ++ below := by rw [State.frames_setTop' g h.top, hmid]; rfl
  obtain ⟨o, s₂, hsteps, -, hend, hq⟩ := Steps.callFree hM p X.admits X.cas X.clock (acts := []) hfr happ hPc trivial
  have hq' : vx_Q Qc XC mc ms free a (U.calling g mk a) o s₂ := hq
  rw [State.frames_setTop' g h.top] at hend
  obtain ⟨g₀, hg0⟩ := Option.isSome_iff_exists.mp h.top
  obtain ⟨r, hr⟩ := State.topJava?_eq_some.mp hg0
  have hr' : (({ U with heap := s₂.heap, slotsUsed := s₂.slotsUsed } : State).setVm s₂.vm).frames = .java g₀ :: r := hr
  rcases hq' with ⟨hqc, L, hfe, hL⟩ | ⟨q, rfl, E, ce, L, hx, hce, hcv, hcl, hW₂, hsm, hL⟩
  · obtain ⟨⟨v, rfl⟩, hW₂, e2, q2, q3, q4, q5, q6⟩ := id hfe
    have e3 : s₂ = ({ (U.calling g mk a).setFrames s₂.frames with heap := s₂.heap, slotsUsed := s₂.slotsUsed } : State).setVm s₂.vm := by
      have : s₂ = ({ s₂ with vm := (U.calling g mk a).vm } : State).setVm s₂.vm := rfl
      rw [e2] at this
      exact this
    obtain ⟨c₂, i₂, len₂, hc₂, hd₂, hf₂⟩ := hend
    have hW' : U.WarmedH s₂.vm := hW₂
    have hcc : c₂ = c := by
      have h1 : s₂.code? g.method = U.code? g.method := by
        rw [State.code?_eq, State.code?_eq, hW'.alike.method?]
      exact Option.some.inj (hc₂.symm.trans (h1.trans h.code))
    subst hcc
    have hlen : len₂ = len := by rw [hdg] at hd₂; cases hd₂; rfl
    subst hlen
    have hs₂ : s₂ = (({ U with heap := s₂.heap, slotsUsed := s₂.slotsUsed } : State).setVm s₂.vm).setTop { g with pc := g.pc + len₂, stack := v.toList ++ g.stack } := by
      refine e3.trans ?_
      rw [hf₂, State.calling_eq h.top, State.setFrames_setFrames, State.setTop_of_frames _ hr', hr]
      rfl
    have hsame : U.sameButNew ({ U with heap := s₂.heap, slotsUsed := s₂.slotsUsed } : State) L mc ms := by
      refine ⟨?_, q2, q3, q4, q5, q6⟩
      obtain ⟨t, ht, -⟩ := State.frames_cons hr
      show ({ U with heap := s₂.heap, slotsUsed := s₂.slotsUsed } : State) = { U.setFrames U.frames with heap := s₂.heap, slotsUsed := s₂.slotsUsed }
      rw [State.setFrames_self ht]
    subst hg
    refine Or.inl ⟨v, ⟨(({ U with heap := s₂.heap, slotsUsed := s₂.slotsUsed } : State).setVm s₂.vm), Ls ++ L, c0 + mc, s0 + ms⟩,
      ⟨X.admits, X.cas, X.clock, X.frames, X.room, X.hears, X.method, X.code, (X.here.setHeapUsed s₂.heap s₂.slotsUsed).setVm hW'.alike, X.tail, State.WarmedH.trans X.warmed hW', X.limits, X.bytes, X.same.trans (hsame.setVm s.vm)⟩,
      ⟨g, mk, s₂, L, rfl, rfl, hqc, rfl, hL, rfl, rfl⟩, ?_⟩
    show Steps p.tables e below _ ((({ U with heap := s₂.heap, slotsUsed := s₂.slotsUsed } : State).setVm s₂.vm).setTop { g with pc := g.pc + len₂, stack := v.toList ++ g.stack })
    rw [← hs₂]
    exact hsteps
  · obtain ⟨e2, q2, q3, q4, q5, q6⟩ := id hsm
    have e3 : s₂ = ({ (U.calling g mk a).setFrames s₂.frames with heap := s₂.heap, slotsUsed := s₂.slotsUsed } : State).setVm s₂.vm := by
      have : s₂ = ({ s₂ with vm := (U.calling g mk a).vm } : State).setVm s₂.vm := rfl
      rw [e2] at this
      exact this
    have hf₂ : s₂.frames = .throwing q :: .java g :: U.frames.tail := hend
    have hW' : U.WarmedH s₂.vm := hW₂
    have hs₂ : s₂ = ((({ U with heap := s₂.heap, slotsUsed := s₂.slotsUsed } : State).setVm s₂.vm).setTop g).pushFrame (.throwing q) := by
      refine e3.trans ?_
      rw [hf₂, State.calling_eq h.top, State.setFrames_setFrames, State.pushFrame, State.frames_setTop _ hr', State.setTop_of_frames _ hr', State.setFrames_setFrames, hr]
      rfl
    have hsame : U.sameButNew ({ U with heap := s₂.heap, slotsUsed := s₂.slotsUsed } : State) L mc ms := by
      refine ⟨?_, q2, q3, q4, q5, q6⟩
      obtain ⟨t, ht, -⟩ := State.frames_cons hr
      show ({ U with heap := s₂.heap, slotsUsed := s₂.slotsUsed } : State) = { U.setFrames U.frames with heap := s₂.heap, slotsUsed := s₂.slotsUsed }
      rw [State.setFrames_self ht]
    subst hg
    refine Or.inr ⟨q, ⟨(({ U with heap := s₂.heap, slotsUsed := s₂.slotsUsed } : State).setVm s₂.vm), Ls ++ L, c0 + mc, s0 + ms⟩,
      ⟨X.admits, X.cas, X.clock, X.frames, X.room, X.hears, X.method, X.code, (X.here.setHeapUsed s₂.heap s₂.slotsUsed).setVm hW'.alike, X.tail, State.WarmedH.trans X.warmed hW', X.limits, X.bytes, X.same.trans (hsame.setVm s.vm)⟩,
      ⟨g, mk, s₂, L, E, ce, rfl, rfl, hx, hce, hcv, hcl, rfl, hL, rfl, rfl⟩, ?_⟩
    show Steps p.tables e below _ (((({ U with heap := s₂.heap, slotsUsed := s₂.slotsUsed } : State).setVm s₂.vm).setTop g).pushFrame (.throwing q))
    rw [← hs₂]
    exact hsteps
end Payer
section Calls
variable {p : Program} {l : Launch} {e : Env} {R : Room} {s : State} {m : MethodId} {args : Array Value} {below : List Frame} {meth : Method} {c : Code} {T : State} {locs : List Loc} {cells slots : Nat}
theorem vx_callV (X : Stand p l e R s m args below meth c T locs cells slots) (hexec : p.tables.exec = Jvm.exec) {own C : String} {index : Nat} {y : MethodName} {bytes : ByteArray} {maxL : Nat} {ret : Option FieldType}
    (hown : s.vm.findClass own = some m.cls) (hlink : (Cond.methodLink own index y).before args s = true) (hinst : (Cond.instanceMethod y).before args s = true) (hsel : (Cond.selects C y y).before args s = true)
    (hcode : (Cond.code y bytes maxL ret).before args s = true) (hy : y.cls ≠ "java/lang/invoke/MethodHandle" ∧ y.cls ≠ "java/lang/invoke/VarHandle")
    {W9 : Nat} {Pre : Pt → Array Value → Prop} {Post : Pt → Array Value → Option Value → Pt → Prop} {PostX : Pt → Array Value → Addr → Pt → Prop} (hK : vx_Back l R p e below s args y 3 W9 Pre Post PostX)
    {b : Addr} {cellB : Cell} (hcell : T.heap[b]? = some cellB) (hobj : cellB.vm.isStatics = false) (hcls : s.vm.findClass C = some cellB.cls)
    {g : JFrame} (hg : g.method = m) (hsize : g.locals.size = c.maxLocals) {argsL rest : List Value} (hlen : ∀ sig, parseMethodDescriptor y.desc = some sig → argsL.length = sig.parameters.length)
    (hstack : g.stack = argsL.reverse ++ .ref b :: rest) (hW : 2 * g.monitorRoom + (rest.map fun v => v.category).sum ≤ W9) (hdg : decode c.code g.pc = .ok (.invokevirtual index, 3))
    (hpre : ∀ vm₁, s.WarmedH vm₁ → Pre ⟨T.setVm vm₁, locs, cells, slots⟩ (Value.ref b :: argsL).toArray) :
    (∃ (v : Option Value) (vm₁ : Vm) (B : Pt), s.WarmedH vm₁ ∧ Stand p l e R s m args below meth c B.U B.locs B.cells B.slots ∧ Post ⟨T.setVm vm₁, locs, cells, slots⟩ (Value.ref b :: argsL).toArray v B ∧
      ∀ target, Steps p.tables e below (B.U.setTop { g with pc := g.pc + 3, stack := v.toList ++ rest }) target → Steps p.tables e below (T.setTop g) target) ∨
    (∃ (q : Addr) (vm₁ : Vm) (B : Pt), s.WarmedH vm₁ ∧ Stand p l e R s m args below meth c B.U B.locs B.cells B.slots ∧ PostX ⟨T.setVm vm₁, locs, cells, slots⟩ (Value.ref b :: argsL).toArray q B ∧
      Steps p.tables e below (T.setTop g) ((B.U.setTop { g with stack := rest }).pushFrame (.throwing q))) := by
  obtain ⟨mk, methM, hnamed, hmethM, hstM, habM⟩ := Cond.instanceMethod_spec hinst
  obtain ⟨methM', cM, hmethM', -, -, -, -, -, -, hsigM⟩ := Cond.code_spec hnamed hcode
  cases hmethM.symm.trans hmethM'
  obtain ⟨c2, r2, m2, q1, q2, q3, q4, kP, hkP, hkPi⟩ := Cond.selects_spec hsel
  cases hcls.symm.trans q1
  cases (State.methodFound?_of_named hnamed hy).symm.trans q2
  cases hnamed.symm.trans q3
  have hselP : selectMethod e.platform s.vm cellB.cls mk = .method mk := by rw [Launch.admits_selectMethod X.admits]; exact q4
  obtain ⟨vm₁, X₁, hstep₁⟩ := X.invokevirtual hexec hown hlink hnamed hmethM hstM hkP hkPi hy (a := b) (cell := cellB) hcell
    (fun z h => by rw [h] at hobj; cases hobj) hselP hmethM habM hkP hkPi (g := g) hg (argsL := argsL) (rest := rest) (hlen _ hsigM) hstack hdg
  rcases hK m meth c ⟨T.setVm vm₁, locs, cells, slots⟩ { g with stack := rest } (.invokevirtual index) mk (Value.ref b :: argsL).toArray X₁ hg hsize hdg hW (X₁.named hnamed) (hpre vm₁ X₁.warmed) with ⟨v, B, X', hpost, hsteps⟩ | ⟨q, B, X', hpost, hsteps⟩
  · exact Or.inl ⟨v, vm₁, B, X₁.warmed, X', hpost, fun target h => hstep₁ _ fun acts => by rw [doInvoke_state]; exact hsteps.trans h⟩
  · exact Or.inr ⟨q, vm₁, B, X₁.warmed, X', hpost, hstep₁ _ fun acts => by rw [doInvoke_state]; exact hsteps⟩
theorem vx_callS (X : Stand p l e R s m args below meth c T locs cells slots) (hexec : p.tables.exec = Jvm.exec) {own : String} {index : Nat} {y : MethodName} {bytes : ByteArray} {maxL : Nat} {ret : Option FieldType}
    (hown : s.vm.findClass own = some m.cls) (hlink : (Cond.methodLink own index y).before args s = true) (hstat : (Cond.static y).before args s = true) (hinit : (Cond.initialized y.cls).before args s = true)
    (hcode : (Cond.code y bytes maxL ret).before args s = true) (hy : y.cls ≠ "java/lang/invoke/MethodHandle" ∧ y.cls ≠ "java/lang/invoke/VarHandle")
    {W9 : Nat} {Pre : Pt → Array Value → Prop} {Post : Pt → Array Value → Option Value → Pt → Prop} {PostX : Pt → Array Value → Addr → Pt → Prop} (hK : vx_Back l R p e below s args y 3 W9 Pre Post PostX)
    {g : JFrame} (hg : g.method = m) (hsize : g.locals.size = c.maxLocals) {argsL rest : List Value} (hlen : ∀ sig, parseMethodDescriptor y.desc = some sig → argsL.length = sig.parameters.length)
    (hstack : g.stack = argsL.reverse ++ rest) (hW : 2 * g.monitorRoom + (rest.map fun v => v.category).sum ≤ W9) (hdg : decode c.code g.pc = .ok (.invokestatic index, 3))
    (hpre : ∀ vm₁, s.WarmedH vm₁ → Pre ⟨T.setVm vm₁, locs, cells, slots⟩ argsL.toArray) :
    (∃ (v : Option Value) (vm₁ : Vm) (B : Pt), s.WarmedH vm₁ ∧ Stand p l e R s m args below meth c B.U B.locs B.cells B.slots ∧ Post ⟨T.setVm vm₁, locs, cells, slots⟩ argsL.toArray v B ∧
      ∀ target, Steps p.tables e below (B.U.setTop { g with pc := g.pc + 3, stack := v.toList ++ rest }) target → Steps p.tables e below (T.setTop g) target) ∨
    (∃ (q : Addr) (vm₁ : Vm) (B : Pt), s.WarmedH vm₁ ∧ Stand p l e R s m args below meth c B.U B.locs B.cells B.slots ∧ PostX ⟨T.setVm vm₁, locs, cells, slots⟩ argsL.toArray q B ∧
      Steps p.tables e below (T.setTop g) ((B.U.setTop { g with stack := rest }).pushFrame (.throwing q))) := by
  obtain ⟨mk, hnamed⟩ := Cond.code_named hcode
  obtain ⟨methM, cM, hmethM, -, -, -, -, -, -, hsigM⟩ := Cond.code_spec hnamed hcode
  have hstatic : methM.isStatic = true := Cond.static_spec hnamed hmethM hstat
  obtain ⟨kP, hkP, -⟩ := className_of_methodNamed hnamed
  have hinitP : kP.init = .initialized := Cond.initialized_spec (findClass_of_methodNamed hnamed) hkP hinit
  obtain ⟨vm₁, X₁, hstep₁⟩ := X.invokestatic hexec hown hlink hnamed hmethM hstatic hkP hinitP hy (g := g) hg (argsL := argsL) (rest := rest) (hlen _ hsigM) hstack hdg
  rcases hK m meth c ⟨T.setVm vm₁, locs, cells, slots⟩ { g with stack := rest } (.invokestatic index) mk argsL.toArray X₁ hg hsize hdg hW (X₁.named hnamed) (hpre vm₁ X₁.warmed) with ⟨v, B, X', hpost, hsteps⟩ | ⟨q, B, X', hpost, hsteps⟩
  · exact Or.inl ⟨v, vm₁, B, X₁.warmed, X', hpost, fun target h => hstep₁ _ fun acts => by rw [doInvoke_state]; exact hsteps.trans h⟩
  · exact Or.inr ⟨q, vm₁, B, X₁.warmed, X', hpost, hstep₁ _ fun acts => by rw [doInvoke_state]; exact hsteps⟩
end Calls
theorem vx_cls {s : State} {T : State} {vm₁ : Vm} {E : String} {k : ClassId} (hW : s.WarmedH vm₁) (h : (T.setVm vm₁).vm.findClass E = some k) : s.vm.findClass E = some k := by
  have h1 : vm₁.findClass E = some k := h
  rw [hW.alike.findClass] at h1
  exact h1
def vx_W (p : Program) (l : Launch) (e : Env) (R : Room) (s : State) (m : MethodId) (args : Array Value) (below : List Frame) (meth : Method) (c : Code) (H : Heap) (locs : List Loc) (cells slots : Nat) (Q : State → Prop) (g : JFrame) (q : Addr) : Prop :=
  ∀ T : State, T.heap = H → Stand p l e R s m args below meth c T locs cells slots → ∃ t, Steps p.tables e below ((T.setTop g).pushFrame (.throwing q)) t ∧ Q t
def vx_Run (p : Program) (l : Launch) (e : Env) (R : Room) (s : State) (m : MethodId) (args : Array Value) (below : List Frame) (meth : Method) (c : Code) (H : Heap) (locs : List Loc) (cells slots mc ms : Nat) (g : JFrame) (rest : List Value) (Qa : State → Outcome → State → Prop) (XC : String → State → State → Prop) (free : Addr → Prop) : Prop :=
  ∀ T : State, T.heap = H → Stand p l e R s m args below meth c T locs cells slots →
    (∃ (v : Option Value) (st₀ t T' : State) (L : List Loc), st₀.heap = H ∧ Stand p l e R s m args below meth c T' (locs ++ L) (cells + mc) (slots + ms) ∧ (∀ q ∈ L, free q.base) ∧ T'.heap = t.heap ∧ T'.vm = t.vm ∧ Qa st₀ (.returned v) t ∧
      Goes p e below T g T' { g with pc := g.pc + 3, stack := v.toList ++ rest }) ∨
    (∃ (q : Addr) (st₀ t T' : State) (L : List Loc) (E : String) (ce : Cell), st₀.heap = H ∧ Stand p l e R s m args below meth c T' (locs ++ L) (cells + mc) (slots + ms) ∧ (∀ z ∈ L, free z.base) ∧ T'.heap = t.heap ∧ T'.vm = t.vm ∧ XC E st₀ t ∧ t.heap[q]? = some ce ∧ ce.vm = .none ∧ s.vm.findClass E = some ce.cls ∧
      Steps p.tables e below (T.setTop g) ((T'.setTop { g with stack := rest }).pushFrame (.throwing q)))
def vx_X {S : Type} (px : S → Prop) (B : String → S → State → Prop) (A : Nat → Prop) : String → State → State → Prop := fun E st t => ∃ u : S, px u ∧ B E u t ∧ va_F A st t
section Runs
variable {p : Program} {l : Launch} {e : Env} {R : Room} {s : State} {m : MethodId} {args : Array Value} {below : List Frame} {meth : Method} {c : Code} {H : Heap} {locs : List Loc} {cells slots : Nat}
variable {y : MethodName} {bytes cc : ByteArray} {maxL nL mc ms n index : Nat} {ret : Option FieldType} {ws : List Cond} {rm : Room} {Pc : Array Value → State → Prop} {Qc : Array Value → State → Outcome → State → Prop} {XC : String → State → State → Prop} {free : Addr → Prop} {Ts : List Cond} {own C : String} {b : Addr} {As rest : List Value} {g : JFrame}
theorem vx_callBack (cb : CallB R s args own index y bytes maxL ret ws rm mc ms n) (hM : vx_Met l y ws rm Pc Qc XC mc ms free) (hbl : FrameBlind Pc) : vx_Back l R p e below s args y 3 8 (PreOf R mc ms Pc) (PostOf Qc mc ms free) (vx_Post XC mc ms free) := by
  obtain ⟨hrc, hrs, hfr, hlo, hws, hcw, -, hini, -⟩ := cb
  exact vx_back (bytes := bytes) (maxL := maxL) (ret := ret) hM hbl hrc hrs hfr hlo hws hcw (fun a' U hW => word_at hW (Or.inl (by first | rfl | simp [Cond.onTables, Cond.keeps, Cond.steady])) hini)
theorem vx_runV (S : CallFix p m c cc nL s args Ts own) (hM : vx_Met l y ws rm Pc Qc XC mc ms free) (cw : CallW R s args own C index y bytes maxL ret ws rm mc ms n) (hp : PreV s H C b Pc As)
    (hg : g.method = m) (hn : As.length = n) (hsize : g.locals.size = nL) (hstack : g.stack = As.reverse ++ .ref b :: rest) (hW : 2 * g.monitorRoom + (rest.map fun v => v.category).sum ≤ 8) (hdg : decode cc g.pc = .ok (.invokevirtual index, 3)) (hf : cells + mc ≤ R.cells ∧ slots + ms ≤ R.slots) :
    vx_Run p l e R s m args below meth c H locs cells slots mc ms g rest (Qc (Value.ref b :: As).toArray) XC free := by
  have hK : vx_Back l R p e below s args y 3 8 (PreOf R mc ms Pc) (PostOf Qc mc ms free) (vx_Post XC mc ms free) := vx_callBack cw.1 hM hp.1
  obtain ⟨⟨-, -, -, -, -, -, hcode, -, hy, hlen, hl⟩, hin, hse⟩ := cw
  obtain ⟨hx, hb, hml, ho, -⟩ := S
  obtain ⟨-, ⟨cellB, hcB, hoB, hclB⟩, hPc⟩ := hp
  intro T hT X
  rcases vx_callV X hx (C := C) (bytes := bytes) (maxL := maxL) (ret := ret) ho hl hin hse hcode hy hK (by rw [hT]; exact hcB) hoB hclB hg (hsize.trans hml.symm) (argsL := As) (rest := rest) (fun sig h => hn.trans (hlen sig h)) hstack hW (by rw [hb]; exact hdg)
    (fun vm₁ hW₁ => ⟨hf.1, hf.2, hPc (T.setVm vm₁) hT hW₁⟩) with ⟨v, vm₁, ⟨U', l2, c2, s2⟩, hW₁, X', ⟨g', mk, t, L, e1, e2, hq, h1, hL, h2, h3⟩, st⟩ | ⟨q, vm₁, ⟨U', l2, c2, s2⟩, hW₁, X', ⟨g', mk, t, L, E, ce, e1, e2, hq, hce, hcv, hcl, h1, hL, h2, h3⟩, st⟩
  · dsimp only [Pt.U, Pt.locs, Pt.cells, Pt.slots] at X' e1 e2 h1 h2 h3 st
    subst h1; subst h2; subst h3
    exact Or.inl ⟨v, (T.setVm vm₁).calling g' mk (Value.ref b :: As).toArray, t, U', L, hT, X', hL, e1, e2, hq, st⟩
  · dsimp only [Pt.U, Pt.locs, Pt.cells, Pt.slots] at X' e1 e2 h1 h2 h3 st hcl
    subst h1; subst h2; subst h3
    exact Or.inr ⟨q, (T.setVm vm₁).calling g' mk (Value.ref b :: As).toArray, t, U', L, E, ce, hT, X', hL, e1, e2, hq, hce, hcv, vx_cls hW₁ hcl, st⟩
theorem vx_runS (S : CallFix p m c cc nL s args Ts own) (hM : vx_Met l y ws rm Pc Qc XC mc ms free) (cw : CallB R s args own index y bytes maxL ret ws rm mc ms n ∧ (Cond.static y).before args s = true) (hp : PreS s H Pc As)
    (hg : g.method = m) (hn : As.length = n) (hsize : g.locals.size = nL) (hstack : g.stack = As.reverse ++ rest) (hW : 2 * g.monitorRoom + (rest.map fun v => v.category).sum ≤ 8) (hdg : decode cc g.pc = .ok (.invokestatic index, 3)) (hf : cells + mc ≤ R.cells ∧ slots + ms ≤ R.slots) :
    vx_Run p l e R s m args below meth c H locs cells slots mc ms g rest (Qc As.toArray) XC free := by
  have hK : vx_Back l R p e below s args y 3 8 (PreOf R mc ms Pc) (PostOf Qc mc ms free) (vx_Post XC mc ms free) := vx_callBack cw.1 hM hp.1
  obtain ⟨⟨-, -, -, -, -, -, hcode, hini, hy, hlen, hl⟩, hstt⟩ := cw
  obtain ⟨hx, hb, hml, ho, -⟩ := S
  intro T hT X
  rcases vx_callS X hx (bytes := bytes) (maxL := maxL) (ret := ret) ho hl hstt hini hcode hy hK hg (hsize.trans hml.symm) (argsL := As) (rest := rest) (fun sig h => hn.trans (hlen sig h)) hstack hW (by rw [hb]; exact hdg)
    (fun vm₁ hW₁ => ⟨hf.1, hf.2, hp.2 (T.setVm vm₁) hT hW₁⟩) with ⟨v, vm₁, ⟨U', l2, c2, s2⟩, hW₁, X', ⟨g', mk, t, L, e1, e2, hq, h1, hL, h2, h3⟩, st⟩ | ⟨q, vm₁, ⟨U', l2, c2, s2⟩, hW₁, X', ⟨g', mk, t, L, E, ce, e1, e2, hq, hce, hcv, hcl, h1, hL, h2, h3⟩, st⟩
  · dsimp only [Pt.U, Pt.locs, Pt.cells, Pt.slots] at X' e1 e2 h1 h2 h3 st
    subst h1; subst h2; subst h3
    exact Or.inl ⟨v, (T.setVm vm₁).calling g' mk As.toArray, t, U', L, hT, X', hL, e1, e2, hq, st⟩
  · dsimp only [Pt.U, Pt.locs, Pt.cells, Pt.slots] at X' e1 e2 h1 h2 h3 st hcl
    subst h1; subst h2; subst h3
    exact Or.inr ⟨q, (T.setVm vm₁).calling g' mk As.toArray, t, U', L, E, ce, hT, X', hL, e1, e2, hq, hce, hcv, vx_cls hW₁ hcl, st⟩
end Runs
section Rows
variable {p : Program} {l : Launch} {e : Env} {R : Room} {s : State} {m : MethodId} {args : Array Value} {below : List Frame} {meth : Method} {c : Code} {H : Heap} {locs : List Loc} {cells slots : Nat} {Q : State → Prop}
variable {mc ms : Nat} {free : Addr → Prop} {A0 A1 : Nat → Prop} {H0 : Heap} {a : Array Value} {pc : Nat} {ls : Array Slot} {st0 rest : List Value}
theorem vx_keep {st₀ t T' : State} {L : List Loc} (h0 : st₀.heap = H) (e1 : T'.heap = t.heap) (hS : va_S A0 H0 H locs) (hA : ∀ q, q < H.size → A1 q → A0 q) (hf : ∀ q, free q → A0 q) (hL : ∀ q ∈ L, free q.base) (hF : va_F A1 st₀ t) :
    H.size ≤ T'.heap.size ∧ (∀ q : Nat, q < H.size → ¬ A1 q → T'.heap[q]? = H[q]?) ∧ va_S A0 H0 T'.heap (locs ++ L) := by
  obtain ⟨hz, hk⟩ := hF
  rw [h0] at hz hk
  exact ⟨by rw [e1]; exact hz, fun q h1 h2 => by rw [e1]; exact hk q h1 h2,
    ⟨Nat.le_trans hS.1 (by rw [e1]; exact hz), fun q h1 h2 => by rw [e1, hk q (Nat.lt_of_lt_of_le h1 hS.1) (fun z => h2 (hA q (Nat.lt_of_lt_of_le h1 hS.1) z))]; exact hS.2.1 q h1 h2, fun q hq => by
      rcases List.mem_append.mp hq with h | h
      · exact hS.2.2 q h
      · exact hf _ (hL q h)⟩⟩
theorem vx_calli {S SX : Type} {post : Int32 → S → Prop} {px : SX → Prop} {B : S → State → Prop} {BX : String → SX → State → Prop} {AX : Nat → Prop} (hr : vx_Run p l e R s m args below meth c H locs cells slots mc ms (F0 m pc ls st0) rest (va_Qi post B A1 a) (vx_X px BX AX) free) (hS : va_S A0 H0 H locs) (hA : ∀ q, q < H.size → A1 q → A0 q) (hf : ∀ q, free q → A0 q) (hAX : ∀ q, q < H.size → AX q → A0 q)
    (kx : ∀ (E : String) (ce : Cell) (q9 : Addr) (u : SX) (t : State) (H1 : Heap) (locs1 : List Loc), t.heap = H1 → s.vm.Alike t.vm → px u → BX E u t → H.size ≤ H1.size → (∀ q : Nat, q < H.size → ¬ AX q → H1[q]? = H[q]?) → va_S A0 H0 H1 locs1 → H1[q9]? = some ce → ce.vm = .none → s.vm.findClass E = some ce.cls → vx_W p l e R s m args below meth c H1 locs1 (cells + mc) (slots + ms) Q (F0 m pc ls rest) q9)
    (kk : ∀ (r : Int32) (u : S) (t : State) (H1 : Heap) (locs1 : List Loc), t.heap = H1 → s.vm.Alike t.vm → post r u → B u t → H.size ≤ H1.size → (∀ q : Nat, q < H.size → ¬ A1 q → H1[q]? = H[q]?) → va_S A0 H0 H1 locs1 → W p l e R s m args below meth c H1 locs1 (cells + mc) (slots + ms) Q (F0 m (pc + 3) ls (.int r :: rest))) : W p l e R s m args below meth c H locs cells slots Q (F0 m pc ls st0) := by
  intro T hT X
  rcases hr T hT X with ⟨v, st₀, t, T', L, h0, X', hL, e1, e2, ⟨⟨r, u, hv, hp, hb⟩, hF⟩, st⟩ | ⟨q, st₀, t, T', L, E, ce, h0, X', hL, e1, e2, ⟨u, hp, hb, hF⟩, hce, hcv, hcl, st⟩
  · cases hv
    obtain ⟨k1, k2, k3⟩ := vx_keep h0 e1 hS hA hf hL hF
    obtain ⟨t2, a1, b1⟩ := kk r u t T'.heap (locs ++ L) e1.symm (by rw [← e2]; exact X'.warmed.alike) hp hb k1 k2 k3 T' rfl X'
    exact ⟨t2, st t2 a1, b1⟩
  · obtain ⟨k1, k2, k3⟩ := vx_keep h0 e1 hS hAX hf hL hF
    obtain ⟨t2, a1, b1⟩ := kx E ce q u t T'.heap (locs ++ L) e1.symm (by rw [← e2]; exact X'.warmed.alike) hp hb k1 k2 k3 (by rw [e1]; exact hce) hcv hcl T' rfl X'
    exact ⟨t2, st.trans a1, b1⟩
theorem vx_calll {S SX : Type} {post : Int64 → S → Prop} {px : SX → Prop} {B : S → State → Prop} {BX : String → SX → State → Prop} {AX : Nat → Prop} (hr : vx_Run p l e R s m args below meth c H locs cells slots mc ms (F0 m pc ls st0) rest (va_Ql post B A1 a) (vx_X px BX AX) free) (hS : va_S A0 H0 H locs) (hA : ∀ q, q < H.size → A1 q → A0 q) (hf : ∀ q, free q → A0 q) (hAX : ∀ q, q < H.size → AX q → A0 q)
    (kx : ∀ (E : String) (ce : Cell) (q9 : Addr) (u : SX) (t : State) (H1 : Heap) (locs1 : List Loc), t.heap = H1 → s.vm.Alike t.vm → px u → BX E u t → H.size ≤ H1.size → (∀ q : Nat, q < H.size → ¬ AX q → H1[q]? = H[q]?) → va_S A0 H0 H1 locs1 → H1[q9]? = some ce → ce.vm = .none → s.vm.findClass E = some ce.cls → vx_W p l e R s m args below meth c H1 locs1 (cells + mc) (slots + ms) Q (F0 m pc ls rest) q9)
    (kk : ∀ (r : Int64) (u : S) (t : State) (H1 : Heap) (locs1 : List Loc), t.heap = H1 → s.vm.Alike t.vm → post r u → B u t → H.size ≤ H1.size → (∀ q : Nat, q < H.size → ¬ A1 q → H1[q]? = H[q]?) → va_S A0 H0 H1 locs1 → W p l e R s m args below meth c H1 locs1 (cells + mc) (slots + ms) Q (F0 m (pc + 3) ls (.long r :: rest))) : W p l e R s m args below meth c H locs cells slots Q (F0 m pc ls st0) := by
  intro T hT X
  rcases hr T hT X with ⟨v, st₀, t, T', L, h0, X', hL, e1, e2, ⟨⟨r, u, hv, hp, hb⟩, hF⟩, st⟩ | ⟨q, st₀, t, T', L, E, ce, h0, X', hL, e1, e2, ⟨u, hp, hb, hF⟩, hce, hcv, hcl, st⟩
  · cases hv
    obtain ⟨k1, k2, k3⟩ := vx_keep h0 e1 hS hA hf hL hF
    obtain ⟨t2, a1, b1⟩ := kk r u t T'.heap (locs ++ L) e1.symm (by rw [← e2]; exact X'.warmed.alike) hp hb k1 k2 k3 T' rfl X'
    exact ⟨t2, st t2 a1, b1⟩
  · obtain ⟨k1, k2, k3⟩ := vx_keep h0 e1 hS hAX hf hL hF
    obtain ⟨t2, a1, b1⟩ := kx E ce q u t T'.heap (locs ++ L) e1.symm (by rw [← e2]; exact X'.warmed.alike) hp hb k1 k2 k3 (by rw [e1]; exact hce) hcv hcl T' rfl X'
    exact ⟨t2, st.trans a1, b1⟩
theorem vx_callf {S SX : Type} {post : UInt32 → S → Prop} {px : SX → Prop} {B : S → State → Prop} {BX : String → SX → State → Prop} {AX : Nat → Prop} (hr : vx_Run p l e R s m args below meth c H locs cells slots mc ms (F0 m pc ls st0) rest (va_Qf post B A1 a) (vx_X px BX AX) free) (hS : va_S A0 H0 H locs) (hA : ∀ q, q < H.size → A1 q → A0 q) (hf : ∀ q, free q → A0 q) (hAX : ∀ q, q < H.size → AX q → A0 q)
    (kx : ∀ (E : String) (ce : Cell) (q9 : Addr) (u : SX) (t : State) (H1 : Heap) (locs1 : List Loc), t.heap = H1 → s.vm.Alike t.vm → px u → BX E u t → H.size ≤ H1.size → (∀ q : Nat, q < H.size → ¬ AX q → H1[q]? = H[q]?) → va_S A0 H0 H1 locs1 → H1[q9]? = some ce → ce.vm = .none → s.vm.findClass E = some ce.cls → vx_W p l e R s m args below meth c H1 locs1 (cells + mc) (slots + ms) Q (F0 m pc ls rest) q9)
    (kk : ∀ (r : UInt32) (u : S) (t : State) (H1 : Heap) (locs1 : List Loc), t.heap = H1 → s.vm.Alike t.vm → post r u → B u t → H.size ≤ H1.size → (∀ q : Nat, q < H.size → ¬ A1 q → H1[q]? = H[q]?) → va_S A0 H0 H1 locs1 → W p l e R s m args below meth c H1 locs1 (cells + mc) (slots + ms) Q (F0 m (pc + 3) ls (.float r :: rest))) : W p l e R s m args below meth c H locs cells slots Q (F0 m pc ls st0) := by
  intro T hT X
  rcases hr T hT X with ⟨v, st₀, t, T', L, h0, X', hL, e1, e2, ⟨⟨r, u, hv, hp, hb⟩, hF⟩, st⟩ | ⟨q, st₀, t, T', L, E, ce, h0, X', hL, e1, e2, ⟨u, hp, hb, hF⟩, hce, hcv, hcl, st⟩
  · cases hv
    obtain ⟨k1, k2, k3⟩ := vx_keep h0 e1 hS hA hf hL hF
    obtain ⟨t2, a1, b1⟩ := kk r u t T'.heap (locs ++ L) e1.symm (by rw [← e2]; exact X'.warmed.alike) hp hb k1 k2 k3 T' rfl X'
    exact ⟨t2, st t2 a1, b1⟩
  · obtain ⟨k1, k2, k3⟩ := vx_keep h0 e1 hS hAX hf hL hF
    obtain ⟨t2, a1, b1⟩ := kx E ce q u t T'.heap (locs ++ L) e1.symm (by rw [← e2]; exact X'.warmed.alike) hp hb k1 k2 k3 (by rw [e1]; exact hce) hcv hcl T' rfl X'
    exact ⟨t2, st.trans a1, b1⟩
theorem vx_calld {S SX : Type} {post : UInt64 → S → Prop} {px : SX → Prop} {B : S → State → Prop} {BX : String → SX → State → Prop} {AX : Nat → Prop} (hr : vx_Run p l e R s m args below meth c H locs cells slots mc ms (F0 m pc ls st0) rest (va_Qd post B A1 a) (vx_X px BX AX) free) (hS : va_S A0 H0 H locs) (hA : ∀ q, q < H.size → A1 q → A0 q) (hf : ∀ q, free q → A0 q) (hAX : ∀ q, q < H.size → AX q → A0 q)
    (kx : ∀ (E : String) (ce : Cell) (q9 : Addr) (u : SX) (t : State) (H1 : Heap) (locs1 : List Loc), t.heap = H1 → s.vm.Alike t.vm → px u → BX E u t → H.size ≤ H1.size → (∀ q : Nat, q < H.size → ¬ AX q → H1[q]? = H[q]?) → va_S A0 H0 H1 locs1 → H1[q9]? = some ce → ce.vm = .none → s.vm.findClass E = some ce.cls → vx_W p l e R s m args below meth c H1 locs1 (cells + mc) (slots + ms) Q (F0 m pc ls rest) q9)
    (kk : ∀ (r : UInt64) (u : S) (t : State) (H1 : Heap) (locs1 : List Loc), t.heap = H1 → s.vm.Alike t.vm → post r u → B u t → H.size ≤ H1.size → (∀ q : Nat, q < H.size → ¬ A1 q → H1[q]? = H[q]?) → va_S A0 H0 H1 locs1 → W p l e R s m args below meth c H1 locs1 (cells + mc) (slots + ms) Q (F0 m (pc + 3) ls (.double r :: rest))) : W p l e R s m args below meth c H locs cells slots Q (F0 m pc ls st0) := by
  intro T hT X
  rcases hr T hT X with ⟨v, st₀, t, T', L, h0, X', hL, e1, e2, ⟨⟨r, u, hv, hp, hb⟩, hF⟩, st⟩ | ⟨q, st₀, t, T', L, E, ce, h0, X', hL, e1, e2, ⟨u, hp, hb, hF⟩, hce, hcv, hcl, st⟩
  · cases hv
    obtain ⟨k1, k2, k3⟩ := vx_keep h0 e1 hS hA hf hL hF
    obtain ⟨t2, a1, b1⟩ := kk r u t T'.heap (locs ++ L) e1.symm (by rw [← e2]; exact X'.warmed.alike) hp hb k1 k2 k3 T' rfl X'
    exact ⟨t2, st t2 a1, b1⟩
  · obtain ⟨k1, k2, k3⟩ := vx_keep h0 e1 hS hAX hf hL hF
    obtain ⟨t2, a1, b1⟩ := kx E ce q u t T'.heap (locs ++ L) e1.symm (by rw [← e2]; exact X'.warmed.alike) hp hb k1 k2 k3 (by rw [e1]; exact hce) hcv hcl T' rfl X'
    exact ⟨t2, st.trans a1, b1⟩
theorem vx_callv {S SX : Type} {post : S → Prop} {px : SX → Prop} {B : S → State → Prop} {BX : String → SX → State → Prop} {AX : Nat → Prop} (hr : vx_Run p l e R s m args below meth c H locs cells slots mc ms (F0 m pc ls st0) rest (va_Qv post B A1 a) (vx_X px BX AX) free) (hS : va_S A0 H0 H locs) (hA : ∀ q, q < H.size → A1 q → A0 q) (hf : ∀ q, free q → A0 q) (hAX : ∀ q, q < H.size → AX q → A0 q)
    (kx : ∀ (E : String) (ce : Cell) (q9 : Addr) (u : SX) (t : State) (H1 : Heap) (locs1 : List Loc), t.heap = H1 → s.vm.Alike t.vm → px u → BX E u t → H.size ≤ H1.size → (∀ q : Nat, q < H.size → ¬ AX q → H1[q]? = H[q]?) → va_S A0 H0 H1 locs1 → H1[q9]? = some ce → ce.vm = .none → s.vm.findClass E = some ce.cls → vx_W p l e R s m args below meth c H1 locs1 (cells + mc) (slots + ms) Q (F0 m pc ls rest) q9)
    (kk : ∀ (u : S) (t : State) (H1 : Heap) (locs1 : List Loc), t.heap = H1 → s.vm.Alike t.vm → post u → B u t → H.size ≤ H1.size → (∀ q : Nat, q < H.size → ¬ A1 q → H1[q]? = H[q]?) → va_S A0 H0 H1 locs1 → W p l e R s m args below meth c H1 locs1 (cells + mc) (slots + ms) Q (F0 m (pc + 3) ls (rest))) : W p l e R s m args below meth c H locs cells slots Q (F0 m pc ls st0) := by
  intro T hT X
  rcases hr T hT X with ⟨v, st₀, t, T', L, h0, X', hL, e1, e2, ⟨⟨u, hv, hp, hb⟩, hF⟩, st⟩ | ⟨q, st₀, t, T', L, E, ce, h0, X', hL, e1, e2, ⟨u, hp, hb, hF⟩, hce, hcv, hcl, st⟩
  · cases hv
    obtain ⟨k1, k2, k3⟩ := vx_keep h0 e1 hS hA hf hL hF
    obtain ⟨t2, a1, b1⟩ := kk u t T'.heap (locs ++ L) e1.symm (by rw [← e2]; exact X'.warmed.alike) hp hb k1 k2 k3 T' rfl X'
    exact ⟨t2, st t2 a1, b1⟩
  · obtain ⟨k1, k2, k3⟩ := vx_keep h0 e1 hS hAX hf hL hF
    obtain ⟨t2, a1, b1⟩ := kx E ce q u t T'.heap (locs ++ L) e1.symm (by rw [← e2]; exact X'.warmed.alike) hp hb k1 k2 k3 (by rw [e1]; exact hce) hcv hcl T' rfl X'
    exact ⟨t2, st.trans a1, b1⟩
end Rows
section Ends
variable {p : Program} {l : Launch} {e : Env} {R : Room} {s : State} {m : MethodId} {args : Array Value} {below : List Frame} {meth : Method} {c : Code} {H : Heap} {locs : List Loc} {cells slots : Nat} {Q : State → Prop}
variable {mc ms : Nat} {free : Addr → Prop} {A0 A1 : Nat → Prop} {H0 : Heap} {a : Array Value} {ls : Array Slot} {st0 rest : List Value}
variable {Qc : Array Value → State → Outcome → State → Prop} {XC : String → State → State → Prop}
def vx_MQ (below : List Frame) (Qc : Array Value → State → Outcome → State → Prop) (XC : String → State → State → Prop) (a : Array Value) (s : State) (mc ms : Nat) (free : Addr → Prop) : State → Prop := fun t =>
  ∃ o, t.status = .running ∧ Ended t below o ∧ vx_Q Qc XC mc ms free a s o t
theorem vx_ret {g : JFrame} {mc ms : Nat} (k : W p l e R s m args below meth c H locs cells slots (MQ below Qc args s mc ms free) g) : W p l e R s m args below meth c H locs cells slots (vx_MQ below Qc XC args s mc ms free) g := by
  intro T hT X
  obtain ⟨t, a1, o, b1, b2, b3, b4⟩ := k T hT X
  exact ⟨t, a1, o, b1, b2, Or.inl ⟨b3, b4⟩⟩
theorem vx_widen {g : JFrame} {q : Addr} {k n : Nat} (h1 : cells ≤ k) (h2 : slots ≤ n) (kk : vx_W p l e R s m args below meth c H locs k n Q g q) : vx_W p l e R s m args below meth c H locs cells slots Q g q := fun T hT X => kk T hT (stand_widen X h1 h2)
theorem vx_out {pc : Nat} {E : String} {ce : Cell} {q : Addr} {mc ms : Nat} (hout : ∀ x ∈ c.exceptionTable.toList, covers x pc = false) (hlocks : meth.locks = false) (hcell : H[q]? = some ce) (hv : ce.vm = .none) (hcl : s.vm.findClass E = some ce.cls)
    (hx : ∀ t : State, t.heap = H → s.vm.Alike t.vm → XC E s t) (hf : ∀ z ∈ locs, free z.base) (hc : cells ≤ mc) (hs : slots ≤ ms) :
    vx_W p l e R s m args below meth c H locs cells slots (vx_MQ below Qc XC args s mc ms free) (F0 m pc ls rest) q := by
  intro T hT X
  obtain ⟨st1, hrun, hend, hW, hsm⟩ := X.leaveThrown q (g := F0 m pc ls rest) rfl rfl rfl hout hlocks
  have hcell9 : (T.setFrames (.throwing q :: below)).heap[q]? = some ce := by
    show T.heap[q]? = some ce
    rw [hT]; exact hcell
  exact ⟨_, st1, .threw q, hrun, hend, Or.inr ⟨q, rfl, E, ce, locs, hx _ hT hW.alike, hcell9, hv, hcl, hW, hsm.mono hc hs, hf⟩⟩
theorem vx_frame {U : State} {k n : Nat} (h : s.sameButNew ({ U with vm := s.vm } : State) locs k n) : s.heap.size ≤ U.heap.size ∧ ∀ q : Nat, q < s.heap.size → (∀ z ∈ locs, z.base ≠ q) → U.heap[q]? = s.heap[q]? := by
  obtain ⟨-, h2, -, -, -, h6⟩ := h
  refine ⟨h2, fun q hq hz => ?_⟩
  obtain ⟨c9, e1, e2, e3, e4⟩ := h6 q _ (Array.getElem?_eq_getElem hq)
  have hs : c9.slots = (s.heap[q]).slots := Array.ext_getElem? fun i => e4 i fun hm => hz _ hm rfl
  have h9 : c9 = s.heap[q] := by
    rw [hs] at e2
    exact e2
  have e5 : U.heap[q]? = some c9 := e1
  rw [e5, h9, Array.getElem?_eq_getElem hq]
def vx_no (w : Cond) : Bool := decide (w ≠ .isRef (.static Bundle.tN "UNASSIGNED_STACK" Bundle.steD)) && decide (w ≠ .isRef (.static Bundle.tN "SUPPRESSED_SENTINEL" Bundle.listD)) && decide (w ≠ .laysStatic Bundle.tN "UNASSIGNED_STACK" Bundle.steD) && decide (w ≠ .laysStatic Bundle.tN "SUPPRESSED_SENTINEL" Bundle.listD)
def vx_at0 (own : String) (ic : Nat) (X : String) (names : List String) : List Cond := (Bundle.ownAtoms0 own ic X names).filter vx_no
def vx_atS (own : String) (ic : Nat) (X : String) (names : List String) : List Cond := (Bundle.ownAtoms own ic X names).filter vx_no
def vx_ot (w : Cond) : Bool := w.onTables || goodWord w
theorem vx_ot_at {args a' : Array Value} {s U : State} {w : Cond} (hW : s.WarmedH U.vm) (hvm : s.vm = U.vm) (hg : vx_ot w = true) (h : w.before args s = true) : w.before a' U = true := by
  simp only [vx_ot, Bool.or_eq_true] at hg
  rcases hg with hg | hg
  · exact va_tabs hg hvm h
  · exact word_at hW (good_of_word hg) h
theorem vx_hat {args : Array Value} {s : State} {L B : List Cond} (h1 : ∀ w ∈ L.filter goodWord, w.before args s = true) (h2 : ∀ w ∈ L.filter (fun w => !goodWord w), w ∈ B) (h3 : ∀ w ∈ B, w.before args s = true) : ∀ w ∈ L, w.before args s = true := by
  intro w hw
  by_cases g : goodWord w = true
  · exact h1 w (List.mem_filter.mpr ⟨hw, g⟩)
  · refine h3 w (h2 w (List.mem_filter.mpr ⟨hw, ?_⟩))
    show (!goodWord w) = true
    cases hgw : goodWord w
    · rfl
    · exact absurd hgw g
theorem vx_c {args : Array Value} {s : State} {w : Cond} {B : List Cond} (h : w.before args s = true) (t : ∀ w ∈ B, w.before args s = true) : ∀ w' ∈ w :: B, w'.before args s = true := fun w' h' => (List.mem_cons.mp h').elim (fun e => by rw [e]; exact h) (t w')
theorem vx_n {args : Array Value} {s : State} : ∀ w ∈ ([] : List Cond), w.before args s = true := fun _ h => nomatch h
theorem vx_own {args : Array Value} {s : State} {L : List Cond} (h1 : ∀ w ∈ L.filter vx_no, w.before args s = true)
    (hU : (Cond.isRef (.static Bundle.tN "UNASSIGNED_STACK" Bundle.steD)).before args s = true) (hN : (Cond.isRef (.static Bundle.tN "SUPPRESSED_SENTINEL" Bundle.listD)).before args s = true)
    (lU : (Cond.laysStatic Bundle.tN "UNASSIGNED_STACK" Bundle.steD).before args s = true) (lN : (Cond.laysStatic Bundle.tN "SUPPRESSED_SENTINEL" Bundle.listD).before args s = true) : ∀ w ∈ L, w.before args s = true := by
  intro w hw
  by_cases e1 : w = .isRef (.static Bundle.tN "UNASSIGNED_STACK" Bundle.steD)
  · rw [e1]; exact hU
  · by_cases e2 : w = .isRef (.static Bundle.tN "SUPPRESSED_SENTINEL" Bundle.listD)
    · rw [e2]; exact hN
    · by_cases e3 : w = .laysStatic Bundle.tN "UNASSIGNED_STACK" Bundle.steD
      · rw [e3]; exact lU
      · by_cases e4 : w = .laysStatic Bundle.tN "SUPPRESSED_SENTINEL" Bundle.listD
        · rw [e4]; exact lN
        · exact h1 w (List.mem_filter.mpr ⟨hw, by unfold vx_no; rw [decide_eq_true e1, decide_eq_true e2, decide_eq_true e3, decide_eq_true e4]; rfl⟩)
def vx_L (C n d : String) (A : Nat → Prop) (U : State) (H : Heap) : Prop := ∃ (c : ClassId) (k : Class) (i : Nat) (f : Field) (a : Nat) (cell : Cell), U.vm.findClass C = some c ∧ U.fieldFound? C n d = some (c, k, i, f) ∧ f.isStatic = true ∧ k.statics = some a ∧ H[a]? = some cell ∧ cell.vm.isStatics = true ∧ cell.cls = c ∧ f.slot < cell.slots.size ∧ k.staticTypes[f.slot]? = some f.type ∧ ¬ A a
theorem vx_L.moved {C n d : String} {A : Nat → Prop} {u U : State} {H : Heap} (hvm : u.vm.Alike U.vm) (h : vx_L C n d A u H) : vx_L C n d A U H := by
  obtain ⟨c, k, i, f, a, cell, h1, h2, h3, h4, h5, h6, h7, h8, h9, h10⟩ := h
  obtain ⟨k', hi', he⟩ := State.fieldFound?_setVm hvm h2
  exact ⟨c, k', i, f, a, cell, by rw [hvm.findClass]; exact h1, hi', h3, by rw [he]; exact h4, h5, h6, h7, h8, by rw [he]; exact h9, h10⟩
theorem vx_L.kept {C n d : String} {A : Nat → Prop} {U : State} {H H1 : Heap} (h : vx_L C n d A U H) (hq : ∀ a : Nat, a < H.size → ¬ A a → H1[a]? = H[a]?) : vx_L C n d A U H1 := by
  obtain ⟨c, k, i, f, a, cell, h1, h2, h3, h4, h5, h6, h7, h8, h9, h10⟩ := h
  exact ⟨c, k, i, f, a, cell, h1, h2, h3, h4, by rw [hq a (Array.getElem?_eq_some_iff.mp h5).1 h10]; exact h5, h6, h7, h8, h9, h10⟩
theorem vx_L.narrow {C n d : String} {A B : Nat → Prop} {U : State} {H : Heap} (h : vx_L C n d A U H) (hAB : ∀ q, B q → A q) : vx_L C n d B U H := by
  obtain ⟨c, k, i, f, a, cell, h1, h2, h3, h4, h5, h6, h7, h8, h9, h10⟩ := h
  exact ⟨c, k, i, f, a, cell, h1, h2, h3, h4, h5, h6, h7, h8, h9, fun z => h10 (hAB _ z)⟩
theorem vx_L.word {C n d : String} {A : Nat → Prop} {s : State} {args : Array Value} (h : vx_L C n d A s s.heap) : (Cond.laysStatic C n d).before args s = true := by
  obtain ⟨c, k, i, f, a, cell, h1, h2, h3, h4, h5, h6, h7, h8, h9, -⟩ := h
  show (Cond.laysStatic C n d).holds args s none s [] = true
  exact Cond.laysStatic_of h1 h2 h3 h4 h5 h6 h7 h8 h9
def vx_Zq (C n d : String) (A : Nat → Prop) (U : State) (H : Heap) : Prop := va_Zq C n d A U H ∧ vx_L C n d A U H
theorem vx_Zq.moved {C n d : String} {A : Nat → Prop} {u U : State} {H : Heap} (hvm : u.vm.Alike U.vm) (h : vx_Zq C n d A u H) : vx_Zq C n d A U H := ⟨va_Zq.moved hvm h.1, vx_L.moved hvm h.2⟩
theorem vx_Zq.kept {C n d : String} {A : Nat → Prop} {U : State} {H H1 : Heap} (h : vx_Zq C n d A U H) (hq : ∀ a : Nat, a < H.size → ¬ A a → H1[a]? = H[a]?) : vx_Zq C n d A U H1 := ⟨va_Zq.kept h.1 hq, vx_L.kept h.2 hq⟩
theorem vx_Zq.narrow {C n d : String} {A B : Nat → Prop} {U : State} {H : Heap} (h : vx_Zq C n d A U H) (hAB : ∀ q, B q → A q) : vx_Zq C n d B U H := ⟨va_Zq.narrow h.1 hAB, vx_L.narrow h.2 hAB⟩
theorem vx_Zqof {args : Array Value} {s : State} {C n d : String} {A : Nat → Prop} (hl : (Cond.laysStatic C n d).before args s = true) (hini : (Cond.initialized C).before args s = true) (h : (Cond.isRef (.static C n d)).before args s = true) (hA : ∀ a : Nat, a < s.heap.size → ¬ A a) : vx_Zq C n d A s s.heap := by
  refine ⟨va_Zqof hl hini h hA, ?_⟩
  obtain ⟨c, k, i, f, a, cell, h1, h2, h3, h4, h5, h6, h7, h8, h9⟩ := Cond.laysStatic_spec hl
  exact ⟨c, k, i, f, a, cell, h1, h2, h3, h4, h5, h6, h7, h8, h9, hA a (Array.getElem?_eq_some_iff.mp h5).1⟩
theorem vx_isRef {C n d : String} {v : Value} {A : Nat → Prop} {s : State} {args : Array Value} (h : va_Z C n d v A s s.heap) (hv : v.isRef = true) : (Cond.isRef (.static C n d)).before args s = true := by
  obtain ⟨cf, kf, fi, f, a, cell, h1, h2, h3, h4, h5, h6, h7, -⟩ := h
  have he : (Term.static C n d).eval args s none [] s = some v := by
    simp [Term.eval, State.fieldNamed?, h1, h2, h4, h5, h6, h7]
  simp only [Cond.before, Cond.holds, Cond.value, he]
  cases v <;> simp_all [Value.isRef]
theorem vx_isRefq {C n d : String} {A : Nat → Prop} {s : State} {args : Array Value} (h : va_Zq C n d A s s.heap) : (Cond.isRef (.static C n d)).before args s = true := by
  rcases h with h | ⟨t, h⟩
  · exact vx_isRef h rfl
  · exact vx_isRef h rfl
theorem vx_rebase {T : State} (X : Stand p l e R s m args below meth c T locs cells slots) {R' : Room} (hf : R'.frames ≤ R.frames) (hl : R'.locals ≤ R.locals) (hc : cells + R'.cells ≤ R.cells) (hs : slots + R'.slots ≤ R.slots) :
    Stand p l e R' ((T.setVm s.vm).setFrames (.invoking m args :: below)) m args below meth c T [] 0 0 := by
  have htop : (T.setVm s.vm).topJava?.isSome := X.here.top
  have hF : ((T.setVm s.vm).setFrames (.invoking m args :: below)).frames = .invoking m args :: below := State.frames_setFrames _ (State.cur_lt_of_top htop)
  obtain ⟨g₀, hg0⟩ := Option.isSome_iff_exists.mp htop
  obtain ⟨r, hr⟩ := State.topJava?_eq_some.mp hg0
  have hl9 : e.platform.stackLimits (T.setVm s.vm).me = e.platform.stackLimits s.me := X.limits
  have hb9 : (T.setVm s.vm).me.stackBytes = s.me.stackBytes := X.bytes
  refine ⟨X.admits, X.cas, X.clock, hF, ?_, X.hears, X.method, X.code, X.here, X.tail, X.warmed, ?_, ?_, ?_⟩
  · have h := X.room
    have hU : ((T.setVm s.vm).setFrames (.invoking m args :: below)).localsInUse = s.localsInUse := by
      rw [State.localsInUse_invoking hF (meth := meth) (c := c) X.method X.code, State.localsInUse_invoking X.frames X.method X.code]
    simp only [State.hasRoom, Bool.and_eq_true, decide_eq_true_eq] at h ⊢
    obtain ⟨⟨⟨⟨h1, h2, h3, h4, h5, h6⟩, h7⟩, h8⟩, h9⟩ := h
    rw [X.frames, List.length_cons] at h2 h3
    have q1 := X.heapSize
    have q2 := X.used
    simp only [hF, hU, List.length_cons, State.stackLimits_setFrames, State.stackBytes_setFrames, hl9, hb9]
    refine ⟨⟨⟨⟨by omega, by omega, by omega, by omega, by omega, h6⟩, ?_⟩, ?_⟩, X.book⟩
    · show T.heap.size + R'.cells ≤ e.platform.maxCells
      omega
    · show T.slotsUsed + R'.slots ≤ e.platform.maxSlots
      omega
  · rw [State.stackLimits_setFrames]; rfl
  · rw [State.stackBytes_setFrames]; rfl
  · refine ⟨?_, Nat.le_refl _, Nat.le_refl _, ?_, ?_, fun a c9 h9 => ⟨c9, h9, rfl, rfl, fun _ _ => rfl⟩⟩
    · obtain ⟨t, ht, -⟩ := State.frames_cons hr
      show T.setVm s.vm = { ((T.setVm s.vm).setFrames (.invoking m args :: below)).setFrames (T.setVm s.vm).frames with heap := T.heap, slotsUsed := T.slotsUsed }
      rw [State.setFrames_setFrames, State.setFrames_self ht]
      rfl
    · show T.slotsUsed = T.slotsUsed + ((T.heap.toList.drop T.heap.size).map (·.slots.size)).sum
      rw [List.drop_eq_nil_of_le (Nat.le_of_eq Array.length_toList)]
      rfl
    · show ((T.heap.toList.drop T.heap.size).map (·.slots.size)).sum ≤ 0
      rw [List.drop_eq_nil_of_le (Nat.le_of_eq Array.length_toList)]
      exact Nat.le_refl _
theorem vx_throw0 {cc : ByteArray} {pc : Nat} (hexec : p.tables.exec = Jvm.exec) (hb : c.code = cc) (hl : l.stackTraces = false) {own cls : String} {names : List String} {ik ic mc ms : Nat} {A : Nat → Prop}
    (hown : s.vm.findClass own = some m.cls) (hcls : Bundle.fit cls = true) (hnames : ∀ n ∈ names, Bundle.fit n = true)
    (hk : (Cond.classLink own ik cls).before args s = true) (hini : (Cond.initialized cls).before args s = true) (hat : ∀ w ∈ vx_at0 own ic cls names, w.before args s = true)
    (hgood : ∀ w ∈ Cond.classLink own ik cls :: Cond.initialized cls :: vx_at0 own ic cls names, vx_ot w = true)
    (hU : vx_Zq Bundle.tN "UNASSIGNED_STACK" Bundle.steD A s s.heap) (hN : vx_Zq Bundle.tN "SUPPRESSED_SENTINEL" Bundle.listD A s s.heap) (hS : va_S A s.heap H locs) (hsize : ls.size = c.maxLocals)
    (d0 : decode cc pc = .ok (.new ik, 3)) (d3 : decode cc (pc + 3) = .ok (.dup, 1)) (d4 : decode cc (pc + 4) = .ok (.invokespecial ic, 3)) (d7 : decode cc (pc + 7) = .ok (.athrow, 1))
    (hout : ∀ x ∈ c.exceptionTable.toList, covers x (pc + 7) = false)
    (hRframes : names.length + 3 < R.frames) (hRlocals : (rest.map fun v => v.category).sum + (13 * (names.length + 1) + 42) ≤ R.locals) (hRcells : cells + 1 ≤ R.cells) (hRslots : slots + 6 ≤ R.slots) (hlocks : meth.locks = false)
    (hx : ∀ t : State, s.vm.Alike t.vm → H.size ≤ t.heap.size → (∀ q : Nat, q < H.size → t.heap[q]? = H[q]?) → XC cls s t)
    (hf : ∀ z ∈ locs, free z.base) (hc : cells + 1 ≤ mc) (hs : slots + 6 ≤ ms) :
    W p l e R s m args below meth c H locs cells slots (vx_MQ below Qc XC args s mc ms free) (F0 m pc ls rest) := by
  intro T hT X
  have htr : e.platform.stackTraces = false := (show e.platform.stackTraces = l.stackTraces by rw [X.admits.platform]).trans hl
  have Y := vx_rebase X (R' := { frames := R.frames, locals := R.locals, cells := 1, slots := 6 }) (Nat.le_refl _) (Nat.le_refl _) hRcells hRslots
  obtain ⟨s', hA⟩ : ∃ z, z = (T.setVm s.vm).setFrames (.invoking m args :: below) := ⟨_, rfl⟩
  rw [← hA] at Y
  have hvm : s'.vm = s.vm := by rw [hA]; rfl
  have hhp : s'.heap = H := by rw [hA]; exact hT
  have hW0 : s.WarmedH s'.vm := by rw [hvm]; exact State.WarmedH.refl s
  have hat' : ∀ w ∈ vx_at0 own ic cls names, w.before args s' = true := fun w hw => vx_ot_at hW0 hvm.symm (hgood w (List.mem_cons_of_mem _ (List.mem_cons_of_mem _ hw))) (hat w hw)
  have hk' : (Cond.classLink own ik cls).before args s' = true := vx_ot_at hW0 hvm.symm (hgood _ List.mem_cons_self) hk
  have hini' : (Cond.initialized cls).before args s' = true := vx_ot_at hW0 hvm.symm (hgood _ (List.mem_cons_of_mem _ List.mem_cons_self)) hini
  have hU' : vx_Zq Bundle.tN "UNASSIGNED_STACK" Bundle.steD A s' s'.heap := by rw [hhp]; exact vx_Zq.moved hW0.alike (hU.kept hS.2.1)
  have hN' : vx_Zq Bundle.tN "SUPPRESSED_SENTINEL" Bundle.listD A s' s'.heap := by rw [hhp]; exact vx_Zq.moved hW0.alike (hN.kept hS.2.1)
  have h : ∀ w ∈ Bundle.ownAtoms0 own ic cls names, w.before args s' = true := vx_own hat' (vx_isRefq hU'.1) (vx_isRefq hN'.1) hU'.2.word hN'.2.word
  have hown' : s'.vm.findClass own = some m.cls := by rw [hvm]; exact hown
  have hins : (Cond.instantiable cls 6).before args s' = true := h _ (by simp [Bundle.ownAtoms0])
  obtain ⟨vm₁, cX, kX, hfX, hkX, -, -, X₁, st1⟩ := Y.newCold hexec (own := own) (C := cls) (index := ik) (n := 6) hown' hk' hins hini'
    (g := F0 m pc ls rest) rfl (by rw [hb]; exact d0) (Nat.le_refl _) (Nat.le_refl _)
  generalize hT1 : (T.setVm vm₁).pushCell { cls := cX, slots := kX.instanceTypes.map defaultValue, vm := .none } = T1 at X₁ st1
  have hcat : (Value.ref T.heap.size).category = 1 := rfl
  have hcellA : T1.heap[T.heap.size]? = some (freshCell cX kX) := by rw [← hT1]; exact State.heap_pushCell_size _ _
  have d3' : decode c.code (pc + 3) = .ok (.dup, 1) := by rw [hb]; exact d3
  obtain ⟨U, hsteps, hrun, hend, hW, hsame, ce, hce, hO⟩ := X₁.ctorThrow0 hexec htr (own := own) (cls := cls) (names := names) (ic := ic) hown' hcls hnames h (fun x hx => nomatch hx) hfX hkX hcellA (by rw [hhp, hT]; exact Nat.le_refl _)
    (g := { method := m, pc := pc + 4, locals := ls, stack := .ref T.heap.size :: .ref T.heap.size :: rest, locked := none }) rfl hsize rfl rfl (rest := rest) rfl
    (by rw [hb]; exact d4) (by rw [hb]; exact d7) hout hRframes (by simp only [List.map_cons, List.sum_cons, hcat]; omega) hlocks
  obtain ⟨f1, f2⟩ := vx_frame hsame
  rw [hhp] at f1 f2
  have hWs : s.WarmedH U.vm := State.WarmedH.trans hW0 hW
  have hcl : s.vm.findClass cls = some ce.cls := by
    have h9 := hO.cls
    rw [hvm] at h9
    exact h9
  have hall : s.sameButNew ({ U with vm := s.vm } : State) locs mc ms := by
    subst hA
    obtain ⟨e1, e2⟩ := hsame
    rw [State.setFrames_setFrames] at e1
    have h2 : (T.setVm s.vm).sameButNew ({ U with vm := s.vm } : State) [] (0 + 1) (0 + 6) := ⟨e1, e2⟩
    have h3 := X.same.trans h2
    rw [List.append_nil] at h3
    exact h3.mono hc hs
  refine ⟨U, ?_, .threw T.heap.size, hrun, hend, Or.inr ⟨T.heap.size, rfl, cls, ce, locs, hx U hWs.alike f1 (fun q hq => f2 q hq (fun z hz => nomatch hz)), hce, hO.vm, hcl, hWs, hall, hf⟩⟩
  refine st1 _ ?_
  show Steps p.tables e below (T1.setTop { method := m, pc := pc + 3, locals := ls, stack := .ref T.heap.size :: rest, locked := none }) _
  jvm_step X₁.here [X₁.here.top, hexec, d3', Value.category]
  exact hsteps
theorem vx_throwS {cc : ByteArray} {pc : Nat} (hexec : p.tables.exec = Jvm.exec) (hb : c.code = cc) (hl : l.stackTraces = false) {own cls text : String} {names : List String} {ik is ic mc ms sa : Nat} {A : Nat → Prop}
    (hown : s.vm.findClass own = some m.cls) (hcls : Bundle.fit cls = true) (hnames : ∀ n ∈ names, Bundle.fit n = true)
    (hk : (Cond.classLink own ik cls).before args s = true) (hini : (Cond.initialized cls).before args s = true) (hstr : vk_R own is text sa s) (hat : ∀ w ∈ vx_atS own ic cls names, w.before args s = true)
    (hgood : ∀ w ∈ Cond.classLink own ik cls :: Cond.initialized cls :: vx_atS own ic cls names, vx_ot w = true)
    (hU : vx_Zq Bundle.tN "UNASSIGNED_STACK" Bundle.steD A s s.heap) (hN : vx_Zq Bundle.tN "SUPPRESSED_SENTINEL" Bundle.listD A s s.heap) (hS : va_S A s.heap H locs) (hsize : ls.size = c.maxLocals)
    (d0 : decode cc pc = .ok (.new ik, 3)) (d3 : decode cc (pc + 3) = .ok (.dup, 1)) (d4 : decode cc (pc + 4) = .ok (.ldc is, 2)) (d6 : decode cc (pc + 6) = .ok (.invokespecial ic, 3)) (d9 : decode cc (pc + 9) = .ok (.athrow, 1))
    (hout : ∀ x ∈ c.exceptionTable.toList, covers x (pc + 9) = false)
    (hRframes : names.length + 3 < R.frames) (hRlocals : (rest.map fun v => v.category).sum + (13 * (names.length + 1) + 43) ≤ R.locals) (hRcells : cells + 1 ≤ R.cells) (hRslots : slots + 6 ≤ R.slots) (hlocks : meth.locks = false)
    (hx : ∀ t : State, s.vm.Alike t.vm → H.size ≤ t.heap.size → (∀ q : Nat, q < H.size → t.heap[q]? = H[q]?) → XC cls s t)
    (hf : ∀ z ∈ locs, free z.base) (hc : cells + 1 ≤ mc) (hs : slots + 6 ≤ ms) :
    W p l e R s m args below meth c H locs cells slots (vx_MQ below Qc XC args s mc ms free) (F0 m pc ls rest) := by
  intro T hT X
  have htr : e.platform.stackTraces = false := (show e.platform.stackTraces = l.stackTraces by rw [X.admits.platform]).trans hl
  have Y := vx_rebase X (R' := { frames := R.frames, locals := R.locals, cells := 1, slots := 6 }) (Nat.le_refl _) (Nat.le_refl _) hRcells hRslots
  obtain ⟨s', hA⟩ : ∃ z, z = (T.setVm s.vm).setFrames (.invoking m args :: below) := ⟨_, rfl⟩
  rw [← hA] at Y
  have hvm : s'.vm = s.vm := by rw [hA]; rfl
  have hhp : s'.heap = H := by rw [hA]; exact hT
  have hW0 : s.WarmedH s'.vm := by rw [hvm]; exact State.WarmedH.refl s
  have hat' : ∀ w ∈ vx_atS own ic cls names, w.before args s' = true := fun w hw => vx_ot_at hW0 hvm.symm (hgood w (List.mem_cons_of_mem _ (List.mem_cons_of_mem _ hw))) (hat w hw)
  have hk' : (Cond.classLink own ik cls).before args s' = true := vx_ot_at hW0 hvm.symm (hgood _ List.mem_cons_self) hk
  have hini' : (Cond.initialized cls).before args s' = true := vx_ot_at hW0 hvm.symm (hgood _ (List.mem_cons_of_mem _ List.mem_cons_self)) hini
  have hU' : vx_Zq Bundle.tN "UNASSIGNED_STACK" Bundle.steD A s' s'.heap := by rw [hhp]; exact vx_Zq.moved hW0.alike (hU.kept hS.2.1)
  have hN' : vx_Zq Bundle.tN "SUPPRESSED_SENTINEL" Bundle.listD A s' s'.heap := by rw [hhp]; exact vx_Zq.moved hW0.alike (hN.kept hS.2.1)
  have h : ∀ w ∈ Bundle.ownAtoms own ic cls names, w.before args s' = true := vx_own hat' (vx_isRefq hU'.1) (vx_isRefq hN'.1) hU'.2.word hN'.2.word
  have hown' : s'.vm.findClass own = some m.cls := by rw [hvm]; exact hown
  have hins : (Cond.instantiable cls 6).before args s' = true := h _ (by simp [Bundle.ownAtoms])
  obtain ⟨vm₁, cX, kX, hfX, hkX, -, -, X₁, st1⟩ := Y.newCold hexec (own := own) (C := cls) (index := ik) (n := 6) hown' hk' hins hini'
    (g := F0 m pc ls rest) rfl (by rw [hb]; exact d0) (Nat.le_refl _) (Nat.le_refl _)
  generalize hT1 : (T.setVm vm₁).pushCell { cls := cX, slots := kX.instanceTypes.map defaultValue, vm := .none } = T1 at X₁ st1
  have hcat : (Value.ref T.heap.size).category = 1 := rfl
  have hcellA : T1.heap[T.heap.size]? = some (freshCell cX kX) := by rw [← hT1]; exact State.heap_pushCell_size _ _
  have d3' : decode c.code (pc + 3) = .ok (.dup, 1) := by rw [hb]; exact d3
  have d4' : decode c.code (pc + 4) = .ok (.ldc is, 2) := by rw [hb]; exact d4
  have hstr' : vk_R own is text sa s' := vk_R.warm hW0 hstr
  obtain ⟨U, hsteps, hrun, hend, hW, hsame, ce, hce, hO⟩ := X₁.ctorThrowS hexec htr (own := own) (cls := cls) (names := names) (ic := ic) hown' hcls hnames h (fun x hx => nomatch hx) hfX hkX hcellA (by rw [hhp, hT]; exact Nat.le_refl _) (msg := .ref sa) rfl
    (g := { method := m, pc := pc + 6, locals := ls, stack := .ref sa :: .ref T.heap.size :: .ref T.heap.size :: rest, locked := none }) rfl hsize rfl rfl (rest := rest) rfl
    (by rw [hb]; exact d6) (by rw [hb]; exact d9) hout hRframes (by simp only [List.map_cons, List.sum_cons, hcat]; omega) hlocks
  obtain ⟨f1, f2⟩ := vx_frame hsame
  rw [hhp] at f1 f2
  have hWs : s.WarmedH U.vm := State.WarmedH.trans hW0 hW
  have hcl : s.vm.findClass cls = some ce.cls := by
    have h9 := hO.cls
    rw [hvm] at h9
    exact h9
  have hall : s.sameButNew ({ U with vm := s.vm } : State) locs mc ms := by
    subst hA
    obtain ⟨e1, e2⟩ := hsame
    rw [State.setFrames_setFrames] at e1
    have h2 : (T.setVm s.vm).sameButNew ({ U with vm := s.vm } : State) [] (0 + 1) (0 + 6) := ⟨e1, e2⟩
    have h3 := X.same.trans h2
    rw [List.append_nil] at h3
    exact h3.mono hc hs
  refine ⟨U, ?_, .threw T.heap.size, hrun, hend, Or.inr ⟨T.heap.size, rfl, cls, ce, locs, hx U hWs.alike f1 (fun q hq => f2 q hq (fun z hz => nomatch hz)), hce, hO.vm, hcl, hWs, hall, hf⟩⟩
  refine st1 _ ?_
  show Steps p.tables e below (T1.setTop { method := m, pc := pc + 3, locals := ls, stack := .ref T.heap.size :: rest, locked := none }) _
  jvm_step X₁.here [X₁.here.top, hexec, d3', Value.category]
  exact X₁.ldcString hexec (own := own) (text := text) (index := is) (a := sa) hown' hstr'.1 hstr'.2
    (g := { method := m, pc := pc + 4, locals := ls, stack := .ref T.heap.size :: .ref T.heap.size :: rest, locked := none }) rfl d4' _ hsteps
theorem vx_throwSW {cc : ByteArray} {pc : Nat} (hexec : p.tables.exec = Jvm.exec) (hb : c.code = cc) (hl : l.stackTraces = false) {own cls text : String} {names : List String} {ik is ic mc ms sa : Nat} {A : Nat → Prop}
    (hown : s.vm.findClass own = some m.cls) (hcls : Bundle.fit cls = true) (hnames : ∀ n ∈ names, Bundle.fit n = true)
    (hk : (Cond.classLink own ik cls).before args s = true) (hini : (Cond.initialized cls).before args s = true) (hstr : vk_R own is text sa s) (hat : ∀ w ∈ vx_atS own ic cls names, w.before args s = true)
    (hgood : ∀ w ∈ Cond.classLink own ik cls :: Cond.initialized cls :: vx_atS own ic cls names, vx_ot w = true)
    (hU : vx_Zq Bundle.tN "UNASSIGNED_STACK" Bundle.steD A s s.heap) (hN : vx_Zq Bundle.tN "SUPPRESSED_SENTINEL" Bundle.listD A s s.heap) (hS : va_S A s.heap H locs) (hsize : ls.size = c.maxLocals)
    (d0 : decode cc pc = .ok (.new ik, 3)) (d3 : decode cc (pc + 3) = .ok (.dup, 1)) (d4 : decode cc (pc + 4) = .ok (.ldc_w is, 3)) (d7 : decode cc (pc + 7) = .ok (.invokespecial ic, 3)) (d10 : decode cc (pc + 10) = .ok (.athrow, 1))
    (hout : ∀ x ∈ c.exceptionTable.toList, covers x (pc + 10) = false)
    (hRframes : names.length + 3 < R.frames) (hRlocals : (rest.map fun v => v.category).sum + (13 * (names.length + 1) + 43) ≤ R.locals) (hRcells : cells + 1 ≤ R.cells) (hRslots : slots + 6 ≤ R.slots) (hlocks : meth.locks = false)
    (hx : ∀ t : State, s.vm.Alike t.vm → H.size ≤ t.heap.size → (∀ q : Nat, q < H.size → t.heap[q]? = H[q]?) → XC cls s t)
    (hf : ∀ z ∈ locs, free z.base) (hc : cells + 1 ≤ mc) (hs : slots + 6 ≤ ms) :
    W p l e R s m args below meth c H locs cells slots (vx_MQ below Qc XC args s mc ms free) (F0 m pc ls rest) := by
  intro T hT X
  have htr : e.platform.stackTraces = false := (show e.platform.stackTraces = l.stackTraces by rw [X.admits.platform]).trans hl
  have Y := vx_rebase X (R' := { frames := R.frames, locals := R.locals, cells := 1, slots := 6 }) (Nat.le_refl _) (Nat.le_refl _) hRcells hRslots
  obtain ⟨s', hA⟩ : ∃ z, z = (T.setVm s.vm).setFrames (.invoking m args :: below) := ⟨_, rfl⟩
  rw [← hA] at Y
  have hvm : s'.vm = s.vm := by rw [hA]; rfl
  have hhp : s'.heap = H := by rw [hA]; exact hT
  have hW0 : s.WarmedH s'.vm := by rw [hvm]; exact State.WarmedH.refl s
  have hat' : ∀ w ∈ vx_atS own ic cls names, w.before args s' = true := fun w hw => vx_ot_at hW0 hvm.symm (hgood w (List.mem_cons_of_mem _ (List.mem_cons_of_mem _ hw))) (hat w hw)
  have hk' : (Cond.classLink own ik cls).before args s' = true := vx_ot_at hW0 hvm.symm (hgood _ List.mem_cons_self) hk
  have hini' : (Cond.initialized cls).before args s' = true := vx_ot_at hW0 hvm.symm (hgood _ (List.mem_cons_of_mem _ List.mem_cons_self)) hini
  have hU' : vx_Zq Bundle.tN "UNASSIGNED_STACK" Bundle.steD A s' s'.heap := by rw [hhp]; exact vx_Zq.moved hW0.alike (hU.kept hS.2.1)
  have hN' : vx_Zq Bundle.tN "SUPPRESSED_SENTINEL" Bundle.listD A s' s'.heap := by rw [hhp]; exact vx_Zq.moved hW0.alike (hN.kept hS.2.1)
  have h : ∀ w ∈ Bundle.ownAtoms own ic cls names, w.before args s' = true := vx_own hat' (vx_isRefq hU'.1) (vx_isRefq hN'.1) hU'.2.word hN'.2.word
  have hown' : s'.vm.findClass own = some m.cls := by rw [hvm]; exact hown
  have hins : (Cond.instantiable cls 6).before args s' = true := h _ (by simp [Bundle.ownAtoms])
  obtain ⟨vm₁, cX, kX, hfX, hkX, -, -, X₁, st1⟩ := Y.newCold hexec (own := own) (C := cls) (index := ik) (n := 6) hown' hk' hins hini'
    (g := F0 m pc ls rest) rfl (by rw [hb]; exact d0) (Nat.le_refl _) (Nat.le_refl _)
  generalize hT1 : (T.setVm vm₁).pushCell { cls := cX, slots := kX.instanceTypes.map defaultValue, vm := .none } = T1 at X₁ st1
  have hcat : (Value.ref T.heap.size).category = 1 := rfl
  have hcellA : T1.heap[T.heap.size]? = some (freshCell cX kX) := by rw [← hT1]; exact State.heap_pushCell_size _ _
  have d3' : decode c.code (pc + 3) = .ok (.dup, 1) := by rw [hb]; exact d3
  have d4' : decode c.code (pc + 4) = .ok (.ldc_w is, 3) := by rw [hb]; exact d4
  have hstr' : vk_R own is text sa s' := vk_R.warm hW0 hstr
  obtain ⟨U, hsteps, hrun, hend, hW, hsame, ce, hce, hO⟩ := X₁.ctorThrowS hexec htr (own := own) (cls := cls) (names := names) (ic := ic) hown' hcls hnames h (fun x hx => nomatch hx) hfX hkX hcellA (by rw [hhp, hT]; exact Nat.le_refl _) (msg := .ref sa) rfl
    (g := { method := m, pc := pc + 7, locals := ls, stack := .ref sa :: .ref T.heap.size :: .ref T.heap.size :: rest, locked := none }) rfl hsize rfl rfl (rest := rest) rfl
    (by rw [hb]; exact d7) (by rw [hb]; exact d10) hout hRframes (by simp only [List.map_cons, List.sum_cons, hcat]; omega) hlocks
  obtain ⟨f1, f2⟩ := vx_frame hsame
  rw [hhp] at f1 f2
  have hWs : s.WarmedH U.vm := State.WarmedH.trans hW0 hW
  have hcl : s.vm.findClass cls = some ce.cls := by
    have h9 := hO.cls
    rw [hvm] at h9
    exact h9
  have hall : s.sameButNew ({ U with vm := s.vm } : State) locs mc ms := by
    subst hA
    obtain ⟨e1, e2⟩ := hsame
    rw [State.setFrames_setFrames] at e1
    have h2 : (T.setVm s.vm).sameButNew ({ U with vm := s.vm } : State) [] (0 + 1) (0 + 6) := ⟨e1, e2⟩
    have h3 := X.same.trans h2
    rw [List.append_nil] at h3
    exact h3.mono hc hs
  refine ⟨U, ?_, .threw T.heap.size, hrun, hend, Or.inr ⟨T.heap.size, rfl, cls, ce, locs, hx U hWs.alike f1 (fun q hq => f2 q hq (fun z hz => nomatch hz)), hce, hO.vm, hcl, hWs, hall, hf⟩⟩
  refine st1 _ ?_
  show Steps p.tables e below (T1.setTop { method := m, pc := pc + 3, locals := ls, stack := .ref T.heap.size :: rest, locked := none }) _
  jvm_step X₁.here [X₁.here.top, hexec, d3', Value.category]
  exact X₁.ldcStringW hexec (own := own) (text := text) (index := is) (a := sa) hown' hstr'.1 hstr'.2
    (g := { method := m, pc := pc + 4, locals := ls, stack := .ref T.heap.size :: .ref T.heap.size :: rest, locked := none }) rfl d4' _ hsteps
end Ends
section Bodies
variable {l : Launch}
theorem vx_ofW {y : MethodName} {ws ws' : List Cond} {rm : Room} {Pc : Array Value → State → Prop} {Qc : Array Value → State → Outcome → State → Prop} {XC : String → State → State → Prop} {mc ms : Nat} {free : Addr → Prop} {cc : ByteArray} {maxL : Nat} {ret : Option FieldType}
    (hy : plainName y.cls = true) (hw : ws = Cond.code y cc maxL ret :: ws')
    (body : ∀ p e s m args below meth c s₁, BodyLoose p l y (headSpec ws rm) cc maxL ret e s m args below meth c s₁ → c.maxLocals = maxL → (∀ x ∈ c.exceptionTable.toList, False) → Pc args s →
      W p l e (headSpec ws rm).room s m args below meth c s.heap [] 0 0 (vx_MQ below Qc XC args s mc ms free) (entryFrame m args maxL)) : vx_Met l y ws rm Pc Qc XC mc ms free := by
  refine MetFree.of_bodyS (code := cc) (maxLocals := maxL) (ret := ret) hy ?_ ?_
  · intro args s m h hn
    obtain ⟨meth, c, h1, h2, h3, h4, h5, h6, -, -⟩ := Cond.code_spec hn (atoms_spec (ws := ws) h _ (by rw [hw]; exact List.mem_cons_self))
    exact ⟨meth, c, h1, h2, h3, h4, h5, h6⟩
  · intro p e s m args below meth c s₁ B hml hP _
    have hh0 : s₁.heap = s.heap := by rw [B.state]; rfl
    have ht : ∀ x ∈ c.exceptionTable.toList, False := by
      obtain ⟨meth9, c9, h1, h2, -, -, -, -, h7, -⟩ := Cond.code_spec B.named (atoms_spec (ws := ws) B.pre _ (by rw [hw]; exact List.mem_cons_self))
      cases Option.some.inj (h1.symm.trans B.method)
      cases Option.some.inj (h2.symm.trans (Stand.of_body B).code)
      intro x hx
      rw [Array.isEmpty_iff.mp h7] at hx
      cases hx
    obtain ⟨t, a1, o, b1, b2, b3⟩ := body p e s m args below meth c s₁ B hml ht hP s₁ hh0 (Stand.of_body B)
    exact ⟨t, o, a1, b1, b2, b3⟩
theorem vx_table {p : Program} {x y : MethodName} {S : Spec} {cc bytes : ByteArray} {maxL maxL' : Nat} {ret ret' : Option FieldType} {e : Env} {s s₁ : State} {m : MethodId} {args : Array Value} {below : List Frame} {meth : Method} {c : Code} {hh : List (Nat × Nat × Nat × Nat)}
    (B : BodyLoose p l y S cc maxL ret e s m args below meth c s₁) (h : (Cond.codeWith y bytes maxL' ret' hh).before args s = true) : c.exceptionTable.toList = tableOf hh := by
  obtain ⟨m9, meth9, c9, hn9, h1, h2, -, -, h6, -⟩ := Cond.codeWith_spec h
  cases Option.some.inj (hn9.symm.trans B.named)
  cases Option.some.inj (h1.symm.trans B.method)
  cases Option.some.inj (h2.symm.trans (Stand.of_body B).code)
  rw [← h6, table_eq]
end Bodies
end VXA
/-! ===== END ===== -/
/-! ===== BEGIN a static call of a method with an exception table ===== -/
section VXS
variable {p : Program} {l : Launch} {e : Env} {R : Room} {s : State} {m : MethodId} {args : Array Value} {below : List Frame} {meth : Method} {c : Code} {T : State} {H : Heap} {locs : List Loc} {cells slots : Nat}
abbrev vx_CSW (R : Room) (s : State) (args : Array Value) (own : String) (index : Nat) (y : MethodName) (bytes : ByteArray) (maxL : Nat) (ret : Option FieldType) (hh : List (Nat × Nat × Nat × Nat)) (ws : List Cond) (rm : Room) (mc ms n : Nat) : Prop :=
  (rm.cells = mc ∧ rm.slots = ms ∧ rm.frames + 1 ≤ R.frames ∧ 8 + (maxL + 11) + rm.locals ≤ R.locals ∧ (∀ w ∈ ws, ∀ (a' : Array Value) (U : State), s.WarmedH U.vm → w.before a' U = true) ∧ Cond.codeWith y bytes maxL ret hh ∈ ws) ∧
  (Cond.codeWith y bytes maxL ret hh).before args s = true ∧ (Cond.initialized y.cls).before args s = true ∧ (y.cls ≠ "java/lang/invoke/MethodHandle" ∧ y.cls ≠ "java/lang/invoke/VarHandle") ∧
  (∀ sig, parseMethodDescriptor y.desc = some sig → n = sig.parameters.length) ∧ (Cond.methodLink own index y).before args s = true ∧ (Cond.static y).before args s = true
theorem vx_cwSW {own : String} {index maxL mc ms : Nat} {y : MethodName} {bytes : ByteArray} {ret : Option FieldType} {hh : List (Nat × Nat × Nat × Nat)} {Ts ws ws' : List Cond} {rm : Room} (n : Nat) (ht : ∀ w ∈ Ts, w.before args s = true) (hT : GoodIn Ts (va_wsS own index y ws)) (hw : ws = Cond.codeWith y bytes maxL ret hh :: ws') (hrc : rm.cells = mc) (hrs : rm.slots = ms)
    (hd : y.cls ≠ "java/lang/invoke/MethodHandle" ∧ y.cls ≠ "java/lang/invoke/VarHandle" ∧ (parseMethodDescriptor y.desc).map (fun d => d.parameters.length) = some n) (hR : rm.frames + 1 ≤ R.frames ∧ 8 + (maxL + 11) + rm.locals ≤ R.locals) :
    vx_CSW R s args own index y bytes maxL ret hh ws rm mc ms n := by
  have ok : ∀ w ∈ va_wsS own index y ws, w.before args s = true := fun w h => ht w (hT w h).1
  have hG : GoodIn Ts ws := fun w h => hT w (by unfold va_wsS; exact List.mem_append_right _ h)
  have hc : Cond.codeWith y bytes maxL ret hh ∈ ws := by rw [hw]; exact List.mem_cons_self
  refine ⟨⟨hrc, hrs, hR.1, hR.2, pay_in ht hG, hc⟩, ht _ (hG _ hc).1, ok _ (by simp [va_wsS]), ⟨hd.1, hd.2.1⟩, fun sig h => ?_, ok _ (by simp [va_wsS]), ok _ (by simp [va_wsS])⟩
  have h2 := hd.2.2
  rw [h] at h2
  exact (Option.some.inj h2).symm
theorem vx_callSW (X : Stand p l e R s m args below meth c T locs cells slots) (hexec : p.tables.exec = Jvm.exec) {own : String} {index : Nat} {y : MethodName} {bytes : ByteArray} {maxL : Nat} {ret : Option FieldType} {hh : List (Nat × Nat × Nat × Nat)}
    (hown : s.vm.findClass own = some m.cls) (hlink : (Cond.methodLink own index y).before args s = true) (hstat : (Cond.static y).before args s = true) (hinit : (Cond.initialized y.cls).before args s = true)
    (hcode : (Cond.codeWith y bytes maxL ret hh).before args s = true) (hy : y.cls ≠ "java/lang/invoke/MethodHandle" ∧ y.cls ≠ "java/lang/invoke/VarHandle")
    {W9 : Nat} {Pre : Pt → Array Value → Prop} {Post : Pt → Array Value → Option Value → Pt → Prop} (hK : Back l R p e below s args y 3 W9 Pre Post)
    {g : JFrame} (hg : g.method = m) (hsize : g.locals.size = c.maxLocals) {argsL rest : List Value} (hlen : ∀ sig, parseMethodDescriptor y.desc = some sig → argsL.length = sig.parameters.length)
    (hstack : g.stack = argsL.reverse ++ rest) (hW : 2 * g.monitorRoom + (rest.map fun v => v.category).sum ≤ W9) (hdg : decode c.code g.pc = .ok (.invokestatic index, 3))
    (hpre : ∀ vm₁, s.WarmedH vm₁ → Pre ⟨T.setVm vm₁, locs, cells, slots⟩ argsL.toArray) :
    ∃ (v : Option Value) (vm₁ : Vm) (B : Pt), s.WarmedH vm₁ ∧ Stand p l e R s m args below meth c B.U B.locs B.cells B.slots ∧ Post ⟨T.setVm vm₁, locs, cells, slots⟩ argsL.toArray v B ∧
      ∀ target, Steps p.tables e below (B.U.setTop { g with pc := g.pc + 3, stack := v.toList ++ rest }) target → Steps p.tables e below (T.setTop g) target := by
  obtain ⟨mk, methM, cM, hnamed, hmethM, -, -, -, -, -, -, hsigM⟩ := Cond.codeWith_spec hcode
  have hstatic : methM.isStatic = true := Cond.static_spec hnamed hmethM hstat
  obtain ⟨kP, hkP, -⟩ := className_of_methodNamed hnamed
  have hinitP : kP.init = .initialized := Cond.initialized_spec (findClass_of_methodNamed hnamed) hkP hinit
  obtain ⟨vm₁, X₁, hstep₁⟩ := X.invokestatic hexec hown hlink hnamed hmethM hstatic hkP hinitP hy (g := g) hg (argsL := argsL) (rest := rest) (hlen _ hsigM) hstack hdg
  obtain ⟨v, B, X', hpost, hsteps⟩ := hK m meth c ⟨T.setVm vm₁, locs, cells, slots⟩ { g with stack := rest } (.invokestatic index) mk argsL.toArray X₁ hg hsize hdg hW (X₁.named hnamed) (hpre vm₁ X₁.warmed)
  exact ⟨v, vm₁, B, X₁.warmed, X', hpost, fun target h => hstep₁ _ fun acts => by rw [doInvoke_state]; exact hsteps.trans h⟩
theorem vx_runSW {y : MethodName} {bytes cc : ByteArray} {maxL nL mc ms n index : Nat} {ret : Option FieldType} {hh : List (Nat × Nat × Nat × Nat)} {ws : List Cond} {rm : Room} {Pc : Array Value → State → Prop} {Qc : Array Value → State → Outcome → State → Prop} {free : Addr → Prop} {Ts : List Cond} {own : String} {As rest : List Value} {g : JFrame}
    (S : CallFix p m c cc nL s args Ts own) (hM : Met l y ws rm Pc Qc mc ms free) (cw : vx_CSW R s args own index y bytes maxL ret hh ws rm mc ms n) (hp : PreS s H Pc As)
    (hg : g.method = m) (hn : As.length = n) (hsize : g.locals.size = nL) (hstack : g.stack = As.reverse ++ rest) (hW : 2 * g.monitorRoom + (rest.map fun v => v.category).sum ≤ 8) (hdg : decode cc g.pc = .ok (.invokestatic index, 3)) (hf : cells + mc ≤ R.cells ∧ slots + ms ≤ R.slots) :
    va_Run p l e R s m args below meth c H locs cells slots mc ms g rest (Qc As.toArray) (free) := by
  obtain ⟨⟨hrc, hrs, hfr, hlo, hws, hcw⟩, hcode, hini, hy, hlen, hl, hstt⟩ := cw
  have hK : Back l R p e below s args y 3 8 (PreOf R mc ms Pc) (PostOf Qc mc ms free) := va_backW (hh := hh) (bytes := bytes) (maxL := maxL) (ret := ret) hM hp.1 hrc hrs hfr hlo hws hcw (fun a' U hW => word_at hW (Or.inl (by first | rfl | simp [Cond.onTables, Cond.keeps, Cond.steady])) hini)
  obtain ⟨hx, hb, hml, ho, -⟩ := S
  intro T hT X
  obtain ⟨v, vm₁, ⟨U', l2, c2, s2⟩, hW₁, X', ⟨g', mk, t, L, e1, e2, hq, h1, hL, h2, h3⟩, st⟩ := vx_callSW X hx (hh := hh) (bytes := bytes) (maxL := maxL) (ret := ret) ho hl hstt hini hcode hy hK hg (hsize.trans hml.symm) (argsL := As) (rest := rest) (fun sig h => hn.trans (hlen sig h)) hstack hW (by rw [hb]; exact hdg)
    (fun vm₁ hW₁ => ⟨hf.1, hf.2, hp.2 (T.setVm vm₁) hT hW₁⟩)
  dsimp only [Pt.U, Pt.locs, Pt.cells, Pt.slots] at X' e1 e2 h1 h2 h3 st
  subst h1; subst h2; subst h3
  exact ⟨v, (T.setVm vm₁).calling g' mk As.toArray, t, U', L, hT, X', hL, e1, e2, hq, st⟩
theorem vx_lt {D : va_G} {cl : List vw_C} {ws : va_W} {H1 : Heap} (h : va_P D cl ws H1) {k : Nat} {q : Nat × va_E} (hk : ws[k]? = some q) : q.1 < H1.size := (h k q hk).lt
end VXS
/-! ===== END ===== -/
/-! ===== BEGIN methods with a table of their own: called by a name, returning or throwing ===== -/
section VXH
/-! vx_backW, vx_callVX, vx_callSX, vx_callVW, vx_runVW, vx_runVX, vx_runSX, vx_ofWH follow the same proofs as their sisters above (Free/Laws.lean, Shelf42/LK1.lean); vx_outP calls Shelf42/NT130.lean (outThrough). -/
section
variable {l : Launch} {R : Room} {p : Program} {e : Env} {below : List Frame} {s : State} {sargs : Array Value} {y : MethodName} {len W9 : Nat}
theorem vx_backW {ws : List Cond} {rm : Room} {Pc : Array Value → State → Prop} {Qc : Array Value → State → Outcome → State → Prop} {XC : String → State → State → Prop} {mc ms : Nat} {free : Addr → Prop} {bytes : ByteArray} {maxL : Nat} {ret : Option FieldType} {hh : List (Nat × Nat × Nat × Nat)}
    (hM : vx_Met l y ws rm Pc Qc XC mc ms free) (hblind : FrameBlind Pc) (hrc : rm.cells = mc) (hrs : rm.slots = ms)
    (hframes : rm.frames + 1 ≤ R.frames) (hlocals : W9 + (maxL + 11) + rm.locals ≤ R.locals)
    (hws : ∀ w ∈ ws, ∀ a' U, s.WarmedH U.vm → w.before a' U = true) (hcode : Cond.codeWith y bytes maxL ret hh ∈ ws) (hinit : ∀ a' U, s.WarmedH U.vm → (Cond.initialized y.cls).before a' U = true) :
    vx_Back l R p e below s sargs y len W9 (PreOf R mc ms Pc) (PostOf Qc mc ms free) (vx_Post XC mc ms free) := by
  intro m meth c A g ig mk a X hg hsize hdg hW hn hp
  have h1 : (headSpec ws rm).pre.before a A.U = true := atoms_intro fun w hw => hws w hw _ _ X.warmed
  have h2 : (Cond.codeWith y bytes maxL ret hh).before a A.U = true := hws _ hcode _ _ X.warmed
  have h3 : (Cond.initialized y.cls).before a A.U = true := hinit _ _ X.warmed
  have h4 : A.cells + (headSpec ws rm).room.cells ≤ R.cells := by rw [show (headSpec ws rm).room.cells = mc from hrc]; exact hp.1
  have h5 : A.slots + (headSpec ws rm).room.slots ≤ R.slots := by rw [show (headSpec ws rm).room.slots = ms from hrs]; exact hp.2.1
  have hPc : Pc a (A.U.calling g mk a) := hblind _ _ _ _ hp.2.2
  obtain ⟨U, Ls, c0, s0⟩ := A
  dsimp only [Pt.U, Pt.locs, Pt.cells, Pt.slots] at h1 h2 h3 h4 h5 X hn hPc ⊢
  obtain ⟨m9, methY, cY, hn9, hmY, hcY, -, hlY, -⟩ := Cond.codeWith_spec h2
  cases Option.some.inj (hn9.symm.trans hn)
  obtain ⟨kY, hkY, -⟩ := className_of_methodNamed hn
  have hinitY : kY.init = .initialized := Cond.initialized_spec (findClass_of_methodNamed hn) hkY h3
  have h : At U g.method c below := by rw [hg]; exact X.here
  have hlocals9 : W9 + (maxL + 11) + (headSpec ws rm).room.locals ≤ R.locals := hlocals
  have happ : (headSpec ws rm).appliesLoose y e.platform (U.calling g mk a) = true :=
    Spec.appliesLoose_calling (g := g) h hdg hn hkY hinitY
      (X.room_calling (g := g) (R' := (headSpec ws rm).room) hsize hmY hcY hframes (by rw [hlY]; omega) h4 h5) h1
  obtain ⟨mid, hmid⟩ := h.above
  have hfr : (U.setTop g).frames = (.java g :: mid) ++ below := by rw [State.frames_setTop' g h.top, hmid]; rfl
  obtain ⟨o, s₂, hsteps, -, hend, hq⟩ := Steps.callFree hM p X.admits X.cas X.clock (acts := []) hfr happ hPc trivial
  have hq' : vx_Q Qc XC mc ms free a (U.calling g mk a) o s₂ := hq
  rw [State.frames_setTop' g h.top] at hend
  obtain ⟨g₀, hg0⟩ := Option.isSome_iff_exists.mp h.top
  obtain ⟨r, hr⟩ := State.topJava?_eq_some.mp hg0
  have hr' : (({ U with heap := s₂.heap, slotsUsed := s₂.slotsUsed } : State).setVm s₂.vm).frames = .java g₀ :: r := hr
  rcases hq' with ⟨hqc, L, hfe, hL⟩ | ⟨q, rfl, E, ce, L, hx, hce, hcv, hcl, hW₂, hsm, hL⟩
  · obtain ⟨⟨v, rfl⟩, hW₂, e2, q2, q3, q4, q5, q6⟩ := id hfe
    have e3 : s₂ = ({ (U.calling g mk a).setFrames s₂.frames with heap := s₂.heap, slotsUsed := s₂.slotsUsed } : State).setVm s₂.vm := by
      have : s₂ = ({ s₂ with vm := (U.calling g mk a).vm } : State).setVm s₂.vm := rfl
      rw [e2] at this
      exact this
    obtain ⟨c₂, i₂, len₂, hc₂, hd₂, hf₂⟩ := hend
    have hW' : U.WarmedH s₂.vm := hW₂
    have hcc : c₂ = c := by
      have h1 : s₂.code? g.method = U.code? g.method := by
        rw [State.code?_eq, State.code?_eq, hW'.alike.method?]
      exact Option.some.inj (hc₂.symm.trans (h1.trans h.code))
    subst hcc
    have hlen : len₂ = len := by rw [hdg] at hd₂; cases hd₂; rfl
    subst hlen
    have hs₂ : s₂ = (({ U with heap := s₂.heap, slotsUsed := s₂.slotsUsed } : State).setVm s₂.vm).setTop { g with pc := g.pc + len₂, stack := v.toList ++ g.stack } := by
      refine e3.trans ?_
      rw [hf₂, State.calling_eq h.top, State.setFrames_setFrames, State.setTop_of_frames _ hr', hr]
      rfl
    have hsame : U.sameButNew ({ U with heap := s₂.heap, slotsUsed := s₂.slotsUsed } : State) L mc ms := by
      refine ⟨?_, q2, q3, q4, q5, q6⟩
      obtain ⟨t, ht, -⟩ := State.frames_cons hr
      show ({ U with heap := s₂.heap, slotsUsed := s₂.slotsUsed } : State) = { U.setFrames U.frames with heap := s₂.heap, slotsUsed := s₂.slotsUsed }
      rw [State.setFrames_self ht]
    subst hg
    refine Or.inl ⟨v, ⟨(({ U with heap := s₂.heap, slotsUsed := s₂.slotsUsed } : State).setVm s₂.vm), Ls ++ L, c0 + mc, s0 + ms⟩,
      ⟨X.admits, X.cas, X.clock, X.frames, X.room, X.hears, X.method, X.code, (X.here.setHeapUsed s₂.heap s₂.slotsUsed).setVm hW'.alike, X.tail, State.WarmedH.trans X.warmed hW', X.limits, X.bytes, X.same.trans (hsame.setVm s.vm)⟩,
      ⟨g, mk, s₂, L, rfl, rfl, hqc, rfl, hL, rfl, rfl⟩, ?_⟩
    show Steps p.tables e below _ ((({ U with heap := s₂.heap, slotsUsed := s₂.slotsUsed } : State).setVm s₂.vm).setTop { g with pc := g.pc + len₂, stack := v.toList ++ g.stack })
    rw [← hs₂]
    exact hsteps
  · obtain ⟨e2, q2, q3, q4, q5, q6⟩ := id hsm
    have e3 : s₂ = ({ (U.calling g mk a).setFrames s₂.frames with heap := s₂.heap, slotsUsed := s₂.slotsUsed } : State).setVm s₂.vm := by
      have : s₂ = ({ s₂ with vm := (U.calling g mk a).vm } : State).setVm s₂.vm := rfl
      rw [e2] at this
      exact this
    have hf₂ : s₂.frames = .throwing q :: .java g :: U.frames.tail := hend
    have hW' : U.WarmedH s₂.vm := hW₂
    have hs₂ : s₂ = ((({ U with heap := s₂.heap, slotsUsed := s₂.slotsUsed } : State).setVm s₂.vm).setTop g).pushFrame (.throwing q) := by
      refine e3.trans ?_
      rw [hf₂, State.calling_eq h.top, State.setFrames_setFrames, State.pushFrame, State.frames_setTop _ hr', State.setTop_of_frames _ hr', State.setFrames_setFrames, hr]
      rfl
    have hsame : U.sameButNew ({ U with heap := s₂.heap, slotsUsed := s₂.slotsUsed } : State) L mc ms := by
      refine ⟨?_, q2, q3, q4, q5, q6⟩
      obtain ⟨t, ht, -⟩ := State.frames_cons hr
      show ({ U with heap := s₂.heap, slotsUsed := s₂.slotsUsed } : State) = { U.setFrames U.frames with heap := s₂.heap, slotsUsed := s₂.slotsUsed }
      rw [State.setFrames_self ht]
    subst hg
    refine Or.inr ⟨q, ⟨(({ U with heap := s₂.heap, slotsUsed := s₂.slotsUsed } : State).setVm s₂.vm), Ls ++ L, c0 + mc, s0 + ms⟩,
      ⟨X.admits, X.cas, X.clock, X.frames, X.room, X.hears, X.method, X.code, (X.here.setHeapUsed s₂.heap s₂.slotsUsed).setVm hW'.alike, X.tail, State.WarmedH.trans X.warmed hW', X.limits, X.bytes, X.same.trans (hsame.setVm s.vm)⟩,
      ⟨g, mk, s₂, L, E, ce, rfl, rfl, hx, hce, hcv, hcl, rfl, hL, rfl, rfl⟩, ?_⟩
    show Steps p.tables e below _ (((({ U with heap := s₂.heap, slotsUsed := s₂.slotsUsed } : State).setVm s₂.vm).setTop g).pushFrame (.throwing q))
    rw [← hs₂]
    exact hsteps
end
variable {p : Program} {l : Launch} {e : Env} {R : Room} {s : State} {m : MethodId} {args : Array Value} {below : List Frame} {meth : Method} {c : Code} {T : State} {H : Heap} {locs : List Loc} {cells slots : Nat}
theorem vx_callVX (X : Stand p l e R s m args below meth c T locs cells slots) (hexec : p.tables.exec = Jvm.exec) {own C : String} {index : Nat} {y : MethodName} {bytes : ByteArray} {maxL : Nat} {ret : Option FieldType} {hh : List (Nat × Nat × Nat × Nat)}
    (hown : s.vm.findClass own = some m.cls) (hlink : (Cond.methodLink own index y).before args s = true) (hinst : (Cond.instanceMethod y).before args s = true) (hsel : (Cond.selects C y y).before args s = true)
    (hcode : (Cond.codeWith y bytes maxL ret hh).before args s = true) (hy : y.cls ≠ "java/lang/invoke/MethodHandle" ∧ y.cls ≠ "java/lang/invoke/VarHandle")
    {W9 : Nat} {Pre : Pt → Array Value → Prop} {Post : Pt → Array Value → Option Value → Pt → Prop} {PostX : Pt → Array Value → Addr → Pt → Prop} (hK : vx_Back l R p e below s args y 3 W9 Pre Post PostX)
    {b : Addr} {cellB : Cell} (hcell : T.heap[b]? = some cellB) (hobj : cellB.vm.isStatics = false) (hcls : s.vm.findClass C = some cellB.cls)
    {g : JFrame} (hg : g.method = m) (hsize : g.locals.size = c.maxLocals) {argsL rest : List Value} (hlen : ∀ sig, parseMethodDescriptor y.desc = some sig → argsL.length = sig.parameters.length)
    (hstack : g.stack = argsL.reverse ++ .ref b :: rest) (hW : 2 * g.monitorRoom + (rest.map fun v => v.category).sum ≤ W9) (hdg : decode c.code g.pc = .ok (.invokevirtual index, 3))
    (hpre : ∀ vm₁, s.WarmedH vm₁ → Pre ⟨T.setVm vm₁, locs, cells, slots⟩ (Value.ref b :: argsL).toArray) :
    (∃ (v : Option Value) (vm₁ : Vm) (B : Pt), s.WarmedH vm₁ ∧ Stand p l e R s m args below meth c B.U B.locs B.cells B.slots ∧ Post ⟨T.setVm vm₁, locs, cells, slots⟩ (Value.ref b :: argsL).toArray v B ∧
      ∀ target, Steps p.tables e below (B.U.setTop { g with pc := g.pc + 3, stack := v.toList ++ rest }) target → Steps p.tables e below (T.setTop g) target) ∨
    (∃ (q : Addr) (vm₁ : Vm) (B : Pt), s.WarmedH vm₁ ∧ Stand p l e R s m args below meth c B.U B.locs B.cells B.slots ∧ PostX ⟨T.setVm vm₁, locs, cells, slots⟩ (Value.ref b :: argsL).toArray q B ∧
      Steps p.tables e below (T.setTop g) ((B.U.setTop { g with stack := rest }).pushFrame (.throwing q))) := by
  obtain ⟨mk, methM, hnamed, hmethM, hstM, habM⟩ := Cond.instanceMethod_spec hinst
  obtain ⟨m8, methM', cM, hn8, hmethM', -, -, -, -, -, -, hsigM⟩ := Cond.codeWith_spec hcode
  cases Option.some.inj (hn8.symm.trans hnamed)
  cases hmethM.symm.trans hmethM'
  obtain ⟨c2, r2, m2, q1, q2, q3, q4, kP, hkP, hkPi⟩ := Cond.selects_spec hsel
  cases hcls.symm.trans q1
  cases (State.methodFound?_of_named hnamed hy).symm.trans q2
  cases hnamed.symm.trans q3
  have hselP : selectMethod e.platform s.vm cellB.cls mk = .method mk := by rw [Launch.admits_selectMethod X.admits]; exact q4
  obtain ⟨vm₁, X₁, hstep₁⟩ := X.invokevirtual hexec hown hlink hnamed hmethM hstM hkP hkPi hy (a := b) (cell := cellB) hcell
    (fun z h => by rw [h] at hobj; cases hobj) hselP hmethM habM hkP hkPi (g := g) hg (argsL := argsL) (rest := rest) (hlen _ hsigM) hstack hdg
  rcases hK m meth c ⟨T.setVm vm₁, locs, cells, slots⟩ { g with stack := rest } (.invokevirtual index) mk (Value.ref b :: argsL).toArray X₁ hg hsize hdg hW (X₁.named hnamed) (hpre vm₁ X₁.warmed) with ⟨v, B, X', hpost, hsteps⟩ | ⟨q, B, X', hpost, hsteps⟩
  · exact Or.inl ⟨v, vm₁, B, X₁.warmed, X', hpost, fun target h => hstep₁ _ fun acts => by rw [doInvoke_state]; exact hsteps.trans h⟩
  · exact Or.inr ⟨q, vm₁, B, X₁.warmed, X', hpost, hstep₁ _ fun acts => by rw [doInvoke_state]; exact hsteps⟩
theorem vx_callSX (X : Stand p l e R s m args below meth c T locs cells slots) (hexec : p.tables.exec = Jvm.exec) {own : String} {index : Nat} {y : MethodName} {bytes : ByteArray} {maxL : Nat} {ret : Option FieldType} {hh : List (Nat × Nat × Nat × Nat)}
    (hown : s.vm.findClass own = some m.cls) (hlink : (Cond.methodLink own index y).before args s = true) (hstat : (Cond.static y).before args s = true) (hinit : (Cond.initialized y.cls).before args s = true)
    (hcode : (Cond.codeWith y bytes maxL ret hh).before args s = true) (hy : y.cls ≠ "java/lang/invoke/MethodHandle" ∧ y.cls ≠ "java/lang/invoke/VarHandle")
    {W9 : Nat} {Pre : Pt → Array Value → Prop} {Post : Pt → Array Value → Option Value → Pt → Prop} {PostX : Pt → Array Value → Addr → Pt → Prop} (hK : vx_Back l R p e below s args y 3 W9 Pre Post PostX)
    {g : JFrame} (hg : g.method = m) (hsize : g.locals.size = c.maxLocals) {argsL rest : List Value} (hlen : ∀ sig, parseMethodDescriptor y.desc = some sig → argsL.length = sig.parameters.length)
    (hstack : g.stack = argsL.reverse ++ rest) (hW : 2 * g.monitorRoom + (rest.map fun v => v.category).sum ≤ W9) (hdg : decode c.code g.pc = .ok (.invokestatic index, 3))
    (hpre : ∀ vm₁, s.WarmedH vm₁ → Pre ⟨T.setVm vm₁, locs, cells, slots⟩ argsL.toArray) :
    (∃ (v : Option Value) (vm₁ : Vm) (B : Pt), s.WarmedH vm₁ ∧ Stand p l e R s m args below meth c B.U B.locs B.cells B.slots ∧ Post ⟨T.setVm vm₁, locs, cells, slots⟩ argsL.toArray v B ∧
      ∀ target, Steps p.tables e below (B.U.setTop { g with pc := g.pc + 3, stack := v.toList ++ rest }) target → Steps p.tables e below (T.setTop g) target) ∨
    (∃ (q : Addr) (vm₁ : Vm) (B : Pt), s.WarmedH vm₁ ∧ Stand p l e R s m args below meth c B.U B.locs B.cells B.slots ∧ PostX ⟨T.setVm vm₁, locs, cells, slots⟩ argsL.toArray q B ∧
      Steps p.tables e below (T.setTop g) ((B.U.setTop { g with stack := rest }).pushFrame (.throwing q))) := by
  obtain ⟨mk, methM, cM, hnamed, hmethM, -, -, -, -, -, -, hsigM⟩ := Cond.codeWith_spec hcode
  have hstatic : methM.isStatic = true := Cond.static_spec hnamed hmethM hstat
  obtain ⟨kP, hkP, -⟩ := className_of_methodNamed hnamed
  have hinitP : kP.init = .initialized := Cond.initialized_spec (findClass_of_methodNamed hnamed) hkP hinit
  obtain ⟨vm₁, X₁, hstep₁⟩ := X.invokestatic hexec hown hlink hnamed hmethM hstatic hkP hinitP hy (g := g) hg (argsL := argsL) (rest := rest) (hlen _ hsigM) hstack hdg
  rcases hK m meth c ⟨T.setVm vm₁, locs, cells, slots⟩ { g with stack := rest } (.invokestatic index) mk argsL.toArray X₁ hg hsize hdg hW (X₁.named hnamed) (hpre vm₁ X₁.warmed) with ⟨v, B, X', hpost, hsteps⟩ | ⟨q, B, X', hpost, hsteps⟩
  · exact Or.inl ⟨v, vm₁, B, X₁.warmed, X', hpost, fun target h => hstep₁ _ fun acts => by rw [doInvoke_state]; exact hsteps.trans h⟩
  · exact Or.inr ⟨q, vm₁, B, X₁.warmed, X', hpost, hstep₁ _ fun acts => by rw [doInvoke_state]; exact hsteps⟩
theorem vx_callVW (X : Stand p l e R s m args below meth c T locs cells slots) (hexec : p.tables.exec = Jvm.exec) {own C : String} {index : Nat} {y : MethodName} {bytes : ByteArray} {maxL : Nat} {ret : Option FieldType} {hh : List (Nat × Nat × Nat × Nat)}
    (hown : s.vm.findClass own = some m.cls) (hlink : (Cond.methodLink own index y).before args s = true) (hinst : (Cond.instanceMethod y).before args s = true) (hsel : (Cond.selects C y y).before args s = true)
    (hcode : (Cond.codeWith y bytes maxL ret hh).before args s = true) (hy : y.cls ≠ "java/lang/invoke/MethodHandle" ∧ y.cls ≠ "java/lang/invoke/VarHandle")
    {W9 : Nat} {Pre : Pt → Array Value → Prop} {Post : Pt → Array Value → Option Value → Pt → Prop} (hK : Back l R p e below s args y 3 W9 Pre Post)
    {b : Addr} {cellB : Cell} (hcell : T.heap[b]? = some cellB) (hobj : cellB.vm.isStatics = false) (hcls : s.vm.findClass C = some cellB.cls)
    {g : JFrame} (hg : g.method = m) (hsize : g.locals.size = c.maxLocals) {argsL rest : List Value} (hlen : ∀ sig, parseMethodDescriptor y.desc = some sig → argsL.length = sig.parameters.length)
    (hstack : g.stack = argsL.reverse ++ .ref b :: rest) (hW : 2 * g.monitorRoom + (rest.map fun v => v.category).sum ≤ W9) (hdg : decode c.code g.pc = .ok (.invokevirtual index, 3))
    (hpre : ∀ vm₁, s.WarmedH vm₁ → Pre ⟨T.setVm vm₁, locs, cells, slots⟩ (Value.ref b :: argsL).toArray) :
    ∃ (v : Option Value) (vm₁ : Vm) (B : Pt), s.WarmedH vm₁ ∧ Stand p l e R s m args below meth c B.U B.locs B.cells B.slots ∧ Post ⟨T.setVm vm₁, locs, cells, slots⟩ (Value.ref b :: argsL).toArray v B ∧
      ∀ target, Steps p.tables e below (B.U.setTop { g with pc := g.pc + 3, stack := v.toList ++ rest }) target → Steps p.tables e below (T.setTop g) target := by
  obtain ⟨mk, methM, hnamed, hmethM, hstM, habM⟩ := Cond.instanceMethod_spec hinst
  obtain ⟨m8, methM', cM, hn8, hmethM', -, -, -, -, -, -, hsigM⟩ := Cond.codeWith_spec hcode
  cases Option.some.inj (hn8.symm.trans hnamed)
  cases hmethM.symm.trans hmethM'
  obtain ⟨c2, r2, m2, q1, q2, q3, q4, kP, hkP, hkPi⟩ := Cond.selects_spec hsel
  cases hcls.symm.trans q1
  cases (State.methodFound?_of_named hnamed hy).symm.trans q2
  cases hnamed.symm.trans q3
  have hselP : selectMethod e.platform s.vm cellB.cls mk = .method mk := by rw [Launch.admits_selectMethod X.admits]; exact q4
  obtain ⟨vm₁, X₁, hstep₁⟩ := X.invokevirtual hexec hown hlink hnamed hmethM hstM hkP hkPi hy (a := b) (cell := cellB) hcell
    (fun z h => by rw [h] at hobj; cases hobj) hselP hmethM habM hkP hkPi (g := g) hg (argsL := argsL) (rest := rest) (hlen _ hsigM) hstack hdg
  obtain ⟨v, B, X', hpost, hsteps⟩ := hK m meth c ⟨T.setVm vm₁, locs, cells, slots⟩ { g with stack := rest } (.invokevirtual index) mk (Value.ref b :: argsL).toArray X₁ hg hsize hdg hW (X₁.named hnamed) (hpre vm₁ X₁.warmed)
  exact ⟨v, vm₁, B, X₁.warmed, X', hpost, fun target h => hstep₁ _ fun acts => by rw [doInvoke_state]; exact hsteps.trans h⟩
abbrev vx_CVW (R : Room) (s : State) (args : Array Value) (own C : String) (index : Nat) (y : MethodName) (bytes : ByteArray) (maxL : Nat) (ret : Option FieldType) (hh : List (Nat × Nat × Nat × Nat)) (ws : List Cond) (rm : Room) (mc ms n : Nat) : Prop :=
  (rm.cells = mc ∧ rm.slots = ms ∧ rm.frames + 1 ≤ R.frames ∧ 8 + (maxL + 11) + rm.locals ≤ R.locals ∧ (∀ w ∈ ws, ∀ (a' : Array Value) (U : State), s.WarmedH U.vm → w.before a' U = true) ∧ Cond.codeWith y bytes maxL ret hh ∈ ws) ∧
  (Cond.codeWith y bytes maxL ret hh).before args s = true ∧ (Cond.initialized y.cls).before args s = true ∧ (y.cls ≠ "java/lang/invoke/MethodHandle" ∧ y.cls ≠ "java/lang/invoke/VarHandle") ∧
  (∀ sig, parseMethodDescriptor y.desc = some sig → n = sig.parameters.length) ∧ (Cond.methodLink own index y).before args s = true ∧ (Cond.instanceMethod y).before args s = true ∧ (Cond.selects C y y).before args s = true
theorem vx_cwVW {own C : String} {index maxL mc ms : Nat} {y : MethodName} {bytes : ByteArray} {ret : Option FieldType} {hh : List (Nat × Nat × Nat × Nat)} {Ts ws ws' : List Cond} {rm : Room} (n : Nat) (ht : ∀ w ∈ Ts, w.before args s = true) (hT : GoodIn Ts (wsV own index C y ws)) (hw : ws = Cond.codeWith y bytes maxL ret hh :: ws') (hrc : rm.cells = mc) (hrs : rm.slots = ms)
    (hd : y.cls = C ∧ y.cls ≠ "java/lang/invoke/MethodHandle" ∧ y.cls ≠ "java/lang/invoke/VarHandle" ∧ (parseMethodDescriptor y.desc).map (fun d => d.parameters.length) = some n) (hR : rm.frames + 1 ≤ R.frames ∧ 8 + (maxL + 11) + rm.locals ≤ R.locals) :
    vx_CVW R s args own C index y bytes maxL ret hh ws rm mc ms n := by
  obtain ⟨hC, hd⟩ := hd
  subst hC
  have ok : ∀ w ∈ wsV own index y.cls y ws, w.before args s = true := fun w h => ht w (hT w h).1
  have hG : GoodIn Ts ws := fun w h => hT w (by unfold wsV; exact List.mem_append_right _ h)
  have hc : Cond.codeWith y bytes maxL ret hh ∈ ws := by rw [hw]; exact List.mem_cons_self
  refine ⟨⟨hrc, hrs, hR.1, hR.2, pay_in ht hG, hc⟩, ht _ (hG _ hc).1, ok _ (by simp [wsV]), ⟨hd.1, hd.2.1⟩, fun sig h => ?_, ok _ (by simp [wsV]), ok _ (by simp [wsV]), ok _ (by simp [wsV])⟩
  have h2 := hd.2.2
  rw [h] at h2
  exact (Option.some.inj h2).symm
theorem vx_runVW {y : MethodName} {bytes cc : ByteArray} {maxL nL mc ms n index : Nat} {ret : Option FieldType} {hh : List (Nat × Nat × Nat × Nat)} {ws : List Cond} {rm : Room} {Pc : Array Value → State → Prop} {Qc : Array Value → State → Outcome → State → Prop} {free : Addr → Prop} {Ts : List Cond} {own C : String} {b : Addr} {As rest : List Value} {g : JFrame}
    (S : CallFix p m c cc nL s args Ts own) (hM : Met l y ws rm Pc Qc mc ms free) (cw : vx_CVW R s args own C index y bytes maxL ret hh ws rm mc ms n) (hp : PreV s H C b Pc As)
    (hg : g.method = m) (hn : As.length = n) (hsize : g.locals.size = nL) (hstack : g.stack = As.reverse ++ .ref b :: rest) (hW : 2 * g.monitorRoom + (rest.map fun v => v.category).sum ≤ 8) (hdg : decode cc g.pc = .ok (.invokevirtual index, 3)) (hf : cells + mc ≤ R.cells ∧ slots + ms ≤ R.slots) :
    va_Run p l e R s m args below meth c H locs cells slots mc ms g rest (Qc (Value.ref b :: As).toArray) free := by
  obtain ⟨⟨hrc, hrs, hfr, hlo, hws, hcw⟩, hcode, hini, hy, hlen, hl, hin, hse⟩ := cw
  have hK : Back l R p e below s args y 3 8 (PreOf R mc ms Pc) (PostOf Qc mc ms free) := va_backW (hh := hh) (bytes := bytes) (maxL := maxL) (ret := ret) hM hp.1 hrc hrs hfr hlo hws hcw (fun a' U hW => word_at hW (Or.inl (by first | rfl | simp [Cond.onTables, Cond.keeps, Cond.steady])) hini)
  obtain ⟨hx, hb, hml, ho, -⟩ := S
  obtain ⟨-, ⟨cellB, hcB, hoB, hclB⟩, hPc⟩ := hp
  intro T hT X
  obtain ⟨v, vm₁, ⟨U', l2, c2, s2⟩, hW₁, X', ⟨g', mk, t, L, e1, e2, hq, h1, hL, h2, h3⟩, st⟩ := vx_callVW X hx (C := C) (hh := hh) (bytes := bytes) (maxL := maxL) (ret := ret) ho hl hin hse hcode hy hK (by rw [hT]; exact hcB) hoB hclB hg (hsize.trans hml.symm) (argsL := As) (rest := rest) (fun sig h => hn.trans (hlen sig h)) hstack hW (by rw [hb]; exact hdg)
    (fun vm₁ hW₁ => ⟨hf.1, hf.2, hPc (T.setVm vm₁) hT hW₁⟩)
  dsimp only [Pt.U, Pt.locs, Pt.cells, Pt.slots] at X' e1 e2 h1 h2 h3 st
  subst h1; subst h2; subst h3
  exact ⟨v, (T.setVm vm₁).calling g' mk (Value.ref b :: As).toArray, t, U', L, hT, X', hL, e1, e2, hq, st⟩
section
variable {y : MethodName} {bytes cc : ByteArray} {maxL nL mc ms n index : Nat} {ret : Option FieldType} {ws : List Cond} {rm : Room} {Pc : Array Value → State → Prop} {Qc : Array Value → State → Outcome → State → Prop} {XC : String → State → State → Prop} {free : Addr → Prop} {Ts : List Cond} {own C : String} {b : Addr} {As rest : List Value} {g : JFrame}
theorem vx_runVX {hh : List (Nat × Nat × Nat × Nat)} (S : CallFix p m c cc nL s args Ts own) (hM : vx_Met l y ws rm Pc Qc XC mc ms free) (cw : vx_CVW R s args own C index y bytes maxL ret hh ws rm mc ms n) (hp : PreV s H C b Pc As)
    (hg : g.method = m) (hn : As.length = n) (hsize : g.locals.size = nL) (hstack : g.stack = As.reverse ++ .ref b :: rest) (hW : 2 * g.monitorRoom + (rest.map fun v => v.category).sum ≤ 8) (hdg : decode cc g.pc = .ok (.invokevirtual index, 3)) (hf : cells + mc ≤ R.cells ∧ slots + ms ≤ R.slots) :
    vx_Run p l e R s m args below meth c H locs cells slots mc ms g rest (Qc (Value.ref b :: As).toArray) XC free := by
  obtain ⟨⟨hrc, hrs, hfr, hlo, hws, hcw⟩, hcode, hini, hy, hlen, hl, hin, hse⟩ := cw
  have hK : vx_Back l R p e below s args y 3 8 (PreOf R mc ms Pc) (PostOf Qc mc ms free) (vx_Post XC mc ms free) := vx_backW (hh := hh) (bytes := bytes) (maxL := maxL) (ret := ret) hM hp.1 hrc hrs hfr hlo hws hcw (fun a' U hW => word_at hW (Or.inl (by first | rfl | simp [Cond.onTables, Cond.keeps, Cond.steady])) hini)
  obtain ⟨hx, hb, hml, ho, -⟩ := S
  obtain ⟨-, ⟨cellB, hcB, hoB, hclB⟩, hPc⟩ := hp
  intro T hT X
  rcases vx_callVX X hx (C := C) (hh := hh) (bytes := bytes) (maxL := maxL) (ret := ret) ho hl hin hse hcode hy hK (by rw [hT]; exact hcB) hoB hclB hg (hsize.trans hml.symm) (argsL := As) (rest := rest) (fun sig h => hn.trans (hlen sig h)) hstack hW (by rw [hb]; exact hdg)
    (fun vm₁ hW₁ => ⟨hf.1, hf.2, hPc (T.setVm vm₁) hT hW₁⟩) with ⟨v, vm₁, ⟨U', l2, c2, s2⟩, hW₁, X', ⟨g', mk, t, L, e1, e2, hq, h1, hL, h2, h3⟩, st⟩ | ⟨q, vm₁, ⟨U', l2, c2, s2⟩, hW₁, X', ⟨g', mk, t, L, E, ce, e1, e2, hq, hce, hcv, hcl, h1, hL, h2, h3⟩, st⟩
  · dsimp only [Pt.U, Pt.locs, Pt.cells, Pt.slots] at X' e1 e2 h1 h2 h3 st
    subst h1; subst h2; subst h3
    exact Or.inl ⟨v, (T.setVm vm₁).calling g' mk (Value.ref b :: As).toArray, t, U', L, hT, X', hL, e1, e2, hq, st⟩
  · dsimp only [Pt.U, Pt.locs, Pt.cells, Pt.slots] at X' e1 e2 h1 h2 h3 st hcl
    subst h1; subst h2; subst h3
    exact Or.inr ⟨q, (T.setVm vm₁).calling g' mk (Value.ref b :: As).toArray, t, U', L, E, ce, hT, X', hL, e1, e2, hq, hce, hcv, vx_cls hW₁ hcl, st⟩
theorem vx_runSX {hh : List (Nat × Nat × Nat × Nat)} (S : CallFix p m c cc nL s args Ts own) (hM : vx_Met l y ws rm Pc Qc XC mc ms free) (cw : vx_CSW R s args own index y bytes maxL ret hh ws rm mc ms n) (hp : PreS s H Pc As)
    (hg : g.method = m) (hn : As.length = n) (hsize : g.locals.size = nL) (hstack : g.stack = As.reverse ++ rest) (hW : 2 * g.monitorRoom + (rest.map fun v => v.category).sum ≤ 8) (hdg : decode cc g.pc = .ok (.invokestatic index, 3)) (hf : cells + mc ≤ R.cells ∧ slots + ms ≤ R.slots) :
    vx_Run p l e R s m args below meth c H locs cells slots mc ms g rest (Qc As.toArray) XC free := by
  obtain ⟨⟨hrc, hrs, hfr, hlo, hws, hcw⟩, hcode, hini, hy, hlen, hl, hstt⟩ := cw
  have hK : vx_Back l R p e below s args y 3 8 (PreOf R mc ms Pc) (PostOf Qc mc ms free) (vx_Post XC mc ms free) := vx_backW (hh := hh) (bytes := bytes) (maxL := maxL) (ret := ret) hM hp.1 hrc hrs hfr hlo hws hcw (fun a' U hW => word_at hW (Or.inl (by first | rfl | simp [Cond.onTables, Cond.keeps, Cond.steady])) hini)
  obtain ⟨hx, hb, hml, ho, -⟩ := S
  intro T hT X
  rcases vx_callSX X hx (hh := hh) (bytes := bytes) (maxL := maxL) (ret := ret) ho hl hstt hini hcode hy hK hg (hsize.trans hml.symm) (argsL := As) (rest := rest) (fun sig h => hn.trans (hlen sig h)) hstack hW (by rw [hb]; exact hdg)
    (fun vm₁ hW₁ => ⟨hf.1, hf.2, hp.2 (T.setVm vm₁) hT hW₁⟩) with ⟨v, vm₁, ⟨U', l2, c2, s2⟩, hW₁, X', ⟨g', mk, t, L, e1, e2, hq, h1, hL, h2, h3⟩, st⟩ | ⟨q, vm₁, ⟨U', l2, c2, s2⟩, hW₁, X', ⟨g', mk, t, L, E, ce, e1, e2, hq, hce, hcv, hcl, h1, hL, h2, h3⟩, st⟩
  · dsimp only [Pt.U, Pt.locs, Pt.cells, Pt.slots] at X' e1 e2 h1 h2 h3 st
    subst h1; subst h2; subst h3
    exact Or.inl ⟨v, (T.setVm vm₁).calling g' mk As.toArray, t, U', L, hT, X', hL, e1, e2, hq, st⟩
  · dsimp only [Pt.U, Pt.locs, Pt.cells, Pt.slots] at X' e1 e2 h1 h2 h3 st hcl
    subst h1; subst h2; subst h3
    exact Or.inr ⟨q, (T.setVm vm₁).calling g' mk As.toArray, t, U', L, E, ce, hT, X', hL, e1, e2, hq, hce, hcv, vx_cls hW₁ hcl, st⟩
end
end VXH
theorem vx_ofWH {l : Launch} {y : MethodName} {ws ws' : List Cond} {rm : Room} {Pc : Array Value → State → Prop} {Qc : Array Value → State → Outcome → State → Prop} {XC : String → State → State → Prop} {mc ms : Nat} {free : Addr → Prop} {cc : ByteArray} {maxL : Nat} {ret : Option FieldType} {hh : List (Nat × Nat × Nat × Nat)}
    (hy : plainName y.cls = true) (hw : ws = Cond.codeWith y cc maxL ret hh :: ws')
    (body : ∀ p e s m args below meth c s₁, BodyLoose p l y (headSpec ws rm) cc maxL ret e s m args below meth c s₁ → c.maxLocals = maxL → Pc args s →
      W p l e (headSpec ws rm).room s m args below meth c s.heap [] 0 0 (vx_MQ below Qc XC args s mc ms free) (entryFrame m args maxL)) : vx_Met l y ws rm Pc Qc XC mc ms free := by
  refine MetFree.of_bodyS (code := cc) (maxLocals := maxL) (ret := ret) hy ?_ ?_
  · intro args s m h hn
    obtain ⟨m9, meth, c, hn9, h1, h2, h3, h4, -, h5, h6, -⟩ := Cond.codeWith_spec (atoms_spec (ws := ws) h _ (by rw [hw]; exact List.mem_cons_self))
    cases hn.symm.trans hn9
    exact ⟨meth, c, h1, h2, h3, h4, h5, h6⟩
  · intro p e s m args below meth c s₁ B hml hP _
    have hh0 : s₁.heap = s.heap := by rw [B.state]; rfl
    obtain ⟨t, a1, o, b1, b2, b3⟩ := body p e s m args below meth c s₁ B hml hP s₁ hh0 (Stand.of_body B)
    exact ⟨t, o, a1, b1, b2, b3⟩
/-! ===== END ===== -/
end
section
/-- the name of the method of that owner and type, of so many letters, of which the tables have the code -/
def nmAt (C d : String) (n : Nat) : MethodName := match tables_1.find? (fun w => match w with | .code y _ _ _ => y.cls == C && y.desc == d && y.name.length == n | _ => false) with
  | some (.code y _ _ _) => y
  | _ => ⟨C, "", d⟩
def RX0 : String := "VariantDesk$Entry"
def TX0 : u_T := fun k => match k with
  | 0 => ("VariantDesk$Entry", "id", "[I", true)
  | 1 => ("VariantDesk$Entry", "letters", "[I", true)
  | 2 => ("VariantDesk$Entry", "rowSize", "[I", true)
  | 3 => ("VariantDesk$Entry", "calls", "[I", true)
  | 4 => ("VariantDesk$Entry", "callCount", "[I", true)
  | 5 => ("VariantDesk$Entry", "phased", "[Z", true)
  | 6 => ("VariantDesk$Entry", "sequence", "I", false)
  | 7 => ("VariantDesk$Entry", "place", "I", false)
  | 8 => ("VariantDesk$Entry", "rows", "I", false)
  | 9 => ("VariantDesk$Entry", "quality", "I", false)
  | 10 => ("VariantDesk$Entry", "passed", "Z", false)
  | 11 => ("VariantDesk$Entry", "idSize", "I", false)
  | 12 => ("VariantDesk$Entry", "oldIndex", "I", false)
  | _ => ("VariantDesk$Entry", "partner", "I", false)
def tyX0 : Nat → FieldType := fun k => match k with
  | 0 => .array .int
  | 1 => .array .int
  | 2 => .array .int
  | 3 => .array .int
  | 4 => .array .int
  | 5 => .array .boolean
  | 6 => .int
  | 7 => .int
  | 8 => .int
  | 9 => .int
  | 10 => .boolean
  | 11 => .int
  | 12 => .int
  | _ => .int
abbrev wsX00 : List Cond := u_ws RX0 TX0 14
theorem nmX0 : ∀ a, a < 14 → ∀ b, b < 14 → a ≠ b → (TX0 a).2.1 ≠ (TX0 b).2.1 := by decide +kernel
theorem tyX0_ok : ∀ k, k < 14 → parseFieldDescriptor (TX0 k).2.2.1 = some (tyX0 k) := by decide +kernel
abbrev cX0_init : ByteArray := prog_2_method_1_code
def yX0_init : MethodName := ⟨RX0, "<init>", "()V"⟩
abbrev cX0_copyFrom : ByteArray := prog_2_method_2_code
def yX0_copyFrom : MethodName := ⟨RX0, "copyFrom", "(LVariantDesk$Entry;)V"⟩
abbrev cX0_copyHead : ByteArray := prog_2_method_3_code
def yX0_copyHead : MethodName := ⟨RX0, "copyHead", "(LVariantDesk$Entry;)V"⟩
abbrev cX0_copyCalls : ByteArray := prog_2_method_4_code
def yX0_copyCalls : MethodName := ⟨RX0, "copyCalls", "(ILVariantDesk$Entry;I)V"⟩
abbrev cX0_setNoCall : ByteArray := prog_2_method_5_code
def yX0_setNoCall : MethodName := ⟨RX0, "setNoCall", "(I)V"⟩
abbrev cX0_setCall : ByteArray := prog_2_method_6_code
def yX0_setCall : MethodName := ⟨RX0, "setCall", "(III)V"⟩
abbrev cX0_callAt : ByteArray := prog_2_method_7_code
def yX0_callAt : MethodName := ⟨RX0, "callAt", "(II)I"⟩
abbrev cX0_letterAt : ByteArray := prog_2_method_8_code
def yX0_letterAt : MethodName := ⟨RX0, "letterAt", "(II)I"⟩
abbrev cX0_addLetter : ByteArray := prog_2_method_9_code
def yX0_addLetter : MethodName := ⟨RX0, "addLetter", "(II)V"⟩
abbrev cX0_addIdOctet : ByteArray := prog_2_method_10_code
def yX0_addIdOctet : MethodName := ⟨RX0, "addIdOctet", "(I)V"⟩
abbrev cX0_copyRow : ByteArray := prog_2_method_11_code
def yX0_copyRow : MethodName := ⟨RX0, "copyRow", "(ILVariantDesk$Entry;I)V"⟩
abbrev cX0_rowIs : ByteArray := prog_2_method_12_code
def yX0_rowIs : MethodName := ⟨RX0, "rowIs", "(ILVariantDesk$Entry;I)Z"⟩
abbrev cX0_hasAlts : ByteArray := prog_2_method_13_code
def yX0_hasAlts : MethodName := ⟨RX0, "hasAlts", "()Z"⟩
abbrev cX0_standsBehind : ByteArray := prog_2_method_14_code
def yX0_standsBehind : MethodName := ⟨RX0, "standsBehind", "(LVariantDesk$Entry;)Z"⟩
abbrev cX0_standsWith : ByteArray := prog_2_method_15_code
def yX0_standsWith : MethodName := ⟨RX0, "standsWith", "(LVariantDesk$Entry;)Z"⟩
abbrev cX0_hasAllRowsOf : ByteArray := prog_2_method_16_code
def yX0_hasAllRowsOf : MethodName := ⟨RX0, "hasAllRowsOf", "(LVariantDesk$Entry;)Z"⟩
abbrev cX0_makeNormal : ByteArray := prog_2_method_17_code
def yX0_makeNormal : MethodName := ⟨RX0, "makeNormal", "(LVariantDesk$Genome;)Z"⟩
abbrev cX0_shortestRow : ByteArray := prog_2_method_18_code
def yX0_shortestRow : MethodName := ⟨RX0, "shortestRow", "()I"⟩
abbrev cX0_cutEnds : ByteArray := prog_2_method_19_code
def yX0_cutEnds : MethodName := ⟨RX0, "cutEnds", "(LVariantDesk$Genome;)I"⟩
abbrev cX0_stepsToLeft : ByteArray := prog_2_method_20_code
def yX0_stepsToLeft : MethodName := ⟨RX0, "stepsToLeft", "(LVariantDesk$Genome;)I"⟩
abbrev cX0_endAlikeAfter : ByteArray := prog_2_method_21_code
def yX0_endAlikeAfter : MethodName := ⟨RX0, "endAlikeAfter", "(ILVariantDesk$Genome;)Z"⟩
abbrev cX0_movedLetter : ByteArray := prog_2_method_22_code
def yX0_movedLetter : MethodName := ⟨RX0, "movedLetter", "(IIILVariantDesk$Genome;)I"⟩
abbrev cX0_moveLeft : ByteArray := prog_2_method_23_code
def yX0_moveLeft : MethodName := ⟨RX0, "moveLeft", "(ILVariantDesk$Genome;)V"⟩
abbrev cX0_cutBeginnings : ByteArray := prog_2_method_24_code
def yX0_cutBeginnings : MethodName := ⟨RX0, "cutBeginnings", "()I"⟩
abbrev cX0_alikeAt : ByteArray := prog_2_method_25_code
def yX0_alikeAt : MethodName := ⟨RX0, "alikeAt", "(I)Z"⟩
abbrev cX0_takeAlt : ByteArray := prog_2_method_26_code
def yX0_takeAlt : MethodName := ⟨RX0, "takeAlt", "(LVariantDesk$Entry;II)V"⟩
abbrev cX0_canReach : ByteArray := prog_2_method_27_code
def yX0_canReach : MethodName := ⟨RX0, "canReach", "(I)Z"⟩
abbrev cX0_reachAsFarAs : ByteArray := prog_2_method_28_code
def yX0_reachAsFarAs : MethodName := ⟨RX0, "reachAsFarAs", "(LVariantDesk$Entry;)V"⟩
abbrev cX0_altLike : ByteArray := prog_2_method_29_code
def yX0_altLike : MethodName := ⟨RX0, "altLike", "(LVariantDesk$Entry;I)I"⟩
abbrev cX0_meansSameAs : ByteArray := prog_2_method_30_code
def yX0_meansSameAs : MethodName := ⟨RX0, "meansSameAs", "(LVariantDesk$Entry;LVariantDesk$Genome;)Z"⟩
abbrev cX0_growth : ByteArray := prog_2_method_31_code
def yX0_growth : MethodName := ⟨RX0, "growth", "()I"⟩
abbrev cX0_letterAfter : ByteArray := prog_2_method_32_code
def yX0_letterAfter : MethodName := ⟨RX0, "letterAfter", "(ILVariantDesk$Genome;)I"⟩
abbrev cX0_writeTo : ByteArray := prog_2_method_33_code
def yX0_writeTo : MethodName := ⟨RX0, "writeTo", "(LVariantDesk$Octets;ILVariantDesk$Genome;)V"⟩
abbrev cX0_writeRow : ByteArray := prog_2_method_34_code
def yX0_writeRow : MethodName := ⟨RX0, "writeRow", "(ILVariantDesk$Octets;)V"⟩
abbrev cX0_writeAlts : ByteArray := prog_2_method_35_code
def yX0_writeAlts : MethodName := ⟨RX0, "writeAlts", "(LVariantDesk$Octets;)V"⟩
abbrev cX0_writeCalls : ByteArray := prog_2_method_36_code
def yX0_writeCalls : MethodName := ⟨RX0, "writeCalls", "(ILVariantDesk$Octets;)V"⟩
def RX1 : String := "VariantDesk$Genome"
def TX1 : u_T := fun k => match k with
  | 0 => ("VariantDesk$Genome", "names", "LVariantDesk$Names;", true)
  | 1 => ("VariantDesk$Genome", "letters", "[I", true)
  | 2 => ("VariantDesk$Genome", "start", "[I", true)
  | 3 => ("VariantDesk$Genome", "size", "[I", true)
  | 4 => ("VariantDesk$Genome", "width", "[I", true)
  | 5 => ("VariantDesk$Genome", "textPlace", "[I", true)
  | 6 => ("VariantDesk$Genome", "count", "I", false)
  | _ => ("VariantDesk$Genome", "total", "I", false)
def tyX1 : Nat → FieldType := fun k => match k with
  | 0 => .object "VariantDesk$Names"
  | 1 => .array .int
  | 2 => .array .int
  | 3 => .array .int
  | 4 => .array .int
  | 5 => .array .int
  | 6 => .int
  | _ => .int
abbrev wsX10 : List Cond := u_ws RX1 TX1 8
theorem nmX1 : ∀ a, a < 8 → ∀ b, b < 8 → a ≠ b → (TX1 a).2.1 ≠ (TX1 b).2.1 := by decide +kernel
theorem tyX1_ok : ∀ k, k < 8 → parseFieldDescriptor (TX1 k).2.2.1 = some (tyX1 k) := by decide +kernel
abbrev cX1_init : ByteArray := prog_3_method_1_code
def yX1_init : MethodName := ⟨RX1, "<init>", "()V"⟩
abbrev cX1_clear : ByteArray := prog_3_method_2_code
def yX1_clear : MethodName := ⟨RX1, "clear", "()V"⟩
abbrev cX1_open : ByteArray := prog_3_method_3_code
def yX1_open : MethodName := nmAt RX1 "()V" 4
abbrev cX1_addLetter : ByteArray := prog_3_method_4_code
def yX1_addLetter : MethodName := ⟨RX1, "addLetter", "(II)V"⟩
abbrev cX1_setWidth : ByteArray := prog_3_method_5_code
def yX1_setWidth : MethodName := ⟨RX1, "setWidth", "(I)V"⟩
abbrev cX1_has : ByteArray := prog_3_method_6_code
def yX1_has : MethodName := ⟨RX1, "has", "(I)Z"⟩
abbrev cX1_sizeOf : ByteArray := prog_3_method_7_code
def yX1_sizeOf : MethodName := ⟨RX1, "sizeOf", "(I)I"⟩
abbrev cX1_letterAt : ByteArray := prog_3_method_8_code
def yX1_letterAt : MethodName := ⟨RX1, "letterAt", "(II)I"⟩
abbrev cX1_writeLetters : ByteArray := prog_3_method_9_code
def yX1_writeLetters : MethodName := ⟨RX1, "writeLetters", "(IIILVariantDesk$Octets;)V"⟩
def RX2 : String := "VariantDesk$GenomeReader"
def TX2 : u_T := fun k => match k with
  | 0 => ("VariantDesk$GenomeReader", "tape", "LVariantDesk$Octets;", true)
  | 1 => ("VariantDesk$GenomeReader", "genome", "LVariantDesk$Genome;", true)
  | 2 => ("VariantDesk$GenomeReader", "state", "I", false)
  | 3 => ("VariantDesk$GenomeReader", "at", "I", false)
  | 4 => ("VariantDesk$GenomeReader", "nameSize", "I", false)
  | 5 => ("VariantDesk$GenomeReader", "nameStart", "I", false)
  | 6 => ("VariantDesk$GenomeReader", "width", "I", false)
  | 7 => ("VariantDesk$GenomeReader", "lineSize", "I", false)
  | 8 => ("VariantDesk$GenomeReader", "lastLineSize", "I", false)
  | 9 => ("VariantDesk$GenomeReader", "fault", "I", false)
  | _ => ("VariantDesk$GenomeReader", "faultPlace", "I", false)
def tyX2 : Nat → FieldType := fun k => match k with
  | 0 => .object "VariantDesk$Octets"
  | 1 => .object "VariantDesk$Genome"
  | 2 => .int
  | 3 => .int
  | 4 => .int
  | 5 => .int
  | 6 => .int
  | 7 => .int
  | 8 => .int
  | 9 => .int
  | _ => .int
abbrev wsX20 : List Cond := u_ws RX2 TX2 11
theorem nmX2 : ∀ a, a < 11 → ∀ b, b < 11 → a ≠ b → (TX2 a).2.1 ≠ (TX2 b).2.1 := by decide +kernel
theorem tyX2_ok : ∀ k, k < 11 → parseFieldDescriptor (TX2 k).2.2.1 = some (tyX2 k) := by decide +kernel
abbrev cX2_init : ByteArray := prog_4_method_1_code
def yX2_init : MethodName := ⟨RX2, "<init>", "(LVariantDesk$Octets;LVariantDesk$Genome;)V"⟩
abbrev cX2_run : ByteArray := prog_4_method_2_code
def yX2_run : MethodName := ⟨RX2, "run", "()Z"⟩
abbrev cX2_fail : ByteArray := prog_4_method_3_code
def yX2_fail : MethodName := ⟨RX2, "fail", "(I)Z"⟩
abbrev cX2_take : ByteArray := prog_4_method_4_code
def yX2_take : MethodName := ⟨RX2, "take", "(I)Z"⟩
abbrev cX2_takeAtLineStart : ByteArray := prog_4_method_5_code
def yX2_takeAtLineStart : MethodName := ⟨RX2, "takeAtLineStart", "(I)Z"⟩
abbrev cX2_openSequence : ByteArray := prog_4_method_6_code
def yX2_openSequence : MethodName := ⟨RX2, "openSequence", "()Z"⟩
abbrev cX2_takeInName : ByteArray := prog_4_method_7_code
def yX2_takeInName : MethodName := ⟨RX2, "takeInName", "(I)Z"⟩
abbrev cX2_takeInRemark : ByteArray := prog_4_method_8_code
def yX2_takeInRemark : MethodName := ⟨RX2, "takeInRemark", "(I)Z"⟩
abbrev cX2_endNameLine : ByteArray := prog_4_method_9_code
def yX2_endNameLine : MethodName := ⟨RX2, "endNameLine", "()Z"⟩
abbrev cX2_takeInLetters : ByteArray := prog_4_method_10_code
def yX2_takeInLetters : MethodName := ⟨RX2, "takeInLetters", "(I)Z"⟩
abbrev cX2_endLetterLine : ByteArray := prog_4_method_11_code
def yX2_endLetterLine : MethodName := ⟨RX2, "endLetterLine", "()V"⟩
abbrev cX2_takeLetter : ByteArray := prog_4_method_12_code
def yX2_takeLetter : MethodName := ⟨RX2, "takeLetter", "(I)Z"⟩
abbrev cX2_isNameOctet : ByteArray := prog_4_method_13_code
def yX2_isNameOctet : MethodName := ⟨RX2, "isNameOctet", "(I)Z"⟩
def RX3 : String := "VariantDesk$Haplotype"
def TX3 : u_T := fun k => match k with
  | 0 => ("VariantDesk$Haplotype", "chosen", "[I", true)
  | 1 => ("VariantDesk$Haplotype", "from", "[I", true)
  | 2 => ("VariantDesk$Haplotype", "size", "[I", true)
  | 3 => ("VariantDesk$Haplotype", "newFrom", "[I", true)
  | 4 => ("VariantDesk$Haplotype", "newSize", "[I", true)
  | 5 => ("VariantDesk$Haplotype", "chosenCount", "I", false)
  | 6 => ("VariantDesk$Haplotype", "count", "I", false)
  | 7 => ("VariantDesk$Haplotype", "total", "I", false)
  | _ => ("VariantDesk$Haplotype", "newTotal", "I", false)
def tyX3 : Nat → FieldType := fun k => match k with
  | 0 => .array .int
  | 1 => .array .int
  | 2 => .array .int
  | 3 => .array .int
  | 4 => .array .int
  | 5 => .int
  | 6 => .int
  | 7 => .int
  | _ => .int
abbrev wsX30 : List Cond := u_ws RX3 TX3 9
theorem nmX3 : ∀ a, a < 9 → ∀ b, b < 9 → a ≠ b → (TX3 a).2.1 ≠ (TX3 b).2.1 := by decide +kernel
theorem tyX3_ok : ∀ k, k < 9 → parseFieldDescriptor (TX3 k).2.2.1 = some (tyX3 k) := by decide +kernel
abbrev cX3_init : ByteArray := prog_5_method_1_code
def yX3_init : MethodName := ⟨RX3, "<init>", "()V"⟩
abbrev cX3_clear : ByteArray := prog_5_method_2_code
def yX3_clear : MethodName := ⟨RX3, "clear", "()V"⟩
abbrev cX3_choose : ByteArray := prog_5_method_3_code
def yX3_choose : MethodName := ⟨RX3, "choose", "(LVariantDesk$Sheet;III)V"⟩
abbrev cX3_insert : ByteArray := prog_5_method_4_code
def yX3_insert : MethodName := ⟨RX3, "insert", "(LVariantDesk$Sheet;I)V"⟩
abbrev cX3_clashes : ByteArray := prog_5_method_5_code
def yX3_clashes : MethodName := ⟨RX3, "clashes", "(LVariantDesk$Sheet;)Z"⟩
abbrev cX3_putOn : ByteArray := prog_5_method_6_code
def yX3_putOn : MethodName := ⟨RX3, "putOn", "(LVariantDesk$Sheet;IILVariantDesk$Genome;ILVariantDesk$Octets;)V"⟩
abbrev cX3_carriedTo : ByteArray := prog_5_method_7_code
def yX3_carriedTo : MethodName := ⟨RX3, "carriedTo", "(I)I"⟩
abbrev cX3_backTo : ByteArray := prog_5_method_8_code
def yX3_backTo : MethodName := ⟨RX3, "backTo", "(I)I"⟩
abbrev cX3_moved : ByteArray := prog_5_method_9_code
def yX3_moved : MethodName := ⟨RX3, "moved", "(I[I[I[I[I)I"⟩
def RX4 : String := "VariantDesk$Joiner"
def TX4 : u_T := fun k => match k with
  | 0 => ("VariantDesk$Joiner", "first", "LVariantDesk$Entry;", true)
  | 1 => ("VariantDesk$Joiner", "second", "LVariantDesk$Entry;", true)
  | _ => ("VariantDesk$Joiner", "newNumber", "[I", true)
def tyX4 : Nat → FieldType := fun k => match k with
  | 0 => .object "VariantDesk$Entry"
  | 1 => .object "VariantDesk$Entry"
  | _ => .array .int
abbrev wsX40 : List Cond := u_ws RX4 TX4 3
theorem nmX4 : ∀ a, a < 3 → ∀ b, b < 3 → a ≠ b → (TX4 a).2.1 ≠ (TX4 b).2.1 := by decide +kernel
theorem tyX4_ok : ∀ k, k < 3 → parseFieldDescriptor (TX4 k).2.2.1 = some (tyX4 k) := by decide +kernel
abbrev cX4_init : ByteArray := prog_6_method_1_code
def yX4_init : MethodName := ⟨RX4, "<init>", "()V"⟩
abbrev cX4_joins : ByteArray := prog_6_method_2_code
def yX4_joins : MethodName := ⟨RX4, "joins", "(LVariantDesk$Entry;LVariantDesk$Entry;I)Z"⟩
abbrev cX4_takeAlts : ByteArray := prog_6_method_3_code
def yX4_takeAlts : MethodName := ⟨RX4, "takeAlts", "()Z"⟩
abbrev cX4_joinCalls : ByteArray := prog_6_method_4_code
def yX4_joinCalls : MethodName := ⟨RX4, "joinCalls", "(I)V"⟩
abbrev cX4_joinedPhase : ByteArray := prog_6_method_5_code
def yX4_joinedPhase : MethodName := ⟨RX4, "joinedPhase", "(I)Z"⟩
abbrev cX4_joinedCall : ByteArray := prog_6_method_6_code
def yX4_joinedCall : MethodName := ⟨RX4, "joinedCall", "(II)I"⟩
def RX5 : String := "VariantDesk$Names"
def TX5 : u_T := fun k => match k with
  | 0 => ("VariantDesk$Names", "limit", "I", true)
  | 1 => ("VariantDesk$Names", "octets", "[I", true)
  | 2 => ("VariantDesk$Names", "size", "[I", true)
  | _ => ("VariantDesk$Names", "count", "I", false)
def tyX5 : Nat → FieldType := fun k => match k with
  | 0 => .int
  | 1 => .array .int
  | 2 => .array .int
  | _ => .int
abbrev wsX50 : List Cond := u_ws RX5 TX5 4
theorem nmX5 : ∀ a, a < 4 → ∀ b, b < 4 → a ≠ b → (TX5 a).2.1 ≠ (TX5 b).2.1 := by decide +kernel
theorem tyX5_ok : ∀ k, k < 4 → parseFieldDescriptor (TX5 k).2.2.1 = some (tyX5 k) := by decide +kernel
abbrev cX5_init : ByteArray := prog_7_method_1_code
def yX5_init : MethodName := ⟨RX5, "<init>", "(I)V"⟩
abbrev cX5_clear : ByteArray := prog_7_method_2_code
def yX5_clear : MethodName := ⟨RX5, "clear", "()V"⟩
abbrev cX5_open : ByteArray := prog_7_method_3_code
def yX5_open : MethodName := nmAt RX5 "()V" 4
abbrev cX5_add : ByteArray := prog_7_method_4_code
def yX5_add : MethodName := ⟨RX5, "add", "(I)V"⟩
abbrev cX5_addAll : ByteArray := prog_7_method_5_code
def yX5_addAll : MethodName := ⟨RX5, "addAll", "(LVariantDesk$Names;)V"⟩
abbrev cX5_sizeOf : ByteArray := prog_7_method_6_code
def yX5_sizeOf : MethodName := ⟨RX5, "sizeOf", "(I)I"⟩
abbrev cX5_octetAt : ByteArray := prog_7_method_7_code
def yX5_octetAt : MethodName := ⟨RX5, "octetAt", "(II)I"⟩
abbrev cX5_indexOf : ByteArray := prog_7_method_8_code
def yX5_indexOf : MethodName := ⟨RX5, "indexOf", "(LVariantDesk$Names;I)I"⟩
abbrev cX5_isName : ByteArray := prog_7_method_9_code
def yX5_isName : MethodName := ⟨RX5, "isName", "(ILVariantDesk$Names;I)Z"⟩
abbrev cX5_indexIn : ByteArray := prog_7_method_10_code
def yX5_indexIn : MethodName := ⟨RX5, "indexIn", "(LVariantDesk$Octets;II)I"⟩
abbrev cX5_writeName : ByteArray := prog_7_method_11_code
def yX5_writeName : MethodName := ⟨RX5, "writeName", "(ILVariantDesk$Octets;)V"⟩
def RX6 : String := "VariantDesk$Octets"
def TX6 : u_T := fun k => match k with
  | 0 => ("VariantDesk$Octets", "octets", "[I", true)
  | 1 => ("VariantDesk$Octets", "size", "I", false)
  | _ => ("VariantDesk$Octets", "tooLong", "Z", false)
def tyX6 : Nat → FieldType := fun k => match k with
  | 0 => .array .int
  | 1 => .int
  | _ => .boolean
abbrev wsX60 : List Cond := u_ws RX6 TX6 3
theorem nmX6 : ∀ a, a < 3 → ∀ b, b < 3 → a ≠ b → (TX6 a).2.1 ≠ (TX6 b).2.1 := by decide +kernel
theorem tyX6_ok : ∀ k, k < 3 → parseFieldDescriptor (TX6 k).2.2.1 = some (tyX6 k) := by decide +kernel
abbrev cX6_init : ByteArray := prog_8_method_1_code
def yX6_init : MethodName := ⟨RX6, "<init>", "()V"⟩
abbrev cX6_clear : ByteArray := prog_8_method_2_code
def yX6_clear : MethodName := ⟨RX6, "clear", "()V"⟩
abbrev cX6_add : ByteArray := prog_8_method_3_code
def yX6_add : MethodName := ⟨RX6, "add", "(I)V"⟩
abbrev cX6_addText : ByteArray := prog_8_method_4_code
def yX6_addText : MethodName := ⟨RX6, "addText", "(Ljava/lang/String;)V"⟩
abbrev cX6_addPart : ByteArray := prog_8_method_5_code
def yX6_addPart : MethodName := ⟨RX6, "addPart", "([III)V"⟩
abbrev cX6_addNumber : ByteArray := prog_8_method_6_code
def yX6_addNumber : MethodName := ⟨RX6, "addNumber", "(I)V"⟩
abbrev cX6_addNumberOrPoint : ByteArray := prog_8_method_7_code
def yX6_addNumberOrPoint : MethodName := ⟨RX6, "addNumberOrPoint", "(I)V"⟩
abbrev cX6_at : ByteArray := prog_8_method_8_code
def yX6_at : MethodName := ⟨RX6, "at", "(I)I"⟩
abbrev cX6_find : ByteArray := prog_8_method_9_code
def yX6_find : MethodName := ⟨RX6, "find", "(II)I"⟩
abbrev cX6_isText : ByteArray := prog_8_method_10_code
def yX6_isText : MethodName := ⟨RX6, "isText", "(IILjava/lang/String;)Z"⟩
abbrev cX6_beginsWith : ByteArray := prog_8_method_11_code
def yX6_beginsWith : MethodName := ⟨RX6, "beginsWith", "(ILjava/lang/String;)Z"⟩
abbrev cX6_isPart : ByteArray := prog_8_method_12_code
def yX6_isPart : MethodName := ⟨RX6, "isPart", "(II[III)Z"⟩
abbrev cX6_isWord : ByteArray := prog_8_method_13_code
def yX6_isWord : MethodName := ⟨RX6, "isWord", "(II)Z"⟩
abbrev cX6_numberAt : ByteArray := prog_8_method_14_code
def yX6_numberAt : MethodName := ⟨RX6, "numberAt", "(III)I"⟩
abbrev cX6_copyFrom : ByteArray := prog_8_method_15_code
def yX6_copyFrom : MethodName := ⟨RX6, "copyFrom", "(LVariantDesk$Octets;)V"⟩
def RX7 : String := "VariantDesk$Sheet"
def TX7 : u_T := fun k => match k with
  | 0 => ("VariantDesk$Sheet", "entries", "[LVariantDesk$Entry;", true)
  | 1 => ("VariantDesk$Sheet", "names", "LVariantDesk$Names;", true)
  | _ => ("VariantDesk$Sheet", "size", "I", false)
def tyX7 : Nat → FieldType := fun k => match k with
  | 0 => .array (.object "VariantDesk$Entry")
  | 1 => .object "VariantDesk$Names"
  | _ => .int
abbrev wsX70 : List Cond := u_ws RX7 TX7 3
theorem nmX7 : ∀ a, a < 3 → ∀ b, b < 3 → a ≠ b → (TX7 a).2.1 ≠ (TX7 b).2.1 := by decide +kernel
theorem tyX7_ok : ∀ k, k < 3 → parseFieldDescriptor (TX7 k).2.2.1 = some (tyX7 k) := by decide +kernel
abbrev cX7_init : ByteArray := prog_9_method_1_code
def yX7_init : MethodName := ⟨RX7, "<init>", "()V"⟩
abbrev cX7_clear : ByteArray := prog_9_method_2_code
def yX7_clear : MethodName := ⟨RX7, "clear", "()V"⟩
abbrev cX7_canTakeSamples : ByteArray := prog_9_method_3_code
def yX7_canTakeSamples : MethodName := ⟨RX7, "canTakeSamples", "(LVariantDesk$Sheet;)Z"⟩
abbrev cX7_sizeWhenSplit : ByteArray := prog_9_method_4_code
def yX7_sizeWhenSplit : MethodName := ⟨RX7, "sizeWhenSplit", "()I"⟩
abbrev cX7_takeSplit : ByteArray := prog_9_method_5_code
def yX7_takeSplit : MethodName := ⟨RX7, "takeSplit", "(LVariantDesk$Sheet;)V"⟩
abbrev cX7_takeSplitEntry : ByteArray := prog_9_method_6_code
def yX7_takeSplitEntry : MethodName := ⟨RX7, "takeSplitEntry", "(LVariantDesk$Entry;)V"⟩
abbrev cX7_joinAll : ByteArray := prog_9_method_7_code
def yX7_joinAll : MethodName := ⟨RX7, "joinAll", "(LVariantDesk$Joiner;)V"⟩
abbrev cX7_putInOrder : ByteArray := prog_9_method_8_code
def yX7_putInOrder : MethodName := ⟨RX7, "putInOrder", "()I"⟩
abbrev cX7_sinkToPlace : ByteArray := prog_9_method_9_code
def yX7_sinkToPlace : MethodName := ⟨RX7, "sinkToPlace", "(I)V"⟩
abbrev cX7_pairWith : ByteArray := prog_9_method_10_code
def yX7_pairWith : MethodName := ⟨RX7, "pairWith", "(LVariantDesk$Sheet;)I"⟩
abbrev cX7_firstFreeLike : ByteArray := prog_9_method_11_code
def yX7_firstFreeLike : MethodName := ⟨RX7, "firstFreeLike", "(LVariantDesk$Entry;)I"⟩
abbrev cX7_takeAll : ByteArray := prog_9_method_12_code
def yX7_takeAll : MethodName := ⟨RX7, "takeAll", "(LVariantDesk$Sheet;)V"⟩
abbrev cX7_setNoCalls : ByteArray := prog_9_method_13_code
def yX7_setNoCalls : MethodName := ⟨RX7, "setNoCalls", "(LVariantDesk$Entry;II)V"⟩
abbrev cX7_moveCalls : ByteArray := prog_9_method_14_code
def yX7_moveCalls : MethodName := ⟨RX7, "moveCalls", "(LVariantDesk$Entry;LVariantDesk$Entry;II)V"⟩
abbrev cX7_swap : ByteArray := prog_9_method_15_code
def yX7_swap : MethodName := ⟨RX7, "swap", "([LVariantDesk$Entry;I[LVariantDesk$Entry;I)V"⟩
abbrev cX7_writeTo : ByteArray := prog_9_method_16_code
def yX7_writeTo : MethodName := ⟨RX7, "writeTo", "(LVariantDesk$Octets;LVariantDesk$Genome;)V"⟩
def RX8 : String := "VariantDesk$SheetReader"
def TX8 : u_T := fun k => match k with
  | 0 => ("VariantDesk$SheetReader", "tape", "LVariantDesk$Octets;", true)
  | 1 => ("VariantDesk$SheetReader", "genome", "LVariantDesk$Genome;", true)
  | 2 => ("VariantDesk$SheetReader", "sheet", "LVariantDesk$Sheet;", true)
  | 3 => ("VariantDesk$SheetReader", "starts", "[I", true)
  | 4 => ("VariantDesk$SheetReader", "begin", "I", false)
  | 5 => ("VariantDesk$SheetReader", "end", "I", false)
  | 6 => ("VariantDesk$SheetReader", "next", "I", false)
  | 7 => ("VariantDesk$SheetReader", "columns", "I", false)
  | 8 => ("VariantDesk$SheetReader", "fault", "I", false)
  | _ => ("VariantDesk$SheetReader", "faultPlace", "I", false)
def tyX8 : Nat → FieldType := fun k => match k with
  | 0 => .object "VariantDesk$Octets"
  | 1 => .object "VariantDesk$Genome"
  | 2 => .object "VariantDesk$Sheet"
  | 3 => .array .int
  | 4 => .int
  | 5 => .int
  | 6 => .int
  | 7 => .int
  | 8 => .int
  | _ => .int
abbrev wsX80 : List Cond := u_ws RX8 TX8 10
theorem nmX8 : ∀ a, a < 10 → ∀ b, b < 10 → a ≠ b → (TX8 a).2.1 ≠ (TX8 b).2.1 := by decide +kernel
theorem tyX8_ok : ∀ k, k < 10 → parseFieldDescriptor (TX8 k).2.2.1 = some (tyX8 k) := by decide +kernel
abbrev cX8_init : ByteArray := prog_10_method_1_code
def yX8_init : MethodName := ⟨RX8, "<init>", "(LVariantDesk$Octets;LVariantDesk$Genome;LVariantDesk$Sheet;)V"⟩
abbrev cX8_run : ByteArray := prog_10_method_2_code
def yX8_run : MethodName := ⟨RX8, "run", "()Z"⟩
abbrev cX8_fail : ByteArray := prog_10_method_3_code
def yX8_fail : MethodName := ⟨RX8, "fail", "(II)Z"⟩
abbrev cX8_takeLine : ByteArray := prog_10_method_4_code
def yX8_takeLine : MethodName := ⟨RX8, "takeLine", "()Z"⟩
abbrev cX8_takeFirstLine : ByteArray := prog_10_method_5_code
def yX8_takeFirstLine : MethodName := ⟨RX8, "takeFirstLine", "()Z"⟩
abbrev cX8_takeLinesToHead : ByteArray := prog_10_method_6_code
def yX8_takeLinesToHead : MethodName := ⟨RX8, "takeLinesToHead", "()Z"⟩
abbrev cX8_cutColumns : ByteArray := prog_10_method_7_code
def yX8_cutColumns : MethodName := ⟨RX8, "cutColumns", "()V"⟩
abbrev cX8_takeHead : ByteArray := prog_10_method_8_code
def yX8_takeHead : MethodName := ⟨RX8, "takeHead", "()Z"⟩
abbrev cX8_takeSampleName : ByteArray := prog_10_method_9_code
def yX8_takeSampleName : MethodName := ⟨RX8, "takeSampleName", "(II)Z"⟩
abbrev cX8_takeEntry : ByteArray := prog_10_method_10_code
def yX8_takeEntry : MethodName := ⟨RX8, "takeEntry", "(LVariantDesk$Entry;)Z"⟩
abbrev cX8_failColumn : ByteArray := prog_10_method_11_code
def yX8_failColumn : MethodName := ⟨RX8, "failColumn", "(I)Z"⟩
abbrev cX8_columnIs : ByteArray := prog_10_method_12_code
def yX8_columnIs : MethodName := ⟨RX8, "columnIs", "(ILjava/lang/String;)Z"⟩
abbrev cX8_takeSequence : ByteArray := prog_10_method_13_code
def yX8_takeSequence : MethodName := ⟨RX8, "takeSequence", "(LVariantDesk$Entry;)Z"⟩
abbrev cX8_takePlace : ByteArray := prog_10_method_14_code
def yX8_takePlace : MethodName := ⟨RX8, "takePlace", "(LVariantDesk$Entry;)Z"⟩
abbrev cX8_takeId : ByteArray := prog_10_method_15_code
def yX8_takeId : MethodName := ⟨RX8, "takeId", "(LVariantDesk$Entry;)Z"⟩
abbrev cX8_takeRow : ByteArray := prog_10_method_16_code
def yX8_takeRow : MethodName := ⟨RX8, "takeRow", "(LVariantDesk$Entry;III)Z"⟩
abbrev cX8_refIsThere : ByteArray := prog_10_method_17_code
def yX8_refIsThere : MethodName := ⟨RX8, "refIsThere", "(LVariantDesk$Entry;)Z"⟩
abbrev cX8_takeAlts : ByteArray := prog_10_method_18_code
def yX8_takeAlts : MethodName := ⟨RX8, "takeAlts", "(LVariantDesk$Entry;)Z"⟩
abbrev cX8_takeAlt : ByteArray := prog_10_method_19_code
def yX8_takeAlt : MethodName := ⟨RX8, "takeAlt", "(LVariantDesk$Entry;II)Z"⟩
abbrev cX8_takeQuality : ByteArray := prog_10_method_20_code
def yX8_takeQuality : MethodName := ⟨RX8, "takeQuality", "(LVariantDesk$Entry;)Z"⟩
abbrev cX8_takePassed : ByteArray := prog_10_method_21_code
def yX8_takePassed : MethodName := ⟨RX8, "takePassed", "(LVariantDesk$Entry;)Z"⟩
abbrev cX8_takeAllCalls : ByteArray := prog_10_method_22_code
def yX8_takeAllCalls : MethodName := ⟨RX8, "takeAllCalls", "(LVariantDesk$Entry;)Z"⟩
abbrev cX8_takeCalls : ByteArray := prog_10_method_23_code
def yX8_takeCalls : MethodName := ⟨RX8, "takeCalls", "(LVariantDesk$Entry;III)Z"⟩
abbrev cX8_callAt : ByteArray := prog_10_method_24_code
def yX8_callAt : MethodName := ⟨RX8, "callAt", "(III)I"⟩
def RX9 : String := "VariantDesk"
def TX9 : u_T := fun k => match k with
  | 0 => ("VariantDesk", "tape", "LVariantDesk$Octets;", true)
  | 1 => ("VariantDesk", "sheets", "[LVariantDesk$Sheet;", true)
  | 2 => ("VariantDesk", "joiner", "LVariantDesk$Joiner;", true)
  | 3 => ("VariantDesk", "haplotype", "LVariantDesk$Haplotype;", true)
  | 4 => ("VariantDesk", "text", "LVariantDesk$Octets;", false)
  | 5 => ("VariantDesk", "spareText", "LVariantDesk$Octets;", false)
  | 6 => ("VariantDesk", "genome", "LVariantDesk$Genome;", false)
  | 7 => ("VariantDesk", "spareGenome", "LVariantDesk$Genome;", false)
  | 8 => ("VariantDesk", "spareSheet", "LVariantDesk$Sheet;", false)
  | _ => ("VariantDesk", "faultPlace", "I", false)
def tyX9 : Nat → FieldType := fun k => match k with
  | 0 => .object "VariantDesk$Octets"
  | 1 => .array (.object "VariantDesk$Sheet")
  | 2 => .object "VariantDesk$Joiner"
  | 3 => .object "VariantDesk$Haplotype"
  | 4 => .object "VariantDesk$Octets"
  | 5 => .object "VariantDesk$Octets"
  | 6 => .object "VariantDesk$Genome"
  | 7 => .object "VariantDesk$Genome"
  | 8 => .object "VariantDesk$Sheet"
  | _ => .int
abbrev wsX90 : List Cond := u_ws RX9 TX9 10
theorem nmX9 : ∀ a, a < 10 → ∀ b, b < 10 → a ≠ b → (TX9 a).2.1 ≠ (TX9 b).2.1 := by decide +kernel
theorem tyX9_ok : ∀ k, k < 10 → parseFieldDescriptor (TX9 k).2.2.1 = some (tyX9 k) := by decide +kernel
abbrev cX9_init : ByteArray := prog_1_method_1_code
def yX9_init : MethodName := ⟨RX9, "<init>", "()V"⟩
abbrev cX9_feed : ByteArray := prog_1_method_2_code
def yX9_feed : MethodName := ⟨RX9, "feed", "(IJ)I"⟩
abbrev cX9_reference : ByteArray := prog_1_method_3_code
def yX9_reference : MethodName := ⟨RX9, "reference", "()I"⟩
abbrev cX9_read : ByteArray := prog_1_method_4_code
def yX9_read : MethodName := ⟨RX9, "read", "(I)I"⟩
abbrev cX9_place : ByteArray := prog_1_method_5_code
def yX9_place : MethodName := ⟨RX9, "place", "()I"⟩
abbrev cX9_sequence : ByteArray := prog_1_method_6_code
def yX9_sequence : MethodName := ⟨RX9, "sequence", "(II)I"⟩
abbrev cX9_letter : ByteArray := prog_1_method_7_code
def yX9_letter : MethodName := ⟨RX9, "letter", "(II)I"⟩
abbrev cX9_table : ByteArray := prog_1_method_8_code
def yX9_table : MethodName := ⟨RX9, "table", "(II)I"⟩
abbrev cX9_record : ByteArray := prog_1_method_9_code
def yX9_record : MethodName := ⟨RX9, "record", "(III)I"⟩
abbrev cX9_row : ByteArray := prog_1_method_10_code
def yX9_row : MethodName := ⟨RX9, "row", "(IIII)I"⟩
abbrev cX9_call : ByteArray := prog_1_method_11_code
def yX9_call : MethodName := ⟨RX9, "call", "(IIII)I"⟩
abbrev cX9_normalise : ByteArray := prog_1_method_12_code
def yX9_normalise : MethodName := ⟨RX9, "normalise", "(I)I"⟩
abbrev cX9_split : ByteArray := prog_1_method_13_code
def yX9_split : MethodName := ⟨RX9, "split", "(I)I"⟩
abbrev cX9_join : ByteArray := prog_1_method_14_code
def yX9_join : MethodName := ⟨RX9, "join", "(I)I"⟩
abbrev cX9_sort : ByteArray := prog_1_method_15_code
def yX9_sort : MethodName := ⟨RX9, "sort", "(I)I"⟩
abbrev cX9_merge : ByteArray := prog_1_method_16_code
def yX9_merge : MethodName := ⟨RX9, "merge", "()I"⟩
abbrev cX9_apply : ByteArray := prog_1_method_17_code
def yX9_apply : MethodName := ⟨RX9, "apply", "(IIII)I"⟩
abbrev cX9_carried : ByteArray := prog_1_method_18_code
def yX9_carried : MethodName := ⟨RX9, "carried", "(I)I"⟩
abbrev cX9_back : ByteArray := prog_1_method_19_code
def yX9_back : MethodName := ⟨RX9, "back", "(I)I"⟩
abbrev cX9_same : ByteArray := prog_1_method_20_code
def yX9_same : MethodName := ⟨RX9, "same", "(IIII)Z"⟩
abbrev cX9_write : ByteArray := prog_1_method_21_code
def yX9_write : MethodName := ⟨RX9, "write", "(I)I"⟩
abbrev cX9_out : ByteArray := prog_1_method_22_code
def yX9_out : MethodName := ⟨RX9, "out", "(I)I"⟩
abbrev cX9_again : ByteArray := prog_1_method_23_code
def yX9_again : MethodName := ⟨RX9, "again", "()I"⟩
abbrev cX9_sheetAt : ByteArray := prog_1_method_24_code
def yX9_sheetAt : MethodName := ⟨RX9, "sheetAt", "(I)LVariantDesk$Sheet;"⟩
abbrev cX9_entryAt : ByteArray := prog_1_method_25_code
def yX9_entryAt : MethodName := ⟨RX9, "entryAt", "(II)LVariantDesk$Entry;"⟩
abbrev cX9_checkSample : ByteArray := prog_1_method_26_code
def yX9_checkSample : MethodName := ⟨RX9, "checkSample", "(II)V"⟩
abbrev cX9_checkSequence : ByteArray := prog_1_method_27_code
def yX9_checkSequence : MethodName := ⟨RX9, "checkSequence", "(I)V"⟩
abbrev cX9_useSpareSheet : ByteArray := prog_1_method_28_code
def yX9_useSpareSheet : MethodName := ⟨RX9, "useSpareSheet", "(I)V"⟩
abbrev cX9_letterOf : ByteArray := prog_1_method_29_code
def yX9_letterOf : MethodName := ⟨RX9, "letterOf", "(I)I"⟩
def RX10 : String := "VariantDeskModel"
def TX10 : u_T := fun k => match k with
  | 0 => ("VariantDeskModel", "thrown", "I", false)
  | 1 => ("VariantDeskModel", "tape", "[B", true)
  | 2 => ("VariantDeskModel", "taped", "I", false)
  | 3 => ("VariantDeskModel", "place", "I", false)
  | 4 => ("VariantDeskModel", "seqMany", "I", false)
  | 5 => ("VariantDeskModel", "seqName", "[B", true)
  | 6 => ("VariantDeskModel", "seqNameSize", "[I", true)
  | 7 => ("VariantDeskModel", "letters", "[B", true)
  | 8 => ("VariantDeskModel", "seqFrom", "[I", true)
  | 9 => ("VariantDeskModel", "seqSize", "[I", true)
  | 10 => ("VariantDeskModel", "seqFirst", "[I", true)
  | 11 => ("VariantDeskModel", "seqWidth", "[I", true)
  | 12 => ("VariantDeskModel", "newMany", "I", false)
  | 13 => ("VariantDeskModel", "newName", "[B", true)
  | 14 => ("VariantDeskModel", "newNameSize", "[I", true)
  | 15 => ("VariantDeskModel", "newLetters", "[B", true)
  | 16 => ("VariantDeskModel", "newFrom", "[I", true)
  | 17 => ("VariantDeskModel", "newSize", "[I", true)
  | 18 => ("VariantDeskModel", "newFirst", "[I", true)
  | 19 => ("VariantDeskModel", "newWidth", "[I", true)
  | 20 => ("VariantDeskModel", "many", "[I", true)
  | 21 => ("VariantDeskModel", "samples", "[I", true)
  | 22 => ("VariantDeskModel", "sampleName", "[B", true)
  | 23 => ("VariantDeskModel", "sampleSize", "[I", true)
  | 24 => ("VariantDeskModel", "seqOf", "[I", true)
  | 25 => ("VariantDeskModel", "placeOf", "[I", true)
  | 26 => ("VariantDeskModel", "id", "[B", true)
  | 27 => ("VariantDeskModel", "idSize", "[I", true)
  | 28 => ("VariantDeskModel", "alts", "[I", true)
  | 29 => ("VariantDeskModel", "row", "[B", true)
  | 30 => ("VariantDeskModel", "rowSize", "[I", true)
  | 31 => ("VariantDeskModel", "quality", "[I", true)
  | 32 => ("VariantDeskModel", "passed", "[Z", true)
  | 33 => ("VariantDeskModel", "calls", "[I", true)
  | 34 => ("VariantDeskModel", "callMany", "[I", true)
  | 35 => ("VariantDeskModel", "phased", "[Z", true)
  | 36 => ("VariantDeskModel", "out", "[B", true)
  | 37 => ("VariantDeskModel", "outSize", "I", false)
  | 38 => ("VariantDeskModel", "isOn", "Z", false)
  | 39 => ("VariantDeskModel", "onSize", "I", false)
  | 40 => ("VariantDeskModel", "onLength", "I", false)
  | 41 => ("VariantDeskModel", "carriedTo", "[I", true)
  | 42 => ("VariantDeskModel", "backTo", "[I", true)
  | 43 => ("VariantDeskModel", "fault", "I", false)
  | 44 => ("VariantDeskModel", "faultAt", "I", false)
  | 45 => ("VariantDeskModel", "newLetterMany", "I", false)
  | 46 => ("VariantDeskModel", "numbers", "[I", true)
  | 47 => ("VariantDeskModel", "partner", "[I", true)
  | 48 => ("VariantDeskModel", "partnerOf", "[I", true)
  | 49 => ("VariantDeskModel", "made", "[B", true)
  | 50 => ("VariantDeskModel", "madeFrom", "[I", true)
  | 51 => ("VariantDeskModel", "madeSize", "I", false)
  | _ => ("VariantDeskModel", "written", "I", false)
def tyX10 : Nat → FieldType := fun k => match k with
  | 0 => .int
  | 1 => .array .byte
  | 2 => .int
  | 3 => .int
  | 4 => .int
  | 5 => .array .byte
  | 6 => .array .int
  | 7 => .array .byte
  | 8 => .array .int
  | 9 => .array .int
  | 10 => .array .int
  | 11 => .array .int
  | 12 => .int
  | 13 => .array .byte
  | 14 => .array .int
  | 15 => .array .byte
  | 16 => .array .int
  | 17 => .array .int
  | 18 => .array .int
  | 19 => .array .int
  | 20 => .array .int
  | 21 => .array .int
  | 22 => .array .byte
  | 23 => .array .int
  | 24 => .array .int
  | 25 => .array .int
  | 26 => .array .byte
  | 27 => .array .int
  | 28 => .array .int
  | 29 => .array .byte
  | 30 => .array .int
  | 31 => .array .int
  | 32 => .array .boolean
  | 33 => .array .int
  | 34 => .array .int
  | 35 => .array .boolean
  | 36 => .array .byte
  | 37 => .int
  | 38 => .boolean
  | 39 => .int
  | 40 => .int
  | 41 => .array .int
  | 42 => .array .int
  | 43 => .int
  | 44 => .int
  | 45 => .int
  | 46 => .array .int
  | 47 => .array .int
  | 48 => .array .int
  | 49 => .array .byte
  | 50 => .array .int
  | 51 => .int
  | _ => .int
abbrev wsX100 : List Cond := u_ws RX10 TX10 53
theorem nmX10 : ∀ a, a < 53 → ∀ b, b < 53 → a ≠ b → (TX10 a).2.1 ≠ (TX10 b).2.1 := by decide +kernel
theorem tyX10_ok : ∀ k, k < 53 → parseFieldDescriptor (TX10 k).2.2.1 = some (tyX10 k) := by decide +kernel
abbrev cX10_init : ByteArray := prog_12_method_1_code
def yX10_init : MethodName := ⟨RX10, "<init>", "()V"⟩
abbrev cX10_thrown : ByteArray := prog_12_method_2_code
def yX10_thrown : MethodName := ⟨RX10, "thrown", "()I"⟩
abbrev cX10_goes : ByteArray := prog_12_method_3_code
def yX10_goes : MethodName := ⟨RX10, "goes", "(Z)Z"⟩
abbrev cX10_in : ByteArray := prog_12_method_4_code
def yX10_in : MethodName := ⟨RX10, "in", "(III)Z"⟩
abbrev cX10_feed : ByteArray := prog_12_method_5_code
def yX10_feed : MethodName := ⟨RX10, "feed", "(IJ)I"⟩
abbrev cX10_letterOf : ByteArray := prog_12_method_6_code
def yX10_letterOf : MethodName := ⟨RX10, "letterOf", "(I)I"⟩
abbrev cX10_at : ByteArray := prog_12_method_7_code
def yX10_at : MethodName := ⟨RX10, "at", "(I)I"⟩
abbrev cX10_bad : ByteArray := prog_12_method_8_code
def yX10_bad : MethodName := ⟨RX10, "bad", "(II)V"⟩
abbrev cX10_isNameSign : ByteArray := prog_12_method_9_code
def yX10_isNameSign : MethodName := ⟨RX10, "isNameSign", "(I)Z"⟩
abbrev cX10_isOld : ByteArray := prog_12_method_10_code
def yX10_isOld : MethodName := ⟨RX10, "isOld", "(I)Z"⟩
abbrev cX10_readName : ByteArray := prog_12_method_11_code
def yX10_readName : MethodName := ⟨RX10, "readName", "(I)I"⟩
abbrev cX10_readLetters : ByteArray := prog_12_method_12_code
def yX10_readLetters : MethodName := ⟨RX10, "readLetters", "(I)I"⟩
abbrev cX10_reference : ByteArray := prog_12_method_13_code
def yX10_reference : MethodName := ⟨RX10, "reference", "()I"⟩
abbrev cX10_refAt : ByteArray := prog_12_method_14_code
def yX10_refAt : MethodName := ⟨RX10, "refAt", "(II)I"⟩
abbrev cX10_copy : ByteArray := prog_12_method_15_code
def yX10_copy : MethodName := ⟨RX10, "copy", "(II)V"⟩
abbrev cX10_copyCalls : ByteArray := prog_12_method_16_code
def yX10_copyCalls : MethodName := ⟨RX10, "copyCalls", "(IIII)V"⟩
abbrev cX10_noCalls : ByteArray := prog_12_method_17_code
def yX10_noCalls : MethodName := ⟨RX10, "noCalls", "(II)V"⟩
abbrev cX10_copyTable : ByteArray := prog_12_method_18_code
def yX10_copyTable : MethodName := ⟨RX10, "copyTable", "(II)V"⟩
abbrev cX10_copySample : ByteArray := prog_12_method_19_code
def yX10_copySample : MethodName := ⟨RX10, "copySample", "(IIII)V"⟩
abbrev cX10_sameRow : ByteArray := prog_12_method_20_code
def yX10_sameRow : MethodName := ⟨RX10, "sameRow", "(IIII)Z"⟩
abbrev cX10_lineEnd : ByteArray := prog_12_method_21_code
def yX10_lineEnd : MethodName := ⟨RX10, "lineEnd", "(I)I"⟩
abbrev cX10_sizeOf : ByteArray := prog_12_method_22_code
def yX10_sizeOf : MethodName := ⟨RX10, "sizeOf", "(I)I"⟩
abbrev cX10_eightOf : ByteArray := prog_12_method_23_code
def yX10_eightOf : MethodName := ⟨RX10, "eightOf", "(II)J"⟩
abbrev cX10_octetOf : ByteArray := prog_12_method_24_code
def yX10_octetOf : MethodName := ⟨RX10, "octetOf", "(II)I"⟩
abbrev cX10_begins : ByteArray := prog_12_method_25_code
def yX10_begins : MethodName := ⟨RX10, "begins", "(III)Z"⟩
abbrev cX10_isText : ByteArray := prog_12_method_26_code
def yX10_isText : MethodName := ⟨RX10, "isText", "(III)Z"⟩
abbrev cX10_columnEnd : ByteArray := prog_12_method_27_code
def yX10_columnEnd : MethodName := ⟨RX10, "columnEnd", "(II)I"⟩
abbrev cX10_columns : ByteArray := prog_12_method_28_code
def yX10_columns : MethodName := ⟨RX10, "columns", "(II)I"⟩
abbrev cX10_isShown : ByteArray := prog_12_method_29_code
def yX10_isShown : MethodName := ⟨RX10, "isShown", "(II)Z"⟩
abbrev cX10_readHead : ByteArray := prog_12_method_30_code
def yX10_readHead : MethodName := ⟨RX10, "readHead", "(II)Z"⟩
abbrev cX10_sameName : ByteArray := prog_12_method_31_code
def yX10_sameName : MethodName := ⟨RX10, "sameName", "(IIII)Z"⟩
abbrev cX10_numberOf : ByteArray := prog_12_method_32_code
def yX10_numberOf : MethodName := ⟨RX10, "numberOf", "(III)I"⟩
abbrev cX10_sequenceNamed : ByteArray := prog_12_method_33_code
def yX10_sequenceNamed : MethodName := ⟨RX10, "sequenceNamed", "(II)I"⟩
abbrev cX10_readRow : ByteArray := prog_12_method_34_code
def yX10_readRow : MethodName := ⟨RX10, "readRow", "(IIII)Z"⟩
abbrev cX10_readRef : ByteArray := prog_12_method_35_code
def yX10_readRef : MethodName := ⟨RX10, "readRef", "(III)V"⟩
abbrev cX10_readAlts : ByteArray := prog_12_method_36_code
def yX10_readAlts : MethodName := ⟨RX10, "readAlts", "(III)V"⟩
abbrev cX10_callOf : ByteArray := prog_12_method_37_code
def yX10_callOf : MethodName := ⟨RX10, "callOf", "(II)I"⟩
abbrev cX10_readCalls : ByteArray := prog_12_method_38_code
def yX10_readCalls : MethodName := ⟨RX10, "readCalls", "(IIII)V"⟩
abbrev cX10_readColumn : ByteArray := prog_12_method_39_code
def yX10_readColumn : MethodName := ⟨RX10, "readColumn", "(IIII)V"⟩
abbrev cX10_readRecord : ByteArray := prog_12_method_40_code
def yX10_readRecord : MethodName := ⟨RX10, "readRecord", "(II)V"⟩
abbrev cX10_needLine : ByteArray := prog_12_method_41_code
def yX10_needLine : MethodName := ⟨RX10, "needLine", "(I)I"⟩
abbrev cX10_readTable : ByteArray := prog_12_method_42_code
def yX10_readTable : MethodName := ⟨RX10, "readTable", "()V"⟩
abbrev cX10_read : ByteArray := prog_12_method_43_code
def yX10_read : MethodName := ⟨RX10, "read", "(I)I"⟩
abbrev cX10_place : ByteArray := prog_12_method_44_code
def yX10_place : MethodName := ⟨RX10, "place", "()I"⟩
abbrev cX10_sequence : ByteArray := prog_12_method_45_code
def yX10_sequence : MethodName := ⟨RX10, "sequence", "(II)I"⟩
abbrev cX10_letter : ByteArray := prog_12_method_46_code
def yX10_letter : MethodName := ⟨RX10, "letter", "(II)I"⟩
abbrev cX10_table : ByteArray := prog_12_method_47_code
def yX10_table : MethodName := ⟨RX10, "table", "(II)I"⟩
abbrev cX10_isRecord : ByteArray := prog_12_method_48_code
def yX10_isRecord : MethodName := ⟨RX10, "isRecord", "(II)Z"⟩
abbrev cX10_record : ByteArray := prog_12_method_49_code
def yX10_record : MethodName := ⟨RX10, "record", "(III)I"⟩
abbrev cX10_row : ByteArray := prog_12_method_50_code
def yX10_row : MethodName := ⟨RX10, "row", "(IIII)I"⟩
abbrev cX10_call : ByteArray := prog_12_method_51_code
def yX10_call : MethodName := ⟨RX10, "call", "(IIII)I"⟩
abbrev cX10_lastOf : ByteArray := prog_12_method_52_code
def yX10_lastOf : MethodName := ⟨RX10, "lastOf", "(II)I"⟩
abbrev cX10_endAlike : ByteArray := prog_12_method_53_code
def yX10_endAlike : MethodName := ⟨RX10, "endAlike", "(I)Z"⟩
abbrev cX10_beginAlike : ByteArray := prog_12_method_54_code
def yX10_beginAlike : MethodName := ⟨RX10, "beginAlike", "(I)Z"⟩
abbrev cX10_allLong : ByteArray := prog_12_method_55_code
def yX10_allLong : MethodName := ⟨RX10, "allLong", "(I)Z"⟩
abbrev cX10_toFront : ByteArray := prog_12_method_56_code
def yX10_toFront : MethodName := ⟨RX10, "toFront", "(II)V"⟩
abbrev cX10_fromFront : ByteArray := prog_12_method_57_code
def yX10_fromFront : MethodName := ⟨RX10, "fromFront", "(I)V"⟩
abbrev cX10_makeNormal : ByteArray := prog_12_method_58_code
def yX10_makeNormal : MethodName := ⟨RX10, "makeNormal", "(I)Z"⟩
abbrev cX10_normalise : ByteArray := prog_12_method_59_code
def yX10_normalise : MethodName := ⟨RX10, "normalise", "(I)I"⟩
abbrev cX10_split : ByteArray := prog_12_method_60_code
def yX10_split : MethodName := ⟨RX10, "split", "(I)I"⟩
abbrev cX10_longer : ByteArray := prog_12_method_61_code
def yX10_longer : MethodName := ⟨RX10, "longer", "(IIIII)V"⟩
abbrev cX10_tryJoin : ByteArray := prog_12_method_62_code
def yX10_tryJoin : MethodName := ⟨RX10, "tryJoin", "(III)Z"⟩
abbrev cX10_callAt : ByteArray := prog_12_method_63_code
def yX10_callAt : MethodName := ⟨RX10, "callAt", "(III)I"⟩
abbrev cX10_joinCalls : ByteArray := prog_12_method_64_code
def yX10_joinCalls : MethodName := ⟨RX10, "joinCalls", "(IIII)V"⟩
abbrev cX10_join : ByteArray := prog_12_method_65_code
def yX10_join : MethodName := ⟨RX10, "join", "(I)I"⟩
abbrev cX10_isBefore : ByteArray := prog_12_method_66_code
def yX10_isBefore : MethodName := ⟨RX10, "isBefore", "(II)Z"⟩
abbrev cX10_rank : ByteArray := prog_12_method_67_code
def yX10_rank : MethodName := ⟨RX10, "rank", "(II)I"⟩
abbrev cX10_sortInto : ByteArray := prog_12_method_68_code
def yX10_sortInto : MethodName := ⟨RX10, "sortInto", "(II)I"⟩
abbrev cX10_sort : ByteArray := prog_12_method_69_code
def yX10_sort : MethodName := ⟨RX10, "sort", "(I)I"⟩
abbrev cX10_sameRecord : ByteArray := prog_12_method_70_code
def yX10_sameRecord : MethodName := ⟨RX10, "sameRecord", "(II)Z"⟩
abbrev cX10_merge : ByteArray := prog_12_method_71_code
def yX10_merge : MethodName := ⟨RX10, "merge", "()I"⟩
abbrev cX10_add : ByteArray := prog_12_method_72_code
def yX10_add : MethodName := ⟨RX10, "add", "(II)V"⟩
abbrev cX10_addRow : ByteArray := prog_12_method_73_code
def yX10_addRow : MethodName := ⟨RX10, "addRow", "(II)I"⟩
abbrev cX10_nextCalled : ByteArray := prog_12_method_74_code
def yX10_nextCalled : MethodName := ⟨RX10, "nextCalled", "(IIIII)I"⟩
abbrev cX10_calledMany : ByteArray := prog_12_method_75_code
def yX10_calledMany : MethodName := ⟨RX10, "calledMany", "(IIII)I"⟩
abbrev cX10_apply : ByteArray := prog_12_method_76_code
def yX10_apply : MethodName := ⟨RX10, "apply", "(IIII)I"⟩
abbrev cX10_carried : ByteArray := prog_12_method_77_code
def yX10_carried : MethodName := ⟨RX10, "carried", "(I)I"⟩
abbrev cX10_back : ByteArray := prog_12_method_78_code
def yX10_back : MethodName := ⟨RX10, "back", "(I)I"⟩
abbrev cX10_lengthWith : ByteArray := prog_12_method_79_code
def yX10_lengthWith : MethodName := ⟨RX10, "lengthWith", "(I)I"⟩
abbrev cX10_letterWith : ByteArray := prog_12_method_80_code
def yX10_letterWith : MethodName := ⟨RX10, "letterWith", "(II)I"⟩
abbrev cX10_same : ByteArray := prog_12_method_81_code
def yX10_same : MethodName := ⟨RX10, "same", "(IIII)Z"⟩
abbrev cX10_put : ByteArray := prog_12_method_82_code
def yX10_put : MethodName := ⟨RX10, "put", "(I)V"⟩
abbrev cX10_putText : ByteArray := prog_12_method_83_code
def yX10_putText : MethodName := ⟨RX10, "putText", "(I)V"⟩
abbrev cX10_putNumber : ByteArray := prog_12_method_84_code
def yX10_putNumber : MethodName := ⟨RX10, "putNumber", "(I)V"⟩
abbrev cX10_putRow : ByteArray := prog_12_method_85_code
def yX10_putRow : MethodName := ⟨RX10, "putRow", "(II)V"⟩
abbrev cX10_putCall : ByteArray := prog_12_method_86_code
def yX10_putCall : MethodName := ⟨RX10, "putCall", "(I)V"⟩
abbrev cX10_putRecord : ByteArray := prog_12_method_87_code
def yX10_putRecord : MethodName := ⟨RX10, "putRecord", "(II)V"⟩
abbrev cX10_write : ByteArray := prog_12_method_88_code
def yX10_write : MethodName := ⟨RX10, "write", "(I)I"⟩
abbrev cX10_out : ByteArray := prog_12_method_89_code
def yX10_out : MethodName := ⟨RX10, "out", "(I)I"⟩
abbrev cX10_again : ByteArray := prog_12_method_90_code
def yX10_again : MethodName := ⟨RX10, "again", "()I"⟩
def RJ9 : String := "java/lang/Math"
abbrev cJ9_max_7cf53 : ByteArray := prog_16_method_65_code
def yJ9_max_7cf53 : MethodName := ⟨RJ9, "max", "(II)I"⟩
abbrev cJ9_min_7cf53 : ByteArray := prog_16_method_69_code
def yJ9_min_7cf53 : MethodName := ⟨RJ9, "min", "(II)I"⟩
def RJ0 : String := "java/lang/String"
abbrev cJ0_length_8abf5 : ByteArray := prog_18_method_54_code
def yJ0_length_8abf5 : MethodName := ⟨RJ0, "length", "()I"⟩
abbrev cJ0_charAt_5068e : ByteArray := prog_18_method_56_code
def yJ0_charAt_5068e : MethodName := ⟨RJ0, "charAt", "(I)C"⟩
abbrev cJ0_coder_7d493 : ByteArray := prog_18_method_152_code
def yJ0_coder_7d493 : MethodName := ⟨RJ0, "coder", "()B"⟩
abbrev cJ0_isLatin1_aae02 : ByteArray := prog_18_method_154_code
def yJ0_isLatin1_aae02 : MethodName := ⟨RJ0, "isLatin1", "()Z"⟩
abbrev cJ0_checkIndex_df160 : ByteArray := prog_18_method_155_code
def yJ0_checkIndex_df160 : MethodName := ⟨RJ0, "checkIndex", "(II)V"⟩
def RJ1 : String := "java/lang/StringLatin1"
abbrev cJ1_charAt_3b067 : ByteArray := prog_19_method_2_code
def yJ1_charAt_3b067 : MethodName := ⟨RJ1, "charAt", "([BI)C"⟩
def RJ2 : String := "java/lang/StringUTF16"
abbrev cJ2_getChar_3b067 : ByteArray := prog_20_method_5_code
def yJ2_getChar_3b067 : MethodName := ⟨RJ2, "getChar", "([BI)C"⟩
abbrev cJ2_length_9d52b : ByteArray := prog_20_method_6_code
def yJ2_length_9d52b : MethodName := ⟨RJ2, "length", "([B)I"⟩
abbrev cJ2_charAt_3b067 : ByteArray := prog_20_method_83_code
def yJ2_charAt_3b067 : MethodName := ⟨RJ2, "charAt", "([BI)C"⟩
abbrev cJ2_checkIndex_2214a : ByteArray := prog_20_method_91_code
def yJ2_checkIndex_2214a : MethodName := ⟨RJ2, "checkIndex", "(I[B)V"⟩
def RJ10 : String := "java/lang/System"
def RJ3 : String := "jdk/internal/util/Preconditions"
abbrev cJ3_checkIndex_8e157 : ByteArray := prog_23_method_11_code
def yJ3_checkIndex_8e157 : MethodName := ⟨RJ3, "checkIndex", "(IILjava/util/function/BiFunction;)I"⟩
def RL : String := "VariantDeskLaw"
abbrev cL_feed : ByteArray := method_3_code
def yL_feed : MethodName := ⟨RL, "feed", "(LVariantDesk;IJ[J)I"⟩
abbrev cL_read : ByteArray := method_4_code
def yL_read : MethodName := ⟨RL, "read", "(LVariantDesk;I[J)I"⟩
abbrev cL_sequence : ByteArray := method_5_code
def yL_sequence : MethodName := ⟨RL, "sequence", "(LVariantDesk;II[J)I"⟩
abbrev cL_letter : ByteArray := method_6_code
def yL_letter : MethodName := ⟨RL, "letter", "(LVariantDesk;II[J)I"⟩
abbrev cL_table : ByteArray := method_7_code
def yL_table : MethodName := ⟨RL, "table", "(LVariantDesk;II[J)I"⟩
abbrev cL_record : ByteArray := method_8_code
def yL_record : MethodName := ⟨RL, "record", "(LVariantDesk;III[J)I"⟩
abbrev cL_row : ByteArray := method_9_code
def yL_row : MethodName := ⟨RL, "row", "(LVariantDesk;IIII[J)I"⟩
abbrev cL_call : ByteArray := method_10_code
def yL_call : MethodName := ⟨RL, "call", "(LVariantDesk;IIII[J)I"⟩
abbrev cL_normalise : ByteArray := method_11_code
def yL_normalise : MethodName := ⟨RL, "normalise", "(LVariantDesk;I[J)I"⟩
abbrev cL_split : ByteArray := method_12_code
def yL_split : MethodName := ⟨RL, "split", "(LVariantDesk;I[J)I"⟩
abbrev cL_join : ByteArray := method_13_code
def yL_join : MethodName := ⟨RL, "join", "(LVariantDesk;I[J)I"⟩
abbrev cL_sort : ByteArray := method_14_code
def yL_sort : MethodName := ⟨RL, "sort", "(LVariantDesk;I[J)I"⟩
abbrev cL_apply : ByteArray := method_15_code
def yL_apply : MethodName := ⟨RL, "apply", "(LVariantDesk;IIII[J)I"⟩
abbrev cL_same : ByteArray := method_16_code
def yL_same : MethodName := ⟨RL, "same", "(LVariantDesk;IIII[J)I"⟩
abbrev cL_write : ByteArray := method_17_code
def yL_write : MethodName := ⟨RL, "write", "(LVariantDesk;I[J)I"⟩
abbrev cL_law : ByteArray := code
def yL_law : MethodName := ⟨RL, "law", "([I)Z"⟩
abbrev vwCl : List vw_C := [(RX0, TX0, 14), (RX1, TX1, 8), (RX2, TX2, 11), (RX3, TX3, 9), (RX4, TX4, 3), (RX5, TX5, 4), (RX6, TX6, 3), (RX7, TX7, 3), (RX8, TX8, 10), (RX9, TX9, 10), (RX10, TX10, 53)]
end
section
/-! THE CALCULUS: a heap of the run is a function f from addresses to pictures of cells, t its size; V says: from this pc, with these places and this stack, over this heap, the method comes to an end that Q allows. -/
abbrev aC : Type := (Nat × vp_A) ⊕ (Nat × List Value)
abbrev aH : Type := Nat → aC
abbrev eN : Type := va_G × (Nat → ClassId) × State × Launch
abbrev mR : Type := MethodName × ByteArray × Nat × Option FieldType × Nat × Nat
abbrev aO : Type := Option Value ⊕ String
abbrev aP : Type := aO → aH → Nat → Prop
/-- a cell of which nothing is known -/
def uk : aC := .inl (6, 0, .inl (fun _ => 0))
def aK (k : Nat) : FieldType := match k with
  | 0 => .int
  | 1 => .boolean
  | 2 => .byte
  | 3 => .long
  | 4 => .object RX0
  | _ => .object RX7
def tyE (E : eN) : List (ClassId × FieldType) := [(E.2.1 0, aK 0), (E.2.1 1, aK 1), (E.2.1 2, aK 2), (E.2.1 3, aK 3), (E.2.1 4, aK 4), (E.2.1 5, aK 5)]
abbrev S0 (E : eN) : State := E.2.2.1
abbrev b0 (E : eN) : Nat := E.2.2.1.heap.size
def cE (E : eN) (c : aC) : va_E := match c with
  | .inl x => .inl (E.2.1 x.1, x.2)
  | .inr o => .inr o
def wH (E : eN) (f : aH) (t : Nat) (H : Heap) : Prop := H.size = t ∧ b0 E ≤ t ∧ (∀ q : Nat, q < b0 E → H[q]? = (S0 E).heap[q]?) ∧ ∀ a : Nat, f a = uk ∨ (b0 E ≤ a ∧ a < t ∧ va_at E.1 vwCl (a, cE E (f a)) H)
def eOk (E : eN) : Prop := va_K E.1 vwCl (tyE E) (S0 E) ∧ ∃ a0 : Array Value, ∀ w ∈ lw_tbl, w.before a0 (S0 E) = true
theorem e_w {E : eN} (hE : eOk E) {s : State} (hW : (S0 E).WarmedH s.vm) {w : Cond} (hm : w ∈ lw_tbl) (hg : goodWord w = true) (a : Array Value) : w.before a s = true := by
  obtain ⟨-, a0, h⟩ := hE
  exact word_at hW (good_of_word hg) (h w hm)
theorem e_k {E : eN} (hE : eOk E) {s : State} (hW : (S0 E).WarmedH s.vm) : va_K E.1 vwCl (tyE E) s := va_K.moved hW.alike hE.1
theorem w_one {E : eN} {f : aH} {t a : Nat} {H : Heap} {c : aC} (hw : wH E f t H) (hf : f a = c) (hc : c ≠ uk) : b0 E ≤ a ∧ a < t ∧ va_at E.1 vwCl (a, cE E c) H := by
  rcases hw.2.2.2 a with h | h
  · exact absurd (hf.symm.trans h) hc
  · rw [hf] at h; exact h
theorem w_p1 {D : va_G} {q : Nat × va_E} {H : Heap} (h : va_at D vwCl q H) : va_P D vwCl [q] H := fun k x hk => by
  have hz : k < 1 := (List.getElem?_eq_some_iff.mp hk).1
  rw [show k = 0 by omega] at hk
  cases hk
  exact h
theorem w_p2 {D : va_G} {q r : Nat × va_E} {H : Heap} (h : va_at D vwCl q H) (h2 : va_at D vwCl r H) : va_P D vwCl [q, r] H := fun k x hk => by
  have hz : k < 2 := (List.getElem?_eq_some_iff.mp hk).1
  rcases (show k = 0 ∨ k = 1 by omega) with rfl | rfl <;> cases hk
  · exact h
  · exact h2
theorem w_set {E : eN} {f : aH} {t a : Nat} {H H1 : Heap} {c : aC} (hw : wH E f t H) (ha : f a ≠ uk) (z : H1.size = H.size) (o : ∀ q : Nat, q ≠ a → H1[q]? = H[q]?) (h1 : va_at E.1 vwCl (a, cE E c) H1) : wH E (va_up f a c) t H1 := by
  obtain ⟨e1, e2, e3, e4⟩ := id hw
  obtain ⟨r1, r2, -⟩ := w_one hw rfl ha
  refine ⟨z.trans e1, e2, fun q hq => (o q (by omega)).trans (e3 q hq), fun b => ?_⟩
  by_cases hb : b = a
  · subst hb
    exact Or.inr ⟨r1, r2, by rw [va_up_self]; exact h1⟩
  · rw [va_up_ne f c hb]
    rcases e4 b with h | ⟨h2, h3, h4⟩
    · exact Or.inl h
    · exact Or.inr ⟨h2, h3, h4.kept (o b hb)⟩
theorem w_push {E : eN} {f : aH} {t : Nat} {H H1 : Heap} {c : aC} (hw : wH E f t H) (z : H1.size = t + 1) (o : ∀ q : Nat, q < t → H1[q]? = H[q]?) (h1 : va_at E.1 vwCl (t, cE E c) H1) : wH E (va_up f t c) (t + 1) H1 := by
  obtain ⟨e1, e2, e3, e4⟩ := id hw
  refine ⟨z, by omega, fun q hq => (o q (by omega)).trans (e3 q hq), fun b => ?_⟩
  by_cases hb : b = t
  · subst hb
    exact Or.inr ⟨e2, by omega, by rw [va_up_self]; exact h1⟩
  · rw [va_up_ne f c hb]
    rcases e4 b with h | ⟨h2, h3, h4⟩
    · exact Or.inl h
    · exact Or.inr ⟨h2, by omega, h4.kept (o b h3)⟩
/-- the places of a method -/
def lH (ls : Array Slot) (nL : Nat) (lo : List (Option Value)) : Prop := ls.size = nL ∧ lv_wf ls ∧ lo.length = nL ∧ ∀ (k : Nat) (v : Value), lo[k]? = some (some v) → ls[k]? = some (.val v)
def l_prs (lo : List (Option Value)) : List (Nat × Value) := (List.range lo.length).filterMap (fun k => ((lo[k]?).getD none).map (fun v => (k, v)))
theorem l_mem {lo : List (Option Value)} {k : Nat} {v : Value} (h : lo[k]? = some (some v)) : (k, v) ∈ l_prs lo := by
  refine List.mem_filterMap.mpr ⟨k, List.mem_range.mpr (List.getElem?_eq_some_iff.mp h).1, ?_⟩
  rw [h]; rfl
theorem l_has {ls : Array Slot} {nL : Nat} {lo : List (Option Value)} (h : lH ls nL lo) : lv_has ls nL (l_prs lo) := by
  refine ⟨h.1, h.2.1, fun q hq => ?_⟩
  obtain ⟨k, hk, e⟩ := List.mem_filterMap.mp hq
  cases hl : lo[k]? with
  | none => rw [hl] at e; cases e
  | some o =>
    cases o with
    | none => rw [hl] at e; cases e
    | some v =>
      rw [hl] at e
      cases e
      exact h.2.2.2 k v hl
def l_clr (lo : List (Option Value)) (i : Nat) : List (Option Value) := match i with
  | 0 => lo
  | j + 1 => match lo[j]? with
    | some (some v) => if v.category = 2 then lo.set j none else lo
    | _ => lo
def l_st1 (lo : List (Option Value)) (i : Nat) (v : Value) : List (Option Value) := (l_clr lo i).set i (some v)
def l_st2 (lo : List (Option Value)) (i : Nat) (v : Value) : List (Option Value) := ((l_clr lo i).set i (some v)).set (i + 1) none
theorem l_clr_len (lo : List (Option Value)) (i : Nat) : (l_clr lo i).length = lo.length := by
  cases i with
  | zero => rfl
  | succ j =>
    unfold l_clr
    dsimp only
    split
    · split
      · simp
      · rfl
    · rfl
theorem l_clr_at {lo : List (Option Value)} {i k : Nat} {v : Value} (h : (l_clr lo i)[k]? = some (some v)) : lo[k]? = some (some v) ∧ ¬ (k + 1 = i ∧ v.category = 2) := by
  cases i with
  | zero => exact ⟨h, fun q => by omega⟩
  | succ j =>
    unfold l_clr at h
    dsimp only at h
    split at h
    · rename_i w hw
      split at h
      · by_cases hk : k = j
        · subst hk
          have hl := (List.getElem?_eq_some_iff.mp hw).1
          rw [List.getElem?_set_self hl] at h
          cases h
        · rw [List.getElem?_set_ne (fun q => hk q.symm)] at h
          exact ⟨h, fun q => hk (by omega)⟩
      · rename_i hc
        refine ⟨h, fun q => ?_⟩
        have hk : k = j := by omega
        subst hk
        rw [hw] at h
        cases h
        exact hc q.2
    · rename_i hw
      refine ⟨h, fun q => ?_⟩
      have hk : k = j := by omega
      subst hk
      exact hw v h
theorem l_store1 {ls ls' : Array Slot} {nL i : Nat} {lo : List (Option Value)} {v : Value} (hl : lH ls nL lo) (h : lv_has ls' nL ((i, v) :: (l_prs lo).filter (fun q => !(q.1 == i) && !(q.1 + 1 == i && q.2.category == 2)))) : lH ls' nL (l_st1 lo i v) := by
  refine ⟨h.1, h.2.1, by unfold l_st1; rw [List.length_set, l_clr_len]; exact hl.2.2.1, fun k w hk => ?_⟩
  refine h.2.2 (k, w) ?_
  unfold l_st1 at hk
  by_cases e : k = i
  · subst e
    have hlt : k < (l_clr lo k).length := by
      have := (List.getElem?_eq_some_iff.mp hk).1
      rwa [List.length_set] at this
    rw [List.getElem?_set_self hlt] at hk
    cases hk
    exact List.mem_cons_self
  · rw [List.getElem?_set_ne (fun q => e q.symm)] at hk
    obtain ⟨h1, h2⟩ := l_clr_at hk
    refine List.mem_cons_of_mem _ (List.mem_filter.mpr ⟨l_mem h1, ?_⟩)
    simp only [Bool.and_eq_true, Bool.not_eq_true', beq_eq_false_iff_ne, ne_eq, Bool.and_eq_false_imp, beq_iff_eq]
    exact ⟨e, fun q q2 => h2 ⟨q, q2⟩⟩
theorem l_store2 {ls ls' : Array Slot} {nL i : Nat} {lo : List (Option Value)} {v : Value} (hl : lH ls nL lo) (h : lv_has ls' nL ((i, v) :: (l_prs lo).filter (fun q => !(q.1 == i) && (!(q.1 == i + 1) && !(q.1 + 1 == i && q.2.category == 2))))) : lH ls' nL (l_st2 lo i v) := by
  refine ⟨h.1, h.2.1, by unfold l_st2; rw [List.length_set, List.length_set, l_clr_len]; exact hl.2.2.1, fun k w hk => ?_⟩
  refine h.2.2 (k, w) ?_
  unfold l_st2 at hk
  by_cases e1 : k = i + 1
  · subst e1
    have hlt : i + 1 < ((l_clr lo i).set i (some v)).length := by
      have := (List.getElem?_eq_some_iff.mp hk).1
      rwa [List.length_set] at this
    rw [List.getElem?_set_self hlt] at hk
    cases hk
  · rw [List.getElem?_set_ne (fun q => e1 q.symm)] at hk
    by_cases e : k = i
    · subst e
      have hlt : k < (l_clr lo k).length := by
        have := (List.getElem?_eq_some_iff.mp hk).1
        rwa [List.length_set] at this
      rw [List.getElem?_set_self hlt] at hk
      cases hk
      exact List.mem_cons_self
    · rw [List.getElem?_set_ne (fun q => e q.symm)] at hk
      obtain ⟨h1, h2⟩ := l_clr_at hk
      refine List.mem_cons_of_mem _ (List.mem_filter.mpr ⟨l_mem h1, ?_⟩)
      simp only [Bool.and_eq_true, Bool.not_eq_true', beq_eq_false_iff_ne, ne_eq, Bool.and_eq_false_imp, beq_iff_eq]
      exact ⟨e, e1, fun q q2 => h2 ⟨q, q2⟩⟩
def cX (E : eN) (I : mR) (mc ms : Nat) (p : Program) (R : Room) (s : State) (m : MethodId) (meth : Method) (c : Code) : Prop :=
  p.tables.exec = Jvm.exec ∧ c.code = I.2.1 ∧ c.maxLocals = I.2.2.1 ∧ s.vm.findClass I.1.cls = some m.cls ∧ (S0 E).WarmedH s.vm ∧ meth.locks = false ∧ meth.sig.returnType = I.2.2.2.1 ∧ meth.name = I.1.name ∧ R = ({ frames := I.2.2.2.2.1, cells := mc, slots := ms, locals := I.2.2.2.2.2 } : Room) ∧ ∀ x ∈ c.exceptionTable.toList, False
def aQ (E : eN) (Q : aP) : Array Value → State → Outcome → State → Prop := fun _ _ o u => ∃ (v : Option Value) (f : aH) (t : Nat), o = .returned v ∧ Q (.inl v) f t ∧ wH E f t u.heap
def aX (E : eN) (Q : aP) : String → State → State → Prop := fun n _ u => ∃ (f : aH) (t : Nat), Q (.inr n) f t ∧ wH E f t u.heap
def V (E : eN) (I : mR) (mc ms : Nat) (Q : aP) (pc : Nat) (lo : List (Option Value)) (st : List Value) (f : aH) (t bc bs : Nat) : Prop :=
  ∀ (p : Program) (e : Env) (R : Room) (s : State) (m : MethodId) (args : Array Value) (below : List Frame) (meth : Method) (c : Code), cX E I mc ms p R s m meth c →
    ∀ (H : Heap) (locs : List Loc) (cells slots : Nat) (ls : Array Slot), wH E f t H → (∀ z ∈ locs, b0 E ≤ z.base) → cells + bc ≤ mc → slots + bs ≤ ms → lH ls I.2.2.1 lo →
      W p E.2.2.2 e R s m args below meth c H locs cells slots (vx_MQ below (aQ E Q) (aX E Q) args s mc ms (fun q => b0 E ≤ q)) (F0 m pc ls st)
/-- a method's contract at these arguments, over this heap -/
def mT (E : eN) (I : mR) (mc ms : Nat) (As : List Value) (f : aH) (t : Nat) (Q : aP) : Prop :=
  vx_Met E.2.2.2 I.1 [Cond.code I.1 I.2.1 I.2.2.1 I.2.2.2.1] ({ frames := I.2.2.2.2.1, cells := mc, slots := ms, locals := I.2.2.2.2.2 } : Room) (fun v U => v = As.toArray ∧ (S0 E).WarmedH U.vm ∧ wH E f t U.heap) (aQ E Q) (aX E Q) mc ms (fun q => b0 E ≤ q)
def l_sl : List Value → List (Option Value)
  | [] => []
  | v :: vs => if v.category = 2 then some v :: none :: l_sl vs else some v :: l_sl vs
theorem l_args : ∀ (As : List Value) (i k : Nat) (v : Value), (l_sl As)[k]? = some (some v) → (i + k, v) ∈ lv_args i As := by
  intro As
  induction As with
  | nil => intro i k v h; simp [l_sl] at h
  | cons w ws ih =>
    intro i k v h
    unfold l_sl at h
    unfold lv_args
    split at h
    · rename_i hc
      rw [if_pos hc]
      match k, h with
      | 0, h => cases h; exact List.mem_cons_self
      | 1, h => simp at h
      | k + 2, h =>
        have h1 : (l_sl ws)[k]? = some (some v) := by simpa using h
        have := ih (i + 2) k v h1
        rw [show i + 2 + k = i + (k + 2) by omega] at this
        exact List.mem_cons_of_mem _ this
    · rename_i hc
      rw [if_neg hc]
      match k, h with
      | 0, h => cases h; exact List.mem_cons_self
      | k + 1, h =>
        have h1 : (l_sl ws)[k]? = some (some v) := by simpa using h
        have := ih (i + 1) k v h1
        rw [show i + 1 + k = i + (k + 1) by omega] at this
        exact List.mem_cons_of_mem _ this
theorem mT_of {E : eN} {I : mR} {mc ms t : Nat} {As : List Value} {f : aH} {Q : aP} {lo : List (Option Value)} {n : Nat} (hy : plainName I.1.cls = true) (hlen : (lg_sl As).length ≤ I.2.2.1) (hll : lo.length = I.2.2.1) (hlo : l_sl As ++ List.replicate n none = lo)
    (h : V E I mc ms Q 0 lo [] f t mc ms) : mT E I mc ms As f t Q := by
  refine vx_ofW (cc := I.2.1) (maxL := I.2.2.1) (ret := I.2.2.2.1) hy rfl ?_
  intro p e s m args below meth c s₁ B hml htab hv
  obtain ⟨rfl, hW, hH⟩ := hv
  have hl := lv_entry As (n := I.2.2.1) hlen
  rw [lg_entry_eq]
  refine h p e _ s m _ below meth c ⟨B.exec, B.bytes, hml, findClass_of_methodNamed B.named, hW, B.notSynchronized, B.returns, (name_of_methodNamed B.named B.method).1, rfl, htab⟩ s.heap [] 0 0 _ hH (fun _ h => by cases h) (by omega) (by omega) ?_
  refine ⟨hl.1, hl.2.1, hll, fun k v hk => ?_⟩
  subst hlo
  by_cases hlt : k < (l_sl As).length
  · rw [List.getElem?_append_left hlt] at hk
    have := hl.2.2 _ (l_args As 0 k v hk)
    simpa using this
  · rw [List.getElem?_append_right (by omega)] at hk
    have := List.mem_of_getElem? hk
    rw [List.mem_replicate] at this
    cases this.2
end
section
section RULES
variable {E : eN} {I : mR} {mc ms : Nat} {Q : aP} {pc : Nat} {lo : List (Option Value)} {st : List Value} {f : aH} {t bc bs : Nat}
theorem v_iconst {n : Int} {v : Int32} (d : decode I.2.1 pc = .ok (.iconst n, 1)) (hv : Int32.ofInt n = v) (k : V E I mc ms Q (pc + 1) lo (.int v :: st) f t bc bs) : V E I mc ms Q pc lo (st) f t bc bs := by
  intro p e R s m args below meth c C H locs cells slots ls hw hz hc hs hl
  exact lv_iconst C.1 C.2.1 d hv (k p e R s m args below meth c C H locs cells slots ls hw hz hc hs hl)
theorem v_bipush {n : Int} {v : Int32} (d : decode I.2.1 pc = .ok (.bipush n, 2)) (hv : (Int8.ofInt n).toInt32 = v) (k : V E I mc ms Q (pc + 2) lo (.int v :: st) f t bc bs) : V E I mc ms Q pc lo (st) f t bc bs := by
  intro p e R s m args below meth c C H locs cells slots ls hw hz hc hs hl
  exact lv_bipush C.1 C.2.1 d hv (k p e R s m args below meth c C H locs cells slots ls hw hz hc hs hl)
theorem v_sipush {n : Int} {v : Int32} (d : decode I.2.1 pc = .ok (.sipush n, 3)) (hv : (Int16.ofInt n).toInt32 = v) (k : V E I mc ms Q (pc + 3) lo (.int v :: st) f t bc bs) : V E I mc ms Q pc lo (st) f t bc bs := by
  intro p e R s m args below meth c C H locs cells slots ls hw hz hc hs hl
  exact lv_sipush C.1 C.2.1 d hv (k p e R s m args below meth c C H locs cells slots ls hw hz hc hs hl)
theorem v_lconst {n : Fin 2} {v : Int64} (d : decode I.2.1 pc = .ok (.lconst n, 1)) (hv : Int64.ofNat (n : Nat) = v) (k : V E I mc ms Q (pc + 1) lo (.long v :: st) f t bc bs) : V E I mc ms Q pc lo (st) f t bc bs := by
  intro p e R s m args below meth c C H locs cells slots ls hw hz hc hs hl
  exact lv_lconst C.1 C.2.1 d hv (k p e R s m args below meth c C H locs cells slots ls hw hz hc hs hl)
theorem v_iload_n {k : Fin 4} {i : Nat} {x : Int32} (d : decode I.2.1 pc = .ok (.iload_n k, 1)) (hi : (k : Nat) = i) (hv : lo[i]? = some (some (.int x))) (k : V E I mc ms Q (pc + 1) lo (.int x :: st) f t bc bs) : V E I mc ms Q pc lo (st) f t bc bs := by
  intro p e R s m args below meth c C H locs cells slots ls hw hz hc hs hl
  exact lv_iload_n C.1 C.2.1 d hi (hl.2.2.2 _ _ hv) (k p e R s m args below meth c C H locs cells slots ls hw hz hc hs hl)
theorem v_iload {i : Nat} {x : Int32} (d : decode I.2.1 pc = .ok (.iload i, 2)) (hv : lo[i]? = some (some (.int x))) (k : V E I mc ms Q (pc + 2) lo (.int x :: st) f t bc bs) : V E I mc ms Q pc lo (st) f t bc bs := by
  intro p e R s m args below meth c C H locs cells slots ls hw hz hc hs hl
  exact lv_iload C.1 C.2.1 d (hl.2.2.2 _ _ hv) (k p e R s m args below meth c C H locs cells slots ls hw hz hc hs hl)
theorem v_lload_n {k : Fin 4} {i : Nat} {x : Int64} (d : decode I.2.1 pc = .ok (.lload_n k, 1)) (hi : (k : Nat) = i) (hv : lo[i]? = some (some (.long x))) (k : V E I mc ms Q (pc + 1) lo (.long x :: st) f t bc bs) : V E I mc ms Q pc lo (st) f t bc bs := by
  intro p e R s m args below meth c C H locs cells slots ls hw hz hc hs hl
  exact lv_lload_n C.1 C.2.1 d hi (hl.2.2.2 _ _ hv) (k p e R s m args below meth c C H locs cells slots ls hw hz hc hs hl)
theorem v_lload {i : Nat} {x : Int64} (d : decode I.2.1 pc = .ok (.lload i, 2)) (hv : lo[i]? = some (some (.long x))) (k : V E I mc ms Q (pc + 2) lo (.long x :: st) f t bc bs) : V E I mc ms Q pc lo (st) f t bc bs := by
  intro p e R s m args below meth c C H locs cells slots ls hw hz hc hs hl
  exact lv_lload C.1 C.2.1 d (hl.2.2.2 _ _ hv) (k p e R s m args below meth c C H locs cells slots ls hw hz hc hs hl)
theorem v_aload_n {k : Fin 4} {i : Nat} {x : Nat} (d : decode I.2.1 pc = .ok (.aload_n k, 1)) (hi : (k : Nat) = i) (hv : lo[i]? = some (some (.ref x))) (k : V E I mc ms Q (pc + 1) lo (.ref x :: st) f t bc bs) : V E I mc ms Q pc lo (st) f t bc bs := by
  intro p e R s m args below meth c C H locs cells slots ls hw hz hc hs hl
  exact lv_aload_n C.1 C.2.1 d hi (hl.2.2.2 _ _ hv) (k p e R s m args below meth c C H locs cells slots ls hw hz hc hs hl)
theorem v_aload {i : Nat} {x : Nat} (d : decode I.2.1 pc = .ok (.aload i, 2)) (hv : lo[i]? = some (some (.ref x))) (k : V E I mc ms Q (pc + 2) lo (.ref x :: st) f t bc bs) : V E I mc ms Q pc lo (st) f t bc bs := by
  intro p e R s m args below meth c C H locs cells slots ls hw hz hc hs hl
  exact lv_aload C.1 C.2.1 d (hl.2.2.2 _ _ hv) (k p e R s m args below meth c C H locs cells slots ls hw hz hc hs hl)
theorem v_istore_n {k : Fin 4} {i : Nat} {x : Int32} (d : decode I.2.1 pc = .ok (.istore_n k, 1)) (hi : (k : Nat) = i) (hn : i < I.2.2.1) (k : V E I mc ms Q (pc + 1) (l_st1 lo i (.int x)) st f t bc bs) : V E I mc ms Q pc lo (.int x :: st) f t bc bs := by
  intro p e R s m args below meth c C H locs cells slots ls hw hz hc hs hl
  exact lv_istore_n C.1 C.2.1 d hi (l_has hl) hn rfl (fun ls2 h2 => k p e R s m args below meth c C H locs cells slots ls2 hw hz hc hs (l_store1 hl h2))
theorem v_istore {i : Nat} {x : Int32} (d : decode I.2.1 pc = .ok (.istore i, 2)) (hn : i < I.2.2.1) (k : V E I mc ms Q (pc + 2) (l_st1 lo i (.int x)) st f t bc bs) : V E I mc ms Q pc lo (.int x :: st) f t bc bs := by
  intro p e R s m args below meth c C H locs cells slots ls hw hz hc hs hl
  exact lv_istore C.1 C.2.1 d (l_has hl) hn rfl (fun ls2 h2 => k p e R s m args below meth c C H locs cells slots ls2 hw hz hc hs (l_store1 hl h2))
theorem v_astore_n {k : Fin 4} {i : Nat} {x : Nat} (d : decode I.2.1 pc = .ok (.astore_n k, 1)) (hi : (k : Nat) = i) (hn : i < I.2.2.1) (k : V E I mc ms Q (pc + 1) (l_st1 lo i (.ref x)) st f t bc bs) : V E I mc ms Q pc lo (.ref x :: st) f t bc bs := by
  intro p e R s m args below meth c C H locs cells slots ls hw hz hc hs hl
  exact lv_astore_n C.1 C.2.1 d hi (l_has hl) hn rfl (fun ls2 h2 => k p e R s m args below meth c C H locs cells slots ls2 hw hz hc hs (l_store1 hl h2))
theorem v_astore {i : Nat} {x : Nat} (d : decode I.2.1 pc = .ok (.astore i, 2)) (hn : i < I.2.2.1) (k : V E I mc ms Q (pc + 2) (l_st1 lo i (.ref x)) st f t bc bs) : V E I mc ms Q pc lo (.ref x :: st) f t bc bs := by
  intro p e R s m args below meth c C H locs cells slots ls hw hz hc hs hl
  exact lv_astore C.1 C.2.1 d (l_has hl) hn rfl (fun ls2 h2 => k p e R s m args below meth c C H locs cells slots ls2 hw hz hc hs (l_store1 hl h2))
theorem v_lstore_n {k : Fin 4} {i : Nat} {x : Int64} (d : decode I.2.1 pc = .ok (.lstore_n k, 1)) (hi : (k : Nat) = i) (hn : i + 1 < I.2.2.1) (k : V E I mc ms Q (pc + 1) (l_st2 lo i (.long x)) st f t bc bs) : V E I mc ms Q pc lo (.long x :: st) f t bc bs := by
  intro p e R s m args below meth c C H locs cells slots ls hw hz hc hs hl
  exact lv_lstore_n C.1 C.2.1 d hi (l_has hl) hn rfl (fun ls2 h2 => k p e R s m args below meth c C H locs cells slots ls2 hw hz hc hs (l_store2 hl h2))
theorem v_lstore {i : Nat} {x : Int64} (d : decode I.2.1 pc = .ok (.lstore i, 2)) (hn : i + 1 < I.2.2.1) (k : V E I mc ms Q (pc + 2) (l_st2 lo i (.long x)) st f t bc bs) : V E I mc ms Q pc lo (.long x :: st) f t bc bs := by
  intro p e R s m args below meth c C H locs cells slots ls hw hz hc hs hl
  exact lv_lstore C.1 C.2.1 d (l_has hl) hn rfl (fun ls2 h2 => k p e R s m args below meth c C H locs cells slots ls2 hw hz hc hs (l_store2 hl h2))
theorem v_iinc {i : Nat} {n : Int} {x v : Int32} (d : decode I.2.1 pc = .ok (.iinc i n, 3)) (hx : lo[i]? = some (some (.int x))) (hv : x + Int32.ofInt n = v) (hn : i < I.2.2.1) (k : V E I mc ms Q (pc + 3) (l_st1 lo i (.int v)) st f t bc bs) : V E I mc ms Q pc lo st f t bc bs := by
  intro p e R s m args below meth c C H locs cells slots ls hw hz hc hs hl
  obtain ⟨j, hj⟩ := List.getElem?_of_mem (l_mem hx)
  exact lv_iinc C.1 C.2.1 d (l_has hl) hj hv hn rfl (fun ls2 h2 => k p e R s m args below meth c C H locs cells slots ls2 hw hz hc hs (l_store1 hl h2))
theorem v_iadd {x y : Int32} (d : decode I.2.1 pc = .ok (.iadd, 1))  (k : V E I mc ms Q (pc + 1) lo (.int (x + y) :: st) f t bc bs) : V E I mc ms Q pc lo (.int y :: .int x :: st) f t bc bs := by
  intro p e R s m args below meth c C H locs cells slots ls hw hz hc hs hl
  exact lv_iadd C.1 C.2.1 d  (k p e R s m args below meth c C H locs cells slots ls hw hz hc hs hl)
theorem v_isub {x y : Int32} (d : decode I.2.1 pc = .ok (.isub, 1))  (k : V E I mc ms Q (pc + 1) lo (.int (x - y) :: st) f t bc bs) : V E I mc ms Q pc lo (.int y :: .int x :: st) f t bc bs := by
  intro p e R s m args below meth c C H locs cells slots ls hw hz hc hs hl
  exact lv_isub C.1 C.2.1 d  (k p e R s m args below meth c C H locs cells slots ls hw hz hc hs hl)
theorem v_imul {x y : Int32} (d : decode I.2.1 pc = .ok (.imul, 1))  (k : V E I mc ms Q (pc + 1) lo (.int (x * y) :: st) f t bc bs) : V E I mc ms Q pc lo (.int y :: .int x :: st) f t bc bs := by
  intro p e R s m args below meth c C H locs cells slots ls hw hz hc hs hl
  exact lv_imul C.1 C.2.1 d  (k p e R s m args below meth c C H locs cells slots ls hw hz hc hs hl)
theorem v_iand {x y : Int32} (d : decode I.2.1 pc = .ok (.iand, 1))  (k : V E I mc ms Q (pc + 1) lo (.int (x &&& y) :: st) f t bc bs) : V E I mc ms Q pc lo (.int y :: .int x :: st) f t bc bs := by
  intro p e R s m args below meth c C H locs cells slots ls hw hz hc hs hl
  exact lv_iand C.1 C.2.1 d  (k p e R s m args below meth c C H locs cells slots ls hw hz hc hs hl)
theorem v_ior {x y : Int32} (d : decode I.2.1 pc = .ok (.ior, 1))  (k : V E I mc ms Q (pc + 1) lo (.int (x ||| y) :: st) f t bc bs) : V E I mc ms Q pc lo (.int y :: .int x :: st) f t bc bs := by
  intro p e R s m args below meth c C H locs cells slots ls hw hz hc hs hl
  exact lv_ior C.1 C.2.1 d  (k p e R s m args below meth c C H locs cells slots ls hw hz hc hs hl)
theorem v_lor {x y : Int64} (d : decode I.2.1 pc = .ok (.lor, 1))  (k : V E I mc ms Q (pc + 1) lo (.long (x ||| y) :: st) f t bc bs) : V E I mc ms Q pc lo (.long y :: .long x :: st) f t bc bs := by
  intro p e R s m args below meth c C H locs cells slots ls hw hz hc hs hl
  exact lv_lor C.1 C.2.1 d  (k p e R s m args below meth c C H locs cells slots ls hw hz hc hs hl)
theorem v_land {x y : Int64} (d : decode I.2.1 pc = .ok (.land, 1))  (k : V E I mc ms Q (pc + 1) lo (.long (x &&& y) :: st) f t bc bs) : V E I mc ms Q pc lo (.long y :: .long x :: st) f t bc bs := by
  intro p e R s m args below meth c C H locs cells slots ls hw hz hc hs hl
  exact lv_land C.1 C.2.1 d  (k p e R s m args below meth c C H locs cells slots ls hw hz hc hs hl)
theorem v_idiv {x y : Int32} (d : decode I.2.1 pc = .ok (.idiv, 1)) (hne : ¬ y = 0) (k : V E I mc ms Q (pc + 1) lo (.int (x / y) :: st) f t bc bs) : V E I mc ms Q pc lo (.int y :: .int x :: st) f t bc bs := by
  intro p e R s m args below meth c C H locs cells slots ls hw hz hc hs hl
  exact lv_idiv C.1 C.2.1 d hne (k p e R s m args below meth c C H locs cells slots ls hw hz hc hs hl)
theorem v_irem {x y : Int32} (d : decode I.2.1 pc = .ok (.irem, 1)) (hne : ¬ y = 0) (k : V E I mc ms Q (pc + 1) lo (.int (x - x / y * y) :: st) f t bc bs) : V E I mc ms Q pc lo (.int y :: .int x :: st) f t bc bs := by
  intro p e R s m args below meth c C H locs cells slots ls hw hz hc hs hl
  exact lv_irem C.1 C.2.1 d hne (k p e R s m args below meth c C H locs cells slots ls hw hz hc hs hl)
theorem v_ineg {x : Int32} (d : decode I.2.1 pc = .ok (.ineg, 1))  (k : V E I mc ms Q (pc + 1) lo (.int (-x) :: st) f t bc bs) : V E I mc ms Q pc lo (.int x :: st) f t bc bs := by
  intro p e R s m args below meth c C H locs cells slots ls hw hz hc hs hl
  exact lv_ineg C.1 C.2.1 d  (k p e R s m args below meth c C H locs cells slots ls hw hz hc hs hl)
theorem v_ishl {x y : Int32} (d : decode I.2.1 pc = .ok (.ishl, 1))  (k : V E I mc ms Q (pc + 1) lo (.int (x <<< (y &&& 31)) :: st) f t bc bs) : V E I mc ms Q pc lo (.int y :: .int x :: st) f t bc bs := by
  intro p e R s m args below meth c C H locs cells slots ls hw hz hc hs hl
  exact lv_ishl C.1 C.2.1 d  (k p e R s m args below meth c C H locs cells slots ls hw hz hc hs hl)
theorem v_ishr {x y : Int32} (d : decode I.2.1 pc = .ok (.ishr, 1))  (k : V E I mc ms Q (pc + 1) lo (.int (x >>> (y &&& 31)) :: st) f t bc bs) : V E I mc ms Q pc lo (.int y :: .int x :: st) f t bc bs := by
  intro p e R s m args below meth c C H locs cells slots ls hw hz hc hs hl
  exact lv_ishr C.1 C.2.1 d  (k p e R s m args below meth c C H locs cells slots ls hw hz hc hs hl)
theorem v_i2l {x : Int32} {v : Int64} (d : decode I.2.1 pc = .ok (.i2l, 1)) (hv : x.toInt64 = v) (k : V E I mc ms Q (pc + 1) lo (.long v :: st) f t bc bs) : V E I mc ms Q pc lo (.int x :: st) f t bc bs := by
  intro p e R s m args below meth c C H locs cells slots ls hw hz hc hs hl
  exact lv_i2l C.1 C.2.1 d hv (k p e R s m args below meth c C H locs cells slots ls hw hz hc hs hl)
theorem v_l2i {x : Int64} {v : Int32} (d : decode I.2.1 pc = .ok (.l2i, 1)) (hv : x.toInt32 = v) (k : V E I mc ms Q (pc + 1) lo (.int v :: st) f t bc bs) : V E I mc ms Q pc lo (.long x :: st) f t bc bs := by
  intro p e R s m args below meth c C H locs cells slots ls hw hz hc hs hl
  exact lv_l2i C.1 C.2.1 d hv (k p e R s m args below meth c C H locs cells slots ls hw hz hc hs hl)
theorem v_i2b {x v : Int32} (d : decode I.2.1 pc = .ok (.i2b, 1)) (hv : x.toInt8.toInt32 = v) (k : V E I mc ms Q (pc + 1) lo (.int v :: st) f t bc bs) : V E I mc ms Q pc lo (.int x :: st) f t bc bs := by
  intro p e R s m args below meth c C H locs cells slots ls hw hz hc hs hl
  exact lv_i2b C.1 C.2.1 d hv (k p e R s m args below meth c C H locs cells slots ls hw hz hc hs hl)
theorem v_i2c {x v : Int32} (d : decode I.2.1 pc = .ok (.i2c, 1)) (hv : (x.toUInt32 % 65536).toInt32 = v) (k : V E I mc ms Q (pc + 1) lo (.int v :: st) f t bc bs) : V E I mc ms Q pc lo (.int x :: st) f t bc bs := by
  intro p e R s m args below meth c C H locs cells slots ls hw hz hc hs hl
  exact lv_i2c C.1 C.2.1 d hv (k p e R s m args below meth c C H locs cells slots ls hw hz hc hs hl)
theorem v_lshr {x v : Int64} {y : Int32} (d : decode I.2.1 pc = .ok (.lshr, 1)) (hv : x >>> (y.toInt64 &&& 63) = v) (k : V E I mc ms Q (pc + 1) lo (.long v :: st) f t bc bs) : V E I mc ms Q pc lo (.int y :: .long x :: st) f t bc bs := by
  intro p e R s m args below meth c C H locs cells slots ls hw hz hc hs hl
  exact lv_lshr C.1 C.2.1 d hv (k p e R s m args below meth c C H locs cells slots ls hw hz hc hs hl)
theorem v_lshl {x v : Int64} {y : Int32} (d : decode I.2.1 pc = .ok (.lshl, 1)) (hv : x <<< (y.toInt64 &&& 63) = v) (k : V E I mc ms Q (pc + 1) lo (.long v :: st) f t bc bs) : V E I mc ms Q pc lo (.int y :: .long x :: st) f t bc bs := by
  intro p e R s m args below meth c C H locs cells slots ls hw hz hc hs hl
  exact lv_lshl C.1 C.2.1 d hv (k p e R s m args below meth c C H locs cells slots ls hw hz hc hs hl)
theorem v_dup {va : Value} (d : decode I.2.1 pc = .ok (.dup, 1)) (hva : va.category = 1) (k : V E I mc ms Q (pc + 1) lo (va :: va :: st) f t bc bs) : V E I mc ms Q pc lo (va :: st) f t bc bs := by
  intro p e R s m args below meth c C H locs cells slots ls hw hz hc hs hl
  exact lv_dup C.1 C.2.1 d hva (k p e R s m args below meth c C H locs cells slots ls hw hz hc hs hl)
theorem v_pop {va : Value} (d : decode I.2.1 pc = .ok (.pop, 1)) (hva : va.category = 1) (k : V E I mc ms Q (pc + 1) lo (st) f t bc bs) : V E I mc ms Q pc lo (va :: st) f t bc bs := by
  intro p e R s m args below meth c C H locs cells slots ls hw hz hc hs hl
  exact lv_pop C.1 C.2.1 d hva (k p e R s m args below meth c C H locs cells slots ls hw hz hc hs hl)
theorem v_dup2 {va vb : Value} (d : decode I.2.1 pc = .ok (.dup2, 1)) (hva : va.category = 1) (hvb : vb.category = 1) (k : V E I mc ms Q (pc + 1) lo (va :: vb :: va :: vb :: st) f t bc bs) : V E I mc ms Q pc lo (va :: vb :: st) f t bc bs := by
  intro p e R s m args below meth c C H locs cells slots ls hw hz hc hs hl
  exact lv_dup2_11 C.1 C.2.1 d hva hvb (k p e R s m args below meth c C H locs cells slots ls hw hz hc hs hl)
theorem v_if_eq {x : Int32} {off : Int} {tgt : Nat} (d : decode I.2.1 pc = .ok (.ifCond .eq off, 3)) (ht : (pc : Int) + off = (tgt : Int)) (kt : x = 0 → V E I mc ms Q tgt lo st f t bc bs) (kf : ¬ (x = 0) → V E I mc ms Q (pc + 3) lo st f t bc bs) : V E I mc ms Q pc lo (.int x :: st) f t bc bs := by
  intro p e R s m args below meth c C H locs cells slots ls hw hz hc hs hl
  exact lv_if_eq C.1 C.2.1 d ht (fun q => kt q p e R s m args below meth c C H locs cells slots ls hw hz hc hs hl) (fun q => kf q p e R s m args below meth c C H locs cells slots ls hw hz hc hs hl)
theorem v_icmp_eq {x y : Int32} {off : Int} {tgt : Nat} (d : decode I.2.1 pc = .ok (.if_icmp .eq off, 3)) (ht : (pc : Int) + off = (tgt : Int)) (kt : x = y → V E I mc ms Q tgt lo st f t bc bs) (kf : ¬ (x = y) → V E I mc ms Q (pc + 3) lo st f t bc bs) : V E I mc ms Q pc lo (.int y :: .int x :: st) f t bc bs := by
  intro p e R s m args below meth c C H locs cells slots ls hw hz hc hs hl
  exact lv_icmp_eq C.1 C.2.1 d ht (fun q => kt q p e R s m args below meth c C H locs cells slots ls hw hz hc hs hl) (fun q => kf q p e R s m args below meth c C H locs cells slots ls hw hz hc hs hl)
theorem v_if_ne {x : Int32} {off : Int} {tgt : Nat} (d : decode I.2.1 pc = .ok (.ifCond .ne off, 3)) (ht : (pc : Int) + off = (tgt : Int)) (kt : ¬ x = 0 → V E I mc ms Q tgt lo st f t bc bs) (kf : x = 0 → V E I mc ms Q (pc + 3) lo st f t bc bs) : V E I mc ms Q pc lo (.int x :: st) f t bc bs := by
  intro p e R s m args below meth c C H locs cells slots ls hw hz hc hs hl
  exact lv_if_ne C.1 C.2.1 d ht (fun q => kt q p e R s m args below meth c C H locs cells slots ls hw hz hc hs hl) (fun q => kf q p e R s m args below meth c C H locs cells slots ls hw hz hc hs hl)
theorem v_icmp_ne {x y : Int32} {off : Int} {tgt : Nat} (d : decode I.2.1 pc = .ok (.if_icmp .ne off, 3)) (ht : (pc : Int) + off = (tgt : Int)) (kt : ¬ x = y → V E I mc ms Q tgt lo st f t bc bs) (kf : x = y → V E I mc ms Q (pc + 3) lo st f t bc bs) : V E I mc ms Q pc lo (.int y :: .int x :: st) f t bc bs := by
  intro p e R s m args below meth c C H locs cells slots ls hw hz hc hs hl
  exact lv_icmp_ne C.1 C.2.1 d ht (fun q => kt q p e R s m args below meth c C H locs cells slots ls hw hz hc hs hl) (fun q => kf q p e R s m args below meth c C H locs cells slots ls hw hz hc hs hl)
theorem v_if_lt {x : Int32} {off : Int} {tgt : Nat} (d : decode I.2.1 pc = .ok (.ifCond .lt off, 3)) (ht : (pc : Int) + off = (tgt : Int)) (kt : x < 0 → V E I mc ms Q tgt lo st f t bc bs) (kf : ¬ (x < 0) → V E I mc ms Q (pc + 3) lo st f t bc bs) : V E I mc ms Q pc lo (.int x :: st) f t bc bs := by
  intro p e R s m args below meth c C H locs cells slots ls hw hz hc hs hl
  exact lv_if_lt C.1 C.2.1 d ht (fun q => kt q p e R s m args below meth c C H locs cells slots ls hw hz hc hs hl) (fun q => kf q p e R s m args below meth c C H locs cells slots ls hw hz hc hs hl)
theorem v_icmp_lt {x y : Int32} {off : Int} {tgt : Nat} (d : decode I.2.1 pc = .ok (.if_icmp .lt off, 3)) (ht : (pc : Int) + off = (tgt : Int)) (kt : x < y → V E I mc ms Q tgt lo st f t bc bs) (kf : ¬ (x < y) → V E I mc ms Q (pc + 3) lo st f t bc bs) : V E I mc ms Q pc lo (.int y :: .int x :: st) f t bc bs := by
  intro p e R s m args below meth c C H locs cells slots ls hw hz hc hs hl
  exact lv_icmp_lt C.1 C.2.1 d ht (fun q => kt q p e R s m args below meth c C H locs cells slots ls hw hz hc hs hl) (fun q => kf q p e R s m args below meth c C H locs cells slots ls hw hz hc hs hl)
theorem v_if_ge {x : Int32} {off : Int} {tgt : Nat} (d : decode I.2.1 pc = .ok (.ifCond .ge off, 3)) (ht : (pc : Int) + off = (tgt : Int)) (kt : 0 ≤ x → V E I mc ms Q tgt lo st f t bc bs) (kf : ¬ (0 ≤ x) → V E I mc ms Q (pc + 3) lo st f t bc bs) : V E I mc ms Q pc lo (.int x :: st) f t bc bs := by
  intro p e R s m args below meth c C H locs cells slots ls hw hz hc hs hl
  exact lv_if_ge C.1 C.2.1 d ht (fun q => kt q p e R s m args below meth c C H locs cells slots ls hw hz hc hs hl) (fun q => kf q p e R s m args below meth c C H locs cells slots ls hw hz hc hs hl)
theorem v_icmp_ge {x y : Int32} {off : Int} {tgt : Nat} (d : decode I.2.1 pc = .ok (.if_icmp .ge off, 3)) (ht : (pc : Int) + off = (tgt : Int)) (kt : y ≤ x → V E I mc ms Q tgt lo st f t bc bs) (kf : ¬ (y ≤ x) → V E I mc ms Q (pc + 3) lo st f t bc bs) : V E I mc ms Q pc lo (.int y :: .int x :: st) f t bc bs := by
  intro p e R s m args below meth c C H locs cells slots ls hw hz hc hs hl
  exact lv_icmp_ge C.1 C.2.1 d ht (fun q => kt q p e R s m args below meth c C H locs cells slots ls hw hz hc hs hl) (fun q => kf q p e R s m args below meth c C H locs cells slots ls hw hz hc hs hl)
theorem v_if_gt {x : Int32} {off : Int} {tgt : Nat} (d : decode I.2.1 pc = .ok (.ifCond .gt off, 3)) (ht : (pc : Int) + off = (tgt : Int)) (kt : 0 < x → V E I mc ms Q tgt lo st f t bc bs) (kf : ¬ (0 < x) → V E I mc ms Q (pc + 3) lo st f t bc bs) : V E I mc ms Q pc lo (.int x :: st) f t bc bs := by
  intro p e R s m args below meth c C H locs cells slots ls hw hz hc hs hl
  exact lv_if_gt C.1 C.2.1 d ht (fun q => kt q p e R s m args below meth c C H locs cells slots ls hw hz hc hs hl) (fun q => kf q p e R s m args below meth c C H locs cells slots ls hw hz hc hs hl)
theorem v_icmp_gt {x y : Int32} {off : Int} {tgt : Nat} (d : decode I.2.1 pc = .ok (.if_icmp .gt off, 3)) (ht : (pc : Int) + off = (tgt : Int)) (kt : y < x → V E I mc ms Q tgt lo st f t bc bs) (kf : ¬ (y < x) → V E I mc ms Q (pc + 3) lo st f t bc bs) : V E I mc ms Q pc lo (.int y :: .int x :: st) f t bc bs := by
  intro p e R s m args below meth c C H locs cells slots ls hw hz hc hs hl
  exact lv_icmp_gt C.1 C.2.1 d ht (fun q => kt q p e R s m args below meth c C H locs cells slots ls hw hz hc hs hl) (fun q => kf q p e R s m args below meth c C H locs cells slots ls hw hz hc hs hl)
theorem v_if_le {x : Int32} {off : Int} {tgt : Nat} (d : decode I.2.1 pc = .ok (.ifCond .le off, 3)) (ht : (pc : Int) + off = (tgt : Int)) (kt : x ≤ 0 → V E I mc ms Q tgt lo st f t bc bs) (kf : ¬ (x ≤ 0) → V E I mc ms Q (pc + 3) lo st f t bc bs) : V E I mc ms Q pc lo (.int x :: st) f t bc bs := by
  intro p e R s m args below meth c C H locs cells slots ls hw hz hc hs hl
  exact lv_if_le C.1 C.2.1 d ht (fun q => kt q p e R s m args below meth c C H locs cells slots ls hw hz hc hs hl) (fun q => kf q p e R s m args below meth c C H locs cells slots ls hw hz hc hs hl)
theorem v_icmp_le {x y : Int32} {off : Int} {tgt : Nat} (d : decode I.2.1 pc = .ok (.if_icmp .le off, 3)) (ht : (pc : Int) + off = (tgt : Int)) (kt : x ≤ y → V E I mc ms Q tgt lo st f t bc bs) (kf : ¬ (x ≤ y) → V E I mc ms Q (pc + 3) lo st f t bc bs) : V E I mc ms Q pc lo (.int y :: .int x :: st) f t bc bs := by
  intro p e R s m args below meth c C H locs cells slots ls hw hz hc hs hl
  exact lv_icmp_le C.1 C.2.1 d ht (fun q => kt q p e R s m args below meth c C H locs cells slots ls hw hz hc hs hl) (fun q => kf q p e R s m args below meth c C H locs cells slots ls hw hz hc hs hl)
theorem v_goto {off : Int} {tgt : Nat} (d : decode I.2.1 pc = .ok (.goto off, 3)) (ht : (pc : Int) + off = (tgt : Int)) (k : V E I mc ms Q tgt lo st f t bc bs) : V E I mc ms Q pc lo st f t bc bs := by
  intro p e R s m args below meth c C H locs cells slots ls hw hz hc hs hl
  exact lv_goto C.1 C.2.1 d ht (k p e R s m args below meth c C H locs cells slots ls hw hz hc hs hl)
theorem v_tableOut {x : Int32} {dflt lo1 hi : Int} {offs : Array Int} {len tgt : Nat} (d : decode I.2.1 pc = .ok (.tableswitch dflt lo1 hi offs, len)) (h : x.toInt < lo1 ∨ hi < x.toInt) (ht : (pc : Int) + dflt = (tgt : Int)) (k : V E I mc ms Q tgt lo st f t bc bs) : V E I mc ms Q pc lo (.int x :: st) f t bc bs := by
  intro p e R s m args below meth c C H locs cells slots ls hw hz hc hs hl
  exact lv_tableOut C.1 C.2.1 d h ht (k p e R s m args below meth c C H locs cells slots ls hw hz hc hs hl)
theorem v_tableIn {x : Int32} {dflt lo1 hi off : Int} {offs : Array Int} {len tgt : Nat} (d : decode I.2.1 pc = .ok (.tableswitch dflt lo1 hi offs, len)) (h1 : ¬ x.toInt < lo1) (h2 : ¬ hi < x.toInt) (ho : offs[(x.toInt - lo1).toNat]? = some off) (ht : (pc : Int) + off = (tgt : Int)) (k : V E I mc ms Q tgt lo st f t bc bs) : V E I mc ms Q pc lo (.int x :: st) f t bc bs := by
  intro p e R s m args below meth c C H locs cells slots ls hw hz hc hs hl
  exact lv_tableIn C.1 C.2.1 d h1 h2 ho ht (k p e R s m args below meth c C H locs cells slots ls hw hz hc hs hl)
theorem v_lookup {x : Int32} {dflt off : Int} {ps : Array (Int × Int)} {len tgt : Nat} (d : decode I.2.1 pc = .ok (.lookupswitch dflt ps, len)) (hp : (ps.toList.zip (ps.toList.drop 1)).all (fun (a, next) => a.1 < next.1) = true) (ho : Op.lookupswitch.offset ps.toList dflt x.toInt = off) (ht : (pc : Int) + off = (tgt : Int)) (k : V E I mc ms Q tgt lo st f t bc bs) : V E I mc ms Q pc lo (.int x :: st) f t bc bs := by
  intro p e R s m args below meth c C H locs cells slots ls hw hz hc hs hl
  exact lv_lookup C.1 C.2.1 d hp ho ht (k p e R s m args below meth c C H locs cells slots ls hw hz hc hs hl)
/-- another name for the number on top -/
theorem v_eqi {x y : Int32} (h : x = y) (k : V E I mc ms Q pc lo (.int y :: st) f t bc bs) : V E I mc ms Q pc lo (.int x :: st) f t bc bs := h ▸ k
theorem v_eql {x y : Int64} (h : x = y) (k : V E I mc ms Q pc lo (.long y :: st) f t bc bs) : V E I mc ms Q pc lo (.long x :: st) f t bc bs := h ▸ k
theorem v_lo {lo2 : List (Option Value)} (h : lo = lo2) (k : V E I mc ms Q pc lo2 st f t bc bs) : V E I mc ms Q pc lo st f t bc bs := h ▸ k
theorem v_hp {f2 : aH} (h : f = f2) (k : V E I mc ms Q pc lo st f2 t bc bs) : V E I mc ms Q pc lo st f t bc bs := h ▸ k
/-- fewer places known -/
theorem v_few {lo2 : List (Option Value)} (hlen : lo2.length = lo.length) (h : ∀ (k : Nat) (v : Value), lo2[k]? = some (some v) → lo[k]? = some (some v)) (k : V E I mc ms Q pc lo2 st f t bc bs) : V E I mc ms Q pc lo st f t bc bs := by
  intro p e R s m args below meth c C H locs cells slots ls hw hz hc hs hl
  exact k p e R s m args below meth c C H locs cells slots ls hw hz hc hs ⟨hl.1, hl.2.1, hlen.trans hl.2.2.1, fun j v hj => hl.2.2.2 j v (h j v hj)⟩
/-- less room wanted -/
theorem v_room {bc2 bs2 : Nat} (h1 : bc2 ≤ bc) (h2 : bs2 ≤ bs) (k : V E I mc ms Q pc lo st f t bc2 bs2) : V E I mc ms Q pc lo st f t bc bs := by
  intro p e R s m args below meth c C H locs cells slots ls hw hz hc hs hl
  exact k p e R s m args below meth c C H locs cells slots ls hw hz (by omega) (by omega) hl
/-- what is known of every heap of the run -/
theorem v_wf (k : (∀ a : Nat, f a ≠ uk → b0 E ≤ a ∧ a < t) → b0 E ≤ t → V E I mc ms Q pc lo st f t bc bs) : V E I mc ms Q pc lo st f t bc bs := by
  intro p e R s m args below meth c C H locs cells slots ls hw hz hc hs hl
  exact k (fun a ha => ⟨(w_one hw rfl ha).1, (w_one hw rfl ha).2.1⟩) hw.2.1 p e R s m args below meth c C H locs cells slots ls hw hz hc hs hl
theorem v_post {Q2 : aP} (h : ∀ o g u, Q2 o g u → Q o g u) (k : V E I mc ms Q2 pc lo st f t bc bs) : V E I mc ms Q pc lo st f t bc bs := by
  intro p e R s m args below meth c C H locs cells slots ls hw hz hc hs hl
  intro T hT X
  obtain ⟨t2, a1, o, b1, b2, b3⟩ := k p e R s m args below meth c C H locs cells slots ls hw hz hc hs hl T hT X
  refine ⟨t2, a1, o, b1, b2, ?_⟩
  rcases b3 with ⟨⟨v, g, u, h1, h2, h3⟩, h4⟩ | ⟨q, h1, n, ce, L, ⟨g, u, h2, h3⟩, h4⟩
  · exact Or.inl ⟨⟨v, g, u, h1, h _ _ _ h2, h3⟩, h4⟩
  · exact Or.inr ⟨q, h1, n, ce, L, ⟨g, u, h _ _ _ h2, h3⟩, h4⟩
theorem v_ret (d : decode I.2.1 pc = .ok (.return_, 1)) (hr : I.2.2.2.1 = none) (hq : Q (.inl none) f t) : V E I mc ms Q pc lo [] f t bc bs := by
  intro p e R s m args below meth c C H locs cells slots ls hw hz hc hs hl
  refine vx_ret (W.widen (k := mc) (n := ms) (by omega) (by omega) ?_)
  exact W.vret C.1 C.2.1 (C.2.2.2.2.2.2.1.trans hr) (fun u hu _ => ⟨none, f, t, rfl, hq, by rw [hu]; exact hw⟩) hz d C.2.2.2.2.2.1
theorem v_iret {v : Int32} {ty : FieldType} (d : decode I.2.1 pc = .ok (.ireturn, 1)) (hr : I.2.2.2.1 = some ty) (hn : narrow ty (.int v) = .int v) (hq : Q (.inl (some (.int v))) f t) : V E I mc ms Q pc lo [.int v] f t bc bs := by
  intro p e R s m args below meth c C H locs cells slots ls hw hz hc hs hl
  refine vx_ret (W.widen (k := mc) (n := ms) (by omega) (by omega) ?_)
  exact W.zret C.1 C.2.1 (C.2.2.2.2.2.2.1.trans hr) hn (fun u hu _ => ⟨_, f, t, rfl, hq, by rw [hu]; exact hw⟩) hz d C.2.2.2.2.2.1
theorem v_aret {v : Value} {ty : FieldType} (d : decode I.2.1 pc = .ok (.areturn, 1)) (hr : I.2.2.2.1 = some ty) (hrt : (∃ n, ty = .object n) ∨ ∃ u, ty = .array u) (hv : v = .null ∨ ∃ a, v = .ref a) (hq : Q (.inl (some v)) f t) : V E I mc ms Q pc lo [v] f t bc bs := by
  intro p e R s m args below meth c C H locs cells slots ls hw hz hc hs hl
  refine vx_ret (W.widen (k := mc) (n := ms) (by omega) (by omega) ?_)
  exact W.aret C.1 C.2.1 (C.2.2.2.2.2.2.1.trans hr) hrt hv (fun u hu _ => ⟨_, f, t, rfl, hq, by rw [hu]; exact hw⟩) hz d C.2.2.2.2.2.1
theorem v_lret {v : Int64} (d : decode I.2.1 pc = .ok (.lreturn, 1)) (hr : I.2.2.2.1 = some .long) (hq : Q (.inl (some (.long v))) f t) : V E I mc ms Q pc lo [.long v] f t bc bs := by
  intro p e R s m args below meth c C H locs cells slots ls hw hz hc hs hl
  refine vx_ret (W.widen (k := mc) (n := ms) (by omega) (by omega) ?_)
  exact W.lret C.1 C.2.1 (C.2.2.2.2.2.2.1.trans hr) (fun u hu _ => ⟨_, f, t, rfl, hq, by rw [hu]; exact hw⟩) hz d C.2.2.2.2.2.1
end RULES
end
section
def tyF (ci : Nat) : Nat → FieldType := match ci with
  | 0 => tyX0
  | 1 => tyX1
  | 2 => tyX2
  | 3 => tyX3
  | 4 => tyX4
  | 5 => tyX5
  | 6 => tyX6
  | 7 => tyX7
  | 8 => tyX8
  | 9 => tyX9
  | _ => tyX10
theorem gdX0 : ∀ w ∈ u_ws RX0 TX0 14, w ∈ lw_tbl ∧ goodWord w = true := by decide +kernel
theorem owX0 : ∀ k, k < 14 → (TX0 k).1 = RX0 := by decide +kernel
theorem gdX1 : ∀ w ∈ u_ws RX1 TX1 8, w ∈ lw_tbl ∧ goodWord w = true := by decide +kernel
theorem owX1 : ∀ k, k < 8 → (TX1 k).1 = RX1 := by decide +kernel
theorem gdX2 : ∀ w ∈ u_ws RX2 TX2 11, w ∈ lw_tbl ∧ goodWord w = true := by decide +kernel
theorem owX2 : ∀ k, k < 11 → (TX2 k).1 = RX2 := by decide +kernel
theorem gdX3 : ∀ w ∈ u_ws RX3 TX3 9, w ∈ lw_tbl ∧ goodWord w = true := by decide +kernel
theorem owX3 : ∀ k, k < 9 → (TX3 k).1 = RX3 := by decide +kernel
theorem gdX4 : ∀ w ∈ u_ws RX4 TX4 3, w ∈ lw_tbl ∧ goodWord w = true := by decide +kernel
theorem owX4 : ∀ k, k < 3 → (TX4 k).1 = RX4 := by decide +kernel
theorem gdX5 : ∀ w ∈ u_ws RX5 TX5 4, w ∈ lw_tbl ∧ goodWord w = true := by decide +kernel
theorem owX5 : ∀ k, k < 4 → (TX5 k).1 = RX5 := by decide +kernel
theorem gdX6 : ∀ w ∈ u_ws RX6 TX6 3, w ∈ lw_tbl ∧ goodWord w = true := by decide +kernel
theorem owX6 : ∀ k, k < 3 → (TX6 k).1 = RX6 := by decide +kernel
theorem gdX7 : ∀ w ∈ u_ws RX7 TX7 3, w ∈ lw_tbl ∧ goodWord w = true := by decide +kernel
theorem owX7 : ∀ k, k < 3 → (TX7 k).1 = RX7 := by decide +kernel
theorem gdX8 : ∀ w ∈ u_ws RX8 TX8 10, w ∈ lw_tbl ∧ goodWord w = true := by decide +kernel
theorem owX8 : ∀ k, k < 10 → (TX8 k).1 = RX8 := by decide +kernel
theorem gdX9 : ∀ w ∈ u_ws RX9 TX9 10, w ∈ lw_tbl ∧ goodWord w = true := by decide +kernel
theorem owX9 : ∀ k, k < 10 → (TX9 k).1 = RX9 := by decide +kernel
theorem gdX10 : ∀ w ∈ u_ws RX10 TX10 53, w ∈ lw_tbl ∧ goodWord w = true := by decide +kernel
theorem owX10 : ∀ k, k < 53 → (TX10 k).1 = RX10 := by decide +kernel
theorem clOk : ∀ (ci : Nat) (q : vw_C), vwCl[ci]? = some q → (∀ w ∈ u_ws q.1 q.2.1 q.2.2, w ∈ lw_tbl ∧ goodWord w = true) ∧ (∀ k, k < q.2.2 → parseFieldDescriptor (q.2.1 k).2.2.1 = some (tyF ci k)) ∧ (∀ a, a < q.2.2 → ∀ b, b < q.2.2 → a ≠ b → (q.2.1 a).2.1 ≠ (q.2.1 b).2.1) ∧ ∀ k, k < q.2.2 → (q.2.1 k).1 = q.1 := by
  intro ci q h
  match ci, h with
  | 0, h => cases h; exact ⟨gdX0, tyX0_ok, nmX0, owX0⟩
  | 1, h => cases h; exact ⟨gdX1, tyX1_ok, nmX1, owX1⟩
  | 2, h => cases h; exact ⟨gdX2, tyX2_ok, nmX2, owX2⟩
  | 3, h => cases h; exact ⟨gdX3, tyX3_ok, nmX3, owX3⟩
  | 4, h => cases h; exact ⟨gdX4, tyX4_ok, nmX4, owX4⟩
  | 5, h => cases h; exact ⟨gdX5, tyX5_ok, nmX5, owX5⟩
  | 6, h => cases h; exact ⟨gdX6, tyX6_ok, nmX6, owX6⟩
  | 7, h => cases h; exact ⟨gdX7, tyX7_ok, nmX7, owX7⟩
  | 8, h => cases h; exact ⟨gdX8, tyX8_ok, nmX8, owX8⟩
  | 9, h => cases h; exact ⟨gdX9, tyX9_ok, nmX9, owX9⟩
  | 10, h => cases h; exact ⟨gdX10, tyX10_ok, nmX10, owX10⟩
  | n + 11, h => cases h
/-- entry ix of the pool of that owner is slot k of kind ci; n: as a mate's -/
def fLb (own : String) (ix ci k : Nat) (n : Bool) : Bool := match vwCl[ci]? with
  | some q => decide (k < q.2.2) && (if n then decide (Cond.fieldLinkNest own ix q.1 (q.2.1 k).2.1 (q.2.1 k).2.2.1 RX9 ∈ lw_tbl) else decide (Cond.fieldLink own ix q.1 (q.2.1 k).2.1 (q.2.1 k).2.2.1 ∈ lw_tbl))
  | none => false
theorem fLb_spec {own : String} {ix ci k : Nat} {n : Bool} (h : fLb own ix ci k n = true) : ∃ q : vw_C, vwCl[ci]? = some q ∧ k < q.2.2 ∧ (n = true → Cond.fieldLinkNest own ix q.1 (q.2.1 k).2.1 (q.2.1 k).2.2.1 RX9 ∈ lw_tbl) ∧ (n = false → Cond.fieldLink own ix q.1 (q.2.1 k).2.1 (q.2.1 k).2.2.1 ∈ lw_tbl) := by
  unfold fLb at h
  split at h
  · rename_i q hq
    simp only [Bool.and_eq_true, decide_eq_true_eq] at h
    refine ⟨q, hq, h.1, fun hn => ?_, fun hn => ?_⟩
    · have := h.2
      rw [hn] at this
      simpa using this
    · have := h.2
      rw [hn] at this
      simpa using this
  · cases h
theorem e_nw {E : eN} (hE : eOk E) {s : State} (hW : (S0 E).WarmedH s.vm) {o b n d h : String} {i : Nat} (hm : Cond.fieldLinkNest o i b n d h ∈ lw_tbl) (a : Array Value) : (Cond.fieldLinkNest o i b n d h).before a s = true := by
  obtain ⟨-, a0, hh⟩ := hE
  exact va_Nw.use rfl (va_Nw.warmF hW (va_Nw.of rfl (hh _ hm)))
theorem e_nm {E : eN} (hE : eOk E) {s : State} (hW : (S0 E).WarmedH s.vm) {o h : String} {x : MethodName} {i : Nat} (hm : Cond.methodLinkNest o i x h ∈ lw_tbl) : va_Nw (.methodLinkNest o i x h) s := by
  obtain ⟨-, a0, hh⟩ := hE
  exact va_Nw.warmM hW (va_Nw.of rfl (hh _ hm))
theorem uk_o {o : Nat × List Value} : (Sum.inr o : aC) ≠ uk := fun h => by cases h
theorem uk_a {k : Nat} {x : vp_A} (h : k < 6) : (Sum.inl (k, x) : aC) ≠ uk := fun q => by
  have h1 : (k, x) = ((6, 0, .inl (fun _ => 0)) : Nat × vp_A) := Sum.inl.inj q
  have h2 : k = 6 := congrArg Prod.fst h1
  omega
theorem ty_at (E : eN) {k : Nat} (h : k < 6) : (tyE E)[k]? = some (E.2.1 k, aK k) := by
  rcases (show k = 0 ∨ k = 1 ∨ k = 2 ∨ k = 3 ∨ k = 4 ∨ k = 5 by omega) with rfl | rfl | rfl | rfl | rfl | rfl <;> rfl
section HEAP
variable {E : eN} {I : mR} {mc ms : Nat} {Q : aP} {pc : Nat} {lo : List (Option Value)} {st : List Value} {f : aH} {t bc bs : Nat}
theorem v_getf (hE : eOk E) {ix ci k a : Nat} {n : Bool} {fs : List Value} {v : Value} (d : decode I.2.1 pc = .ok (.getfield ix, 3)) (hL : fLb I.1.cls ix ci k n = true) (hf : f a = .inr (ci, fs)) (hv : fs[k]? = some v) (kk : V E I mc ms Q (pc + 3) lo (v :: st) f t bc bs) : V E I mc ms Q pc lo (.ref a :: st) f t bc bs := by
  intro p e R s m args below meth c C H locs cells slots ls hw hz hc hs hl
  have hW := C.2.2.2.2.1
  obtain ⟨q, hq, hk, h1, h2⟩ := fLb_spec hL
  obtain ⟨g1, g2, g3, g4⟩ := clOk ci q hq
  obtain ⟨r1, r2, r3⟩ := w_one hw hf uk_o
  have hts : ∀ w ∈ u_ws q.1 q.2.1 q.2.2, w.before args s = true := fun w h => e_w hE hW (g1 w h).1 (g1 w h).2 args
  cases n with
  | false => exact va_get (D := E.1) (ci := ci) (v := v) (C := q.1) (T := q.2.1) (N := q.2.2) C.1 C.2.1 hts (fun _ h => h) C.2.2.2.1 (e_k hE hW) (w_p1 r3) 0 rfl hq k hk (e_w hE hW (h2 rfl) rfl args) (fun x h => by rw [← g4 k hk]; exact h) hv d (kk p e R s m args below meth c C H locs cells slots ls hw hz hc hs hl)
  | true => exact va_getN (D := E.1) (ci := ci) (v := v) (C := q.1) (T := q.2.1) (N := q.2.2) C.1 C.2.1 hts (fun _ h => h) C.2.2.2.1 (e_k hE hW) (w_p1 r3) 0 rfl hq k hk (e_nw hE hW (h1 rfl) args) (fun x h => by rw [← g4 k hk]; exact h) hv d (kk p e R s m args below meth c C H locs cells slots ls hw hz hc hs hl)
theorem v_putf (hE : eOk E) {ix ci k a : Nat} {n : Bool} {fs : List Value} {v : Value} (d : decode I.2.1 pc = .ok (.putfield ix, 3)) (hL : fLb I.1.cls ix ci k n = true) (hf : f a = .inr (ci, fs)) (hl9 : k < fs.length) (hfin : (match vwCl[ci]? with | some q => (q.2.1 k).2.2.2 | none => true) = false) (hn : narrow (tyF ci k) v = v) (hfit : fits (tyF ci k) v = true)
    (kk : V E I mc ms Q (pc + 3) lo st (va_up f a (.inr (ci, fs.set k v))) t bc bs) : V E I mc ms Q pc lo (v :: .ref a :: st) f t bc bs := by
  intro p e R s m args below meth c C H locs cells slots ls hw hz hc hs hl
  have hW := C.2.2.2.2.1
  obtain ⟨q, hq, hk, h1, h2⟩ := fLb_spec hL
  rw [hq] at hfin
  dsimp only at hfin
  obtain ⟨g1, g2, g3, g4⟩ := clOk ci q hq
  obtain ⟨r1, r2, r, e1, cell, q1, q2, q3, q4⟩ := w_one hw hf uk_o
  have hts : ∀ w ∈ u_ws q.1 q.2.1 q.2.2, w.before args s = true := fun w h => e_w hE hW (g1 w h).1 (g1 w h).2 args
  have hK := e_k hE hW
  have hap := va_apart (own := q.1) hts (fun _ h => h) (tyF ci) g2 g3 hK hq
  have hr : r = q := Option.some.inj (e1.symm.trans hq)
  subst hr
  obtain ⟨hS, hfc, kC, hkC, hkind⟩ := hK.1 ci _ hq
  obtain ⟨cf, kf, fi, fd, hi, hsl⟩ := hS k hk
  have hlay := hts _ (u_in_lay hk)
  unfold u_lay at hlay
  rw [if_neg (by rw [hfin]; decide)] at hlay
  have hst := (u_facts hfc hkC (u_lays hts (fun _ h => h) hk) hi).1
  have h6 := u_store hfc hkC hkind hlay hi (g2 k hk) hn hfit
  have hi2 : s.fieldFound? r.1 (r.2.1 k).2.1 (r.2.1 k).2.2.1 = some (cf, kf, fi, fd) := by rw [← g4 k hk]; exact hi
  have fin : ∀ H1 : Heap, H1[a]? = some (cell.setSlot fd.slot v) → H1.size = H.size → (∀ q, q ≠ a → H1[q]? = H[q]?) → W p E.2.2.2 e R s m args below meth c H1 (locs ++ [⟨a, fd.slot⟩]) cells slots (vx_MQ below (aQ E Q) (aX E Q) args s mc ms (fun q => b0 E ≤ q)) (F0 m (pc + 3) ls st) := by
    intro H1 x1 x2 x3
    rw [hsl] at x1 ⊢
    refine kk p e R s m args below meth c C H1 _ cells slots ls (w_set hw (by rw [hf]; exact uk_o) x2 x3 ?_) (fun z hz9 => ?_) hc hs hl
    · exact ⟨_, hq, t_OB.to (V := updV (vp_V fs) k v) ⟨_, x1, q2, q3, t_set q4 hap hk v⟩ (fun j _ => vp_updV_set hl9 v j)⟩
    · rcases List.mem_append.mp hz9 with h | h
      · exact hz z h
      · rw [List.mem_singleton.mp h]; exact r1
  cases n with
  | false => exact W.putK C.1 C.2.1 (f := fd) ⟨C.2.2.2.1, e_w hE hW (h2 rfl) rfl args, ⟨_, _, _, hi2⟩, hst⟩ (by rw [q2]; exact h6) q1 q3 (by rw [hsl]; exact k2_hasslot (q4 k hk)) rfl rfl d fin
  | true => exact va_WputK C.1 C.2.1 (f := fd) C.2.2.2.1 (e_nw hE hW (h1 rfl) args) hi2 hst (by rw [q2]; exact h6) q1 q3 (by rw [hsl]; exact k2_hasslot (q4 k hk)) rfl rfl d fin
/-- a final slot, in the making -/
theorem v_putF (hE : eOk E) {ix ci k a : Nat} {fs : List Value} {v : Value} (d : decode I.2.1 pc = .ok (.putfield ix, 3)) (hL : fLb I.1.cls ix ci k false = true) (hown : (match vwCl[ci]? with | some q => q.1 | none => "") = I.1.cls) (hini : I.1.name = "<init>") (hf : f a = .inr (ci, fs)) (hl9 : k < fs.length) (hfin : (match vwCl[ci]? with | some q => (q.2.1 k).2.2.2 | none => false) = true) (hn : narrow (tyF ci k) v = v) (hfit : fits (tyF ci k) v = true)
    (kk : V E I mc ms Q (pc + 3) lo st (va_up f a (.inr (ci, fs.set k v))) t bc bs) : V E I mc ms Q pc lo (v :: .ref a :: st) f t bc bs := by
  intro p e R s m args below meth c C H locs cells slots ls hw hz hc hs hl
  have hW := C.2.2.2.2.1
  obtain ⟨q, hq, hk, h1, h2⟩ := fLb_spec hL
  rw [hq] at hfin hown
  dsimp only at hfin hown
  obtain ⟨g1, g2, g3, g4⟩ := clOk ci q hq
  obtain ⟨r1, r2, r, e1, cell, q1, q2, q3, q4⟩ := w_one hw hf uk_o
  have hts : ∀ w ∈ u_ws q.1 q.2.1 q.2.2, w.before args s = true := fun w h => e_w hE hW (g1 w h).1 (g1 w h).2 args
  have hK := e_k hE hW
  have hap := va_apart (own := q.1) hts (fun _ h => h) (tyF ci) g2 g3 hK hq
  have hr : r = q := Option.some.inj (e1.symm.trans hq)
  subst hr
  obtain ⟨hS, hfc, kC, hkC, hkind⟩ := hK.1 ci _ hq
  obtain ⟨cf, kf, fi, fd, hi, hsl⟩ := hS k hk
  have hlay := hts _ (u_in_lay hk)
  unfold u_lay at hlay
  rw [if_pos hfin] at hlay
  have hst := (u_facts hfc hkC (u_lays hts (fun _ h => h) hk) hi).1
  have hcf : m.cls = cf := by
    obtain ⟨_, _, c', _, _, _, -, -, hf', -, -, -, hown2, -⟩ := Cond.laysFinal_spec hlay
    have x1 : c' = cf := by have := hi.symm.trans hf'; simp at this; exact this.1.symm
    rw [g4 k hk, hown] at hown2
    rw [← x1]; exact Option.some.inj (C.2.2.2.1.symm.trans hown2)
  have h6 := u_fits hfc hkC hkind (Or.inr hlay) hi (g2 k hk) hn hfit
  have hi2 : s.fieldFound? r.1 (r.2.1 k).2.1 (r.2.1 k).2.2.1 = some (cf, kf, fi, fd) := by rw [← g4 k hk]; exact hi
  refine W.putFinK C.1 C.2.1 C.2.2.2.1 (e_w hE hW (h2 rfl) rfl args) hi2 hst hcf (C.2.2.2.2.2.2.2.1.trans hini) (by rw [q2]; exact h6) q1 q3 (by rw [hsl]; exact k2_hasslot (q4 k hk)) rfl rfl d fun H1 x1 x2 x3 => ?_
  rw [hsl] at x1 ⊢
  refine kk p e R s m args below meth c C H1 _ cells slots ls (w_set hw (by rw [hf]; exact uk_o) x2 x3 ?_) (fun z hz9 => ?_) hc hs hl
  · exact ⟨_, hq, t_OB.to (V := updV (vp_V fs) k v) ⟨_, x1, q2, q3, t_set q4 hap hk v⟩ (fun j _ => vp_updV_set hl9 v j)⟩
  · rcases List.mem_append.mp hz9 with h | h
    · exact hz z h
    · rw [List.mem_singleton.mp h]; exact r1
theorem v_iald (hE : eOk E) {a n i : Nat} {g : Nat → Int32} (d : decode I.2.1 pc = .ok (.iaload, 1)) (hf : f a = .inl (0, n, .inl g)) (hi : i < n) (hn : i < 2 ^ 31) (kk : V E I mc ms Q (pc + 1) lo (.int (g i) :: st) f t bc bs) : V E I mc ms Q pc lo (.int (nI i) :: .ref a :: st) f t bc bs := by
  intro p e R s m args below meth c C H locs cells slots ls hw hz hc hs hl
  obtain ⟨r1, r2, r3⟩ := w_one hw hf (uk_a (by decide))
  have hin : vp_in (nI i) n := fun h => by
    rcases h with h | h
    · exact nI_pos hn h
    · rw [nI_clamp hn] at h; omega
  refine va_iald C.1 C.2.1 (e_k hE C.2.2.2.2.1) (w_p1 r3) 0 0 rfl (ty_at E (by decide)) hin d ?_
  rw [nI_clamp hn]
  exact kk p e R s m args below meth c C H locs cells slots ls hw hz hc hs hl
theorem v_zald (hE : eOk E) {a n i : Nat} {g : Nat → Int32} (d : decode I.2.1 pc = .ok (.baload, 1)) (hf : f a = .inl (1, n, .inl g)) (hi : i < n) (hn : i < 2 ^ 31) (kk : V E I mc ms Q (pc + 1) lo (.int (g i) :: st) f t bc bs) : V E I mc ms Q pc lo (.int (nI i) :: .ref a :: st) f t bc bs := by
  intro p e R s m args below meth c C H locs cells slots ls hw hz hc hs hl
  obtain ⟨r1, r2, r3⟩ := w_one hw hf (uk_a (by decide))
  have hin : vp_in (nI i) n := fun h => by
    rcases h with h | h
    · exact nI_pos hn h
    · rw [nI_clamp hn] at h; omega
  refine va_zald C.1 C.2.1 (e_k hE C.2.2.2.2.1) (w_p1 r3) 0 1 rfl (ty_at E (by decide)) hin d ?_
  rw [nI_clamp hn]
  exact kk p e R s m args below meth c C H locs cells slots ls hw hz hc hs hl
theorem v_bald (hE : eOk E) {a n i : Nat} {g : Nat → Int32} (d : decode I.2.1 pc = .ok (.baload, 1)) (hf : f a = .inl (2, n, .inl g)) (hi : i < n) (hn : i < 2 ^ 31) (kk : V E I mc ms Q (pc + 1) lo (.int (g i) :: st) f t bc bs) : V E I mc ms Q pc lo (.int (nI i) :: .ref a :: st) f t bc bs := by
  intro p e R s m args below meth c C H locs cells slots ls hw hz hc hs hl
  obtain ⟨r1, r2, r3⟩ := w_one hw hf (uk_a (by decide))
  have hin : vp_in (nI i) n := fun h => by
    rcases h with h | h
    · exact nI_pos hn h
    · rw [nI_clamp hn] at h; omega
  refine va_bald C.1 C.2.1 (e_k hE C.2.2.2.2.1) (w_p1 r3) 0 2 rfl (ty_at E (by decide)) hin d ?_
  rw [nI_clamp hn]
  exact kk p e R s m args below meth c C H locs cells slots ls hw hz hc hs hl
theorem v_lald (hE : eOk E) {a n i : Nat} {g : Nat → Int64} (d : decode I.2.1 pc = .ok (.laload, 1)) (hf : f a = .inl (3, n, .inr (.inl g))) (hi : i < n) (hn : i < 2 ^ 31) (kk : V E I mc ms Q (pc + 1) lo (.long (g i) :: st) f t bc bs) : V E I mc ms Q pc lo (.int (nI i) :: .ref a :: st) f t bc bs := by
  intro p e R s m args below meth c C H locs cells slots ls hw hz hc hs hl
  obtain ⟨r1, r2, r3⟩ := w_one hw hf (uk_a (by decide))
  have hin : vp_in (nI i) n := fun h => by
    rcases h with h | h
    · exact nI_pos hn h
    · rw [nI_clamp hn] at h; omega
  refine va_lald C.1 C.2.1 (e_k hE C.2.2.2.2.1) (w_p1 r3) 0 3 rfl (ty_at E (by decide)) hin d ?_
  rw [nI_clamp hn]
  exact kk p e R s m args below meth c C H locs cells slots ls hw hz hc hs hl
theorem v_aaldE (hE : eOk E) {a n i : Nat} {g : Nat → Option Nat} (d : decode I.2.1 pc = .ok (.aaload, 1)) (hf : f a = .inl (4, n, .inr (.inr (.inr (.inr g))))) (hi : i < n) (hn : i < 2 ^ 31) (kk : V E I mc ms Q (pc + 1) lo (va_rf (g i) :: st) f t bc bs) : V E I mc ms Q pc lo (.int (nI i) :: .ref a :: st) f t bc bs := by
  intro p e R s m args below meth c C H locs cells slots ls hw hz hc hs hl
  obtain ⟨r1, r2, r3⟩ := w_one hw hf (uk_a (by decide))
  have hin : vp_in (nI i) n := fun h => by
    rcases h with h | h
    · exact nI_pos hn h
    · rw [nI_clamp hn] at h; omega
  refine va_aldq (C := RX0) C.1 C.2.1 (e_k hE C.2.2.2.2.1) (w_p1 r3) 0 4 rfl (ty_at E (by decide)) hin d ?_
  rw [nI_clamp hn]
  exact kk p e R s m args below meth c C H locs cells slots ls hw hz hc hs hl
theorem v_aaldS (hE : eOk E) {a n i : Nat} {g : Nat → Option Nat} (d : decode I.2.1 pc = .ok (.aaload, 1)) (hf : f a = .inl (5, n, .inr (.inr (.inr (.inr g))))) (hi : i < n) (hn : i < 2 ^ 31) (kk : V E I mc ms Q (pc + 1) lo (va_rf (g i) :: st) f t bc bs) : V E I mc ms Q pc lo (.int (nI i) :: .ref a :: st) f t bc bs := by
  intro p e R s m args below meth c C H locs cells slots ls hw hz hc hs hl
  obtain ⟨r1, r2, r3⟩ := w_one hw hf (uk_a (by decide))
  have hin : vp_in (nI i) n := fun h => by
    rcases h with h | h
    · exact nI_pos hn h
    · rw [nI_clamp hn] at h; omega
  refine va_aldq (C := RX7) C.1 C.2.1 (e_k hE C.2.2.2.2.1) (w_p1 r3) 0 5 rfl (ty_at E (by decide)) hin d ?_
  rw [nI_clamp hn]
  exact kk p e R s m args below meth c C H locs cells slots ls hw hz hc hs hl
theorem v_iast (hE : eOk E) {a n i : Nat} {g : Nat → Int32} {x : Int32} (d : decode I.2.1 pc = .ok (.iastore, 1)) (hf : f a = .inl (0, n, .inl g)) (hi : i < n) (hn : i < 2 ^ 31) (kk : V E I mc ms Q (pc + 1) lo st (va_up f a (.inl (0, n, .inl (upd g i x)))) t bc bs) : V E I mc ms Q pc lo (.int x :: .int (nI i) :: .ref a :: st) f t bc bs := by
  intro p e R s m args below meth c C H locs cells slots ls hw hz hc hs hl
  obtain ⟨r1, r2, r3⟩ := w_one hw hf (uk_a (by decide))
  have hin : vp_in (nI i) n := fun h => by
    rcases h with h | h
    · exact nI_pos hn h
    · rw [nI_clamp hn] at h; omega
  refine W.iast C.1 C.2.1 r3 (((e_k hE C.2.2.2.2.1).2 0 _ (ty_at E (by decide))).1 n (fun j => .int (g j))) (fun q => by cases q) (by show ¬ (nI i < 0 ∨ (arrV _ _ _).slots.size ≤ _); rw [arrV_size]; exact hin) rfl rfl d fun H1 x1 x2 x3 => ?_
  refine kk p e R s m args below meth c C H1 _ cells slots ls (w_set hw (by rw [hf]; exact uk_a (by decide)) x2 x3 ?_) (fun z hz9 => ?_) hc hs hl
  · show H1[a]? = some (vp_cell _ _)
    rw [x1]
    show some ((vp_cell _ _).setSlot _ _) = _
    rw [vp_cell_i, vp_cell_i, arrV_store, nI_clamp hn]
    congr 2
    funext q
    by_cases hq : q = i
    · subst hq
      simp [updV, upd]
    · simp [updV, upd, hq]
  · rcases List.mem_append.mp hz9 with h | h
    · exact hz z h
    · rw [List.mem_singleton.mp h]; exact r1
theorem v_zast (hE : eOk E) {a n i : Nat} {g : Nat → Int32} {x : Int32} (d : decode I.2.1 pc = .ok (.bastore, 1)) (hf : f a = .inl (1, n, .inl g)) (hi : i < n) (hn : i < 2 ^ 31) (kk : V E I mc ms Q (pc + 1) lo st (va_up f a (.inl (1, n, .inl (upd g i (vp_nar .boolean x))))) t bc bs) : V E I mc ms Q pc lo (.int x :: .int (nI i) :: .ref a :: st) f t bc bs := by
  intro p e R s m args below meth c C H locs cells slots ls hw hz hc hs hl
  obtain ⟨r1, r2, r3⟩ := w_one hw hf (uk_a (by decide))
  have hin : vp_in (nI i) n := fun h => by
    rcases h with h | h
    · exact nI_pos hn h
    · rw [nI_clamp hn] at h; omega
  refine W.zast C.1 C.2.1 r3 (((e_k hE C.2.2.2.2.1).2 1 _ (ty_at E (by decide))).1 n (fun j => .int (g j))) (fun q => by cases q) (by show ¬ (nI i < 0 ∨ (arrV _ _ _).slots.size ≤ _); rw [arrV_size]; exact hin) rfl rfl d fun H1 x1 x2 x3 => ?_
  refine kk p e R s m args below meth c C H1 _ cells slots ls (w_set hw (by rw [hf]; exact uk_a (by decide)) x2 x3 ?_) (fun z hz9 => ?_) hc hs hl
  · show H1[a]? = some (vp_cell _ _)
    rw [x1]
    show some ((vp_cell _ _).setSlot _ _) = _
    rw [vp_cell_i, vp_cell_i, arrV_store, nI_clamp hn]
    congr 2
    funext q
    by_cases hq : q = i
    · subst hq
      simp [updV, upd, vp_nar]
      try rfl
    · simp [updV, upd, hq]
  · rcases List.mem_append.mp hz9 with h | h
    · exact hz z h
    · rw [List.mem_singleton.mp h]; exact r1
theorem v_bast (hE : eOk E) {a n i : Nat} {g : Nat → Int32} {x : Int32} (d : decode I.2.1 pc = .ok (.bastore, 1)) (hf : f a = .inl (2, n, .inl g)) (hi : i < n) (hn : i < 2 ^ 31) (kk : V E I mc ms Q (pc + 1) lo st (va_up f a (.inl (2, n, .inl (upd g i (vp_nar .byte x))))) t bc bs) : V E I mc ms Q pc lo (.int x :: .int (nI i) :: .ref a :: st) f t bc bs := by
  intro p e R s m args below meth c C H locs cells slots ls hw hz hc hs hl
  obtain ⟨r1, r2, r3⟩ := w_one hw hf (uk_a (by decide))
  have hin : vp_in (nI i) n := fun h => by
    rcases h with h | h
    · exact nI_pos hn h
    · rw [nI_clamp hn] at h; omega
  refine W.bast C.1 C.2.1 r3 (((e_k hE C.2.2.2.2.1).2 2 _ (ty_at E (by decide))).1 n (fun j => .int (g j))) (fun q => by cases q) (by show ¬ (nI i < 0 ∨ (arrV _ _ _).slots.size ≤ _); rw [arrV_size]; exact hin) rfl rfl d fun H1 x1 x2 x3 => ?_
  refine kk p e R s m args below meth c C H1 _ cells slots ls (w_set hw (by rw [hf]; exact uk_a (by decide)) x2 x3 ?_) (fun z hz9 => ?_) hc hs hl
  · show H1[a]? = some (vp_cell _ _)
    rw [x1]
    show some ((vp_cell _ _).setSlot _ _) = _
    rw [vp_cell_i, vp_cell_i, arrV_store, nI_clamp hn]
    congr 2
    funext q
    by_cases hq : q = i
    · subst hq
      simp [updV, upd, vp_nar]
      try rfl
    · simp [updV, upd, hq]
  · rcases List.mem_append.mp hz9 with h | h
    · exact hz z h
    · rw [List.mem_singleton.mp h]; exact r1
end HEAP
end
section
theorem acX : ∀ k, k < 4 → Cond.arrayClass (aK k) ∈ lw_tbl := by decide +kernel
/-- entry ix of the pool of that owner is kind ci, which can be made -/
def nLb (own : String) (ix ci : Nat) : Bool := match vwCl[ci]? with
  | some q => decide (Cond.classLink own ix q.1 ∈ lw_tbl) && (decide (Cond.instantiable q.1 q.2.2 ∈ lw_tbl) && decide (Cond.initialized q.1 ∈ lw_tbl))
  | none => false
section MAKE
variable {E : eN} {I : mR} {mc ms : Nat} {Q : aP} {pc : Nat} {lo : List (Option Value)} {st : List Value} {f : aH} {t bc bs : Nat}
theorem v_newI (hE : eOk E) {n : Nat} (d : decode I.2.1 pc = .ok (.newarray .int, 2)) (hn : n < 67108864) (hbc : 1 ≤ bc) (hbs : n ≤ bs) (kk : V E I mc ms Q (pc + 2) lo (.ref t :: st) (va_up f t (.inl (0, n, .inl (fun _ => 0)))) (t + 1) (bc - 1) (bs - n)) : V E I mc ms Q pc lo (.int (nI n) :: st) f t bc bs := by
  intro p e R s m args below meth c C H locs cells slots ls hw hz hc hs hl
  have hW := C.2.2.2.2.1
  have hK := e_k hE hW
  have hR := C.2.2.2.2.2.2.2.2.1
  refine va_newaK C.1 C.2.1 (atype := .int) (e_w hE hW (acX 0 (by decide)) rfl args) rfl d rfl (nI_pos (by omega)) (nI_clamp (by omega)) (by show n * 4 ≤ _; omega) (by rw [hR]; show cells + 1 ≤ mc; omega) (by rw [hR]; show slots + n ≤ ms; omega) hw.1 fun H1 cA x1 x2 x3 x4 x5 => ?_
  have hcA : E.2.1 0 = cA := by
    have h1 : s.vm.findClass ("[" ++ (newarray.typeOf .int).toString) = some (E.2.1 0) := (hK.2 0 _ (ty_at E (by decide))).2
    exact Option.some.inj (h1.symm.trans x5)
  refine kk p e R s m args below meth c C H1 locs (cells + 1) (slots + n) ls (w_push hw x2 x3 ?_) hz (by omega) (by omega) hl
  show H1[t]? = some (vp_cell _ _)
  rw [x1, ← hcA]
  rfl
theorem v_newZ (hE : eOk E) {n : Nat} (d : decode I.2.1 pc = .ok (.newarray .boolean, 2)) (hn : n < 67108864) (hbc : 1 ≤ bc) (hbs : n ≤ bs) (kk : V E I mc ms Q (pc + 2) lo (.ref t :: st) (va_up f t (.inl (1, n, .inl (fun _ => 0)))) (t + 1) (bc - 1) (bs - n)) : V E I mc ms Q pc lo (.int (nI n) :: st) f t bc bs := by
  intro p e R s m args below meth c C H locs cells slots ls hw hz hc hs hl
  have hW := C.2.2.2.2.1
  have hK := e_k hE hW
  have hR := C.2.2.2.2.2.2.2.2.1
  refine va_newaK C.1 C.2.1 (atype := .boolean) (e_w hE hW (acX 1 (by decide)) rfl args) rfl d rfl (nI_pos (by omega)) (nI_clamp (by omega)) (by show n * 1 ≤ _; omega) (by rw [hR]; show cells + 1 ≤ mc; omega) (by rw [hR]; show slots + n ≤ ms; omega) hw.1 fun H1 cA x1 x2 x3 x4 x5 => ?_
  have hcA : E.2.1 1 = cA := by
    have h1 : s.vm.findClass ("[" ++ (newarray.typeOf .boolean).toString) = some (E.2.1 1) := (hK.2 1 _ (ty_at E (by decide))).2
    exact Option.some.inj (h1.symm.trans x5)
  refine kk p e R s m args below meth c C H1 locs (cells + 1) (slots + n) ls (w_push hw x2 x3 ?_) hz (by omega) (by omega) hl
  show H1[t]? = some (vp_cell _ _)
  rw [x1, ← hcA]
  rfl
theorem v_newB (hE : eOk E) {n : Nat} (d : decode I.2.1 pc = .ok (.newarray .byte, 2)) (hn : n < 67108864) (hbc : 1 ≤ bc) (hbs : n ≤ bs) (kk : V E I mc ms Q (pc + 2) lo (.ref t :: st) (va_up f t (.inl (2, n, .inl (fun _ => 0)))) (t + 1) (bc - 1) (bs - n)) : V E I mc ms Q pc lo (.int (nI n) :: st) f t bc bs := by
  intro p e R s m args below meth c C H locs cells slots ls hw hz hc hs hl
  have hW := C.2.2.2.2.1
  have hK := e_k hE hW
  have hR := C.2.2.2.2.2.2.2.2.1
  refine va_newaK C.1 C.2.1 (atype := .byte) (e_w hE hW (acX 2 (by decide)) rfl args) rfl d rfl (nI_pos (by omega)) (nI_clamp (by omega)) (by show n * 1 ≤ _; omega) (by rw [hR]; show cells + 1 ≤ mc; omega) (by rw [hR]; show slots + n ≤ ms; omega) hw.1 fun H1 cA x1 x2 x3 x4 x5 => ?_
  have hcA : E.2.1 2 = cA := by
    have h1 : s.vm.findClass ("[" ++ (newarray.typeOf .byte).toString) = some (E.2.1 2) := (hK.2 2 _ (ty_at E (by decide))).2
    exact Option.some.inj (h1.symm.trans x5)
  refine kk p e R s m args below meth c C H1 locs (cells + 1) (slots + n) ls (w_push hw x2 x3 ?_) hz (by omega) (by omega) hl
  show H1[t]? = some (vp_cell _ _)
  rw [x1, ← hcA]
  rfl
theorem v_newJ (hE : eOk E) {n : Nat} (d : decode I.2.1 pc = .ok (.newarray .long, 2)) (hn : n < 67108864) (hbc : 1 ≤ bc) (hbs : n ≤ bs) (kk : V E I mc ms Q (pc + 2) lo (.ref t :: st) (va_up f t (.inl (3, n, .inr (.inl (fun _ => 0))))) (t + 1) (bc - 1) (bs - n)) : V E I mc ms Q pc lo (.int (nI n) :: st) f t bc bs := by
  intro p e R s m args below meth c C H locs cells slots ls hw hz hc hs hl
  have hW := C.2.2.2.2.1
  have hK := e_k hE hW
  have hR := C.2.2.2.2.2.2.2.2.1
  refine va_newaK C.1 C.2.1 (atype := .long) (e_w hE hW (acX 3 (by decide)) rfl args) rfl d rfl (nI_pos (by omega)) (nI_clamp (by omega)) (by show n * 8 ≤ _; omega) (by rw [hR]; show cells + 1 ≤ mc; omega) (by rw [hR]; show slots + n ≤ ms; omega) hw.1 fun H1 cA x1 x2 x3 x4 x5 => ?_
  have hcA : E.2.1 3 = cA := by
    have h1 : s.vm.findClass ("[" ++ (newarray.typeOf .long).toString) = some (E.2.1 3) := (hK.2 3 _ (ty_at E (by decide))).2
    exact Option.some.inj (h1.symm.trans x5)
  refine kk p e R s m args below meth c C H1 locs (cells + 1) (slots + n) ls (w_push hw x2 x3 ?_) hz (by omega) (by omega) hl
  show H1[t]? = some (vp_cell _ _)
  rw [x1, ← hcA]
  rfl
theorem v_new (hE : eOk E) {ix ci N : Nat} {fs : List Value} (d : decode I.2.1 pc = .ok (.new ix, 3)) (hL : nLb I.1.cls ix ci = true) (hN : (match vwCl[ci]? with | some q => q.2.2 | none => 0) = N) (hfs : ∀ j, j < N → defaultValue (tyF ci j) = vp_V fs j) (hbc : 1 ≤ bc) (hbs : N ≤ bs) (kk : V E I mc ms Q (pc + 3) lo (.ref t :: st) (va_up f t (.inr (ci, fs))) (t + 1) (bc - 1) (bs - N)) : V E I mc ms Q pc lo st f t bc bs := by
  intro p e R s m args below meth c C H locs cells slots ls hw hz hc hs hl
  have hW := C.2.2.2.2.1
  have hK := e_k hE hW
  have hR := C.2.2.2.2.2.2.2.2.1
  unfold nLb at hL
  split at hL
  · rename_i q hq
    simp only [Bool.and_eq_true, decide_eq_true_eq] at hL
    rw [hq] at hN
    dsimp only at hN
    subst hN
    obtain ⟨g1, g2, g3, g4⟩ := clOk ci q hq
    have hts : ∀ w ∈ u_ws q.1 q.2.1 q.2.2, w.before args s = true := fun w h => e_w hE hW (g1 w h).1 (g1 w h).2 args
    have hKn := hK.1 ci _ hq
    refine W.newcK C.1 C.2.1 C.2.2.2.1 (e_w hE hW hL.1 rfl args) (e_w hE hW hL.2.1 rfl args) (e_w hE hW hL.2.2 rfl args) rfl d (by rw [hR]; show cells + 1 ≤ mc; omega) (by rw [hR]; show slots + q.2.2 ≤ ms; omega) hKn.2.1 hw.1 fun H1 kC hkC x1 x2 x3 => ?_
    refine kk p e R s m args below meth c C H1 locs (cells + 1) (slots + q.2.2) ls (w_push hw x2 x3 ?_) hz (by omega) (by omega) hl
    exact ⟨_, hq, (u_born (tyF ci) hts (fun _ h => h) hKn hkC x1 g2).to hfs⟩
  · cases hL
theorem aoXE : Cond.arrayOver (.object RX0) ∈ lw_tbl := by decide +kernel
theorem v_anewE (hE : eOk E) {ix n : Nat} (d : decode I.2.1 pc = .ok (.anewarray ix, 3)) (hL : Cond.classLink I.1.cls ix RX0 ∈ lw_tbl) (hn : n < 67108864) (hbc : 1 ≤ bc) (hbs : n ≤ bs) (kk : V E I mc ms Q (pc + 3) lo (.ref t :: st) (va_up f t (.inl (4, n, .inr (.inr (.inr (.inr (fun _ => none))))))) (t + 1) (bc - 1) (bs - n)) : V E I mc ms Q pc lo (.int (nI n) :: st) f t bc bs := by
  intro p e R s m args below meth c C H locs cells slots ls hw hz hc hs hl
  have hW := C.2.2.2.2.1
  have hK := e_k hE hW
  have hR := C.2.2.2.2.2.2.2.2.1
  have hao : va_AO RX0 s := by
    obtain ⟨-, a0, hh⟩ := id hE
    exact va_AO.moved hW.alike (va_AO.of (hh _ aoXE))
  have hc31 : n < 2 ^ 31 := by omega
  refine W.anew C.1 C.2.1 C.2.2.2.1 (e_w hE hW hL rfl args) (va_AO.use hao) rfl d rfl (nI_pos hc31) (by rw [nI_clamp hc31]; omega) (by rw [hR]; show cells + 1 ≤ mc; omega) (by rw [nI_clamp hc31, hR]; show slots + n ≤ ms; omega) fun cA kA comp f1 f2 f3 f4 => ?_
  rw [nI_clamp hc31, hw.1]
  have hcA : E.2.1 4 = cA := by
    obtain ⟨kA2, comp2, k1, k2, k3, k4⟩ := (hK.2 4 _ (ty_at E (by decide))).2
    exact Option.some.inj (k4.symm.trans f1)
  generalize hH1 : H.push ({ cls := cA, slots := Array.replicate n .null, vm := .none } : Cell) = H1
  have z1 : H1.size = t + 1 := by rw [← hH1, Array.size_push, hw.1]
  have e1 : H1[t]? = some (arrV cA n (fun _ => .null)) := by rw [← hH1, ← hw.1, Array.getElem?_push_size, ← arrV_new]
  have o1 : ∀ q : Nat, q < t → H1[q]? = H[q]? := fun q hq => by rw [← hH1, Array.getElem?_push, if_neg (by rw [hw.1]; omega)]
  refine kk p e R s m args below meth c C H1 locs (cells + 1) (slots + n) ls (w_push hw z1 o1 ?_) hz (by omega) (by omega) hl
  show H1[t]? = some (vp_cell _ _)
  rw [e1, ← hcA]
  rfl
theorem v_aastE (hE : eOk E) {a v n i : Nat} {g : Nat → Option Nat} {vs : List Value} (d : decode I.2.1 pc = .ok (.aastore, 1)) (hf : f a = .inl (4, n, .inr (.inr (.inr (.inr g))))) (hv : f v = .inr (0, vs)) (hi : i < n) (hn : i < 2 ^ 31) (kk : V E I mc ms Q (pc + 1) lo st (va_up f a (.inl (4, n, .inr (.inr (.inr (.inr (va_up g i (some v)))))))) t bc bs) : V E I mc ms Q pc lo (.ref v :: .int (nI i) :: .ref a :: st) f t bc bs := by
  intro p e R s m args below meth c C H locs cells slots ls hw hz hc hs hl
  have hW := C.2.2.2.2.1
  have hK := e_k hE hW
  obtain ⟨r1, r2, r3⟩ := w_one hw hf (uk_a (by decide))
  obtain ⟨-, -, r', hr', cellV, g1, g2, g3, -⟩ := w_one hw hv uk_o
  have hcls := (hK.1 0 _ rfl).2
  obtain ⟨kA, comp, k1, k2, k3, -⟩ := (hK.2 4 _ (ty_at E (by decide))).2
  have hcomp : comp = E.1.1 0 := Option.some.inj (k3.symm.trans hcls.1)
  subst hcomp
  obtain ⟨kC, hkC, -⟩ := hcls.2
  refine W.aast C.1 C.2.1 r3 (fun q h => by cases h) (fun h => by cases h) k1 k2 rfl hkC ⟨nI_pos hn, by show _ < (arrV _ _ _).slots.size; rw [arrV_size, nI_clamp hn]; exact hi⟩ g1 (fun q h => by rw [g3] at h; cases h) (by rw [g2]; exact hkC) (by rw [g2]; exact va_assign hcls) rfl rfl d fun H1 x1 x2 x3 => ?_
  refine kk p e R s m args below meth c C H1 _ cells slots ls (w_set hw (by rw [hf]; exact uk_a (by decide)) x2 x3 ?_) (fun z hz9 => ?_) hc hs hl
  · show H1[a]? = some (vp_cell _ _)
    rw [x1]
    show some ((vp_cell _ _).setSlot _ _) = _
    rw [vp_cell_q, vp_cell_q, arrV_store, nI_clamp hn]
    congr 2
    funext q
    by_cases hq : q = i
    · subst hq
      simp [updV, va_up, va_rf]
    · simp [updV, va_up, hq]
  · rcases List.mem_append.mp hz9 with h | h
    · exact hz z h
    · rw [List.mem_singleton.mp h]; exact r1
theorem aoXS : Cond.arrayOver (.object RX7) ∈ lw_tbl := by decide +kernel
theorem v_anewS (hE : eOk E) {ix n : Nat} (d : decode I.2.1 pc = .ok (.anewarray ix, 3)) (hL : Cond.classLink I.1.cls ix RX7 ∈ lw_tbl) (hn : n < 67108864) (hbc : 1 ≤ bc) (hbs : n ≤ bs) (kk : V E I mc ms Q (pc + 3) lo (.ref t :: st) (va_up f t (.inl (5, n, .inr (.inr (.inr (.inr (fun _ => none))))))) (t + 1) (bc - 1) (bs - n)) : V E I mc ms Q pc lo (.int (nI n) :: st) f t bc bs := by
  intro p e R s m args below meth c C H locs cells slots ls hw hz hc hs hl
  have hW := C.2.2.2.2.1
  have hK := e_k hE hW
  have hR := C.2.2.2.2.2.2.2.2.1
  have hao : va_AO RX7 s := by
    obtain ⟨-, a0, hh⟩ := id hE
    exact va_AO.moved hW.alike (va_AO.of (hh _ aoXS))
  have hc31 : n < 2 ^ 31 := by omega
  refine W.anew C.1 C.2.1 C.2.2.2.1 (e_w hE hW hL rfl args) (va_AO.use hao) rfl d rfl (nI_pos hc31) (by rw [nI_clamp hc31]; omega) (by rw [hR]; show cells + 1 ≤ mc; omega) (by rw [nI_clamp hc31, hR]; show slots + n ≤ ms; omega) fun cA kA comp f1 f2 f3 f4 => ?_
  rw [nI_clamp hc31, hw.1]
  have hcA : E.2.1 5 = cA := by
    obtain ⟨kA2, comp2, k1, k2, k3, k4⟩ := (hK.2 5 _ (ty_at E (by decide))).2
    exact Option.some.inj (k4.symm.trans f1)
  generalize hH1 : H.push ({ cls := cA, slots := Array.replicate n .null, vm := .none } : Cell) = H1
  have z1 : H1.size = t + 1 := by rw [← hH1, Array.size_push, hw.1]
  have e1 : H1[t]? = some (arrV cA n (fun _ => .null)) := by rw [← hH1, ← hw.1, Array.getElem?_push_size, ← arrV_new]
  have o1 : ∀ q : Nat, q < t → H1[q]? = H[q]? := fun q hq => by rw [← hH1, Array.getElem?_push, if_neg (by rw [hw.1]; omega)]
  refine kk p e R s m args below meth c C H1 locs (cells + 1) (slots + n) ls (w_push hw z1 o1 ?_) hz (by omega) (by omega) hl
  show H1[t]? = some (vp_cell _ _)
  rw [e1, ← hcA]
  rfl
theorem v_aastS (hE : eOk E) {a v n i : Nat} {g : Nat → Option Nat} {vs : List Value} (d : decode I.2.1 pc = .ok (.aastore, 1)) (hf : f a = .inl (5, n, .inr (.inr (.inr (.inr g))))) (hv : f v = .inr (7, vs)) (hi : i < n) (hn : i < 2 ^ 31) (kk : V E I mc ms Q (pc + 1) lo st (va_up f a (.inl (5, n, .inr (.inr (.inr (.inr (va_up g i (some v)))))))) t bc bs) : V E I mc ms Q pc lo (.ref v :: .int (nI i) :: .ref a :: st) f t bc bs := by
  intro p e R s m args below meth c C H locs cells slots ls hw hz hc hs hl
  have hW := C.2.2.2.2.1
  have hK := e_k hE hW
  obtain ⟨r1, r2, r3⟩ := w_one hw hf (uk_a (by decide))
  obtain ⟨-, -, r', hr', cellV, g1, g2, g3, -⟩ := w_one hw hv uk_o
  have hcls := (hK.1 7 _ rfl).2
  obtain ⟨kA, comp, k1, k2, k3, -⟩ := (hK.2 5 _ (ty_at E (by decide))).2
  have hcomp : comp = E.1.1 7 := Option.some.inj (k3.symm.trans hcls.1)
  subst hcomp
  obtain ⟨kC, hkC, -⟩ := hcls.2
  refine W.aast C.1 C.2.1 r3 (fun q h => by cases h) (fun h => by cases h) k1 k2 rfl hkC ⟨nI_pos hn, by show _ < (arrV _ _ _).slots.size; rw [arrV_size, nI_clamp hn]; exact hi⟩ g1 (fun q h => by rw [g3] at h; cases h) (by rw [g2]; exact hkC) (by rw [g2]; exact va_assign hcls) rfl rfl d fun H1 x1 x2 x3 => ?_
  refine kk p e R s m args below meth c C H1 _ cells slots ls (w_set hw (by rw [hf]; exact uk_a (by decide)) x2 x3 ?_) (fun z hz9 => ?_) hc hs hl
  · show H1[a]? = some (vp_cell _ _)
    rw [x1]
    show some ((vp_cell _ _).setSlot _ _) = _
    rw [vp_cell_q, vp_cell_q, arrV_store, nI_clamp hn]
    congr 2
    funext q
    by_cases hq : q = i
    · subst hq
      simp [updV, va_up, va_rf]
    · simp [updV, va_up, hq]
  · rcases List.mem_append.mp hz9 with h | h
    · exact hz z h
    · rw [List.mem_singleton.mp h]; exact r1
theorem v_last (hE : eOk E) {a n i : Nat} {g : Nat → Int64} {x : Int64} (d : decode I.2.1 pc = .ok (.lastore, 1)) (hf : f a = .inl (3, n, .inr (.inl g))) (hi : i < n) (hn : i < 2 ^ 31) (kk : V E I mc ms Q (pc + 1) lo st (va_up f a (.inl (3, n, .inr (.inl (vp_updL g i x))))) t bc bs) : V E I mc ms Q pc lo (.long x :: .int (nI i) :: .ref a :: st) f t bc bs := by
  intro p e R s m args below meth c C H locs cells slots ls hw hz hc hs hl
  obtain ⟨r1, r2, r3⟩ := w_one hw hf (uk_a (by decide))
  have hin : vp_in (nI i) n := fun h => by
    rcases h with h | h
    · exact nI_pos hn h
    · rw [nI_clamp hn] at h; omega
  refine W.last C.1 C.2.1 r3 (((e_k hE C.2.2.2.2.1).2 3 _ (ty_at E (by decide))).1 n (fun j => .long (g j))) (fun q => by cases q) (by show ¬ (nI i < 0 ∨ (arrV _ _ _).slots.size ≤ _); rw [arrV_size]; exact hin) rfl rfl d fun H1 x1 x2 x3 => ?_
  refine kk p e R s m args below meth c C H1 _ cells slots ls (w_set hw (by rw [hf]; exact uk_a (by decide)) x2 x3 ?_) (fun z hz9 => ?_) hc hs hl
  · show H1[a]? = some (vp_cell _ _)
    rw [x1]
    show some ((vp_cell _ _).setSlot _ _) = _
    rw [vp_cell_l, vp_cell_l, arrV_store, nI_clamp hn]
    congr 2
    funext q
    by_cases hq : q = i
    · subst hq
      simp [updV, vp_updL]
    · simp [updV, vp_updL, hq]
  · rcases List.mem_append.mp hz9 with h | h
    · exact hz z h
    · rw [List.mem_singleton.mp h]; exact r1
theorem v_alen (hE : eOk E) {a k : Nat} {x : vp_A} (d : decode I.2.1 pc = .ok (.arraylength, 1)) (hk : k < 6) (hf : f a = .inl (k, x)) (kk : V E I mc ms Q (pc + 1) lo (.int (nI x.1) :: st) f t bc bs) : V E I mc ms Q pc lo (.ref a :: st) f t bc bs := by
  intro p e R s m args below meth c C H locs cells slots ls hw hz hc hs hl
  obtain ⟨r1, r2, r3⟩ := w_one hw hf (uk_a hk)
  exact va_alen C.1 C.2.1 (e_k hE C.2.2.2.2.1) (w_p1 r3) 0 k rfl (ty_at E hk) rfl d (kk p e R s m args below meth c C H locs cells slots ls hw hz hc hs hl)
theorem v_lcmp {x y : Int64} (d : decode I.2.1 pc = .ok (.lcmp, 1)) (k : V E I mc ms Q (pc + 1) lo (.int (lg_cmp x y) :: st) f t bc bs) : V E I mc ms Q pc lo (.long y :: .long x :: st) f t bc bs := by
  intro p e R s m args below meth c C H locs cells slots ls hw hz hc hs hl
  exact W.lcmp C.1 C.2.1 d (k p e R s m args below meth c C H locs cells slots ls hw hz hc hs hl)
theorem v_ldc (hE : eOk E) {ix : Nat} {v : Int32} (d : decode I.2.1 pc = .ok (.ldc ix, 2)) (hL : Cond.constant I.1.cls ix v ∈ lw_tbl) (k : V E I mc ms Q (pc + 2) lo (.int v :: st) f t bc bs) : V E I mc ms Q pc lo st f t bc bs := by
  intro p e R s m args below meth c C H locs cells slots ls hw hz hc hs hl
  exact lv_ldc C.1 C.2.1 C.2.2.2.1 (e_w hE C.2.2.2.2.1 hL rfl args) d (k p e R s m args below meth c C H locs cells slots ls hw hz hc hs hl)
theorem v_ldc2 (hE : eOk E) {ix : Nat} {v : Int64} (d : decode I.2.1 pc = .ok (.ldc2_w ix, 3)) (hL : Cond.constantLong I.1.cls ix v ∈ lw_tbl) (k : V E I mc ms Q (pc + 3) lo (.long v :: st) f t bc bs) : V E I mc ms Q pc lo st f t bc bs := by
  intro p e R s m args below meth c C H locs cells slots ls hw hz hc hs hl
  exact lv_ldc2 C.1 C.2.1 C.2.2.2.1 (e_w hE C.2.2.2.2.1 hL rfl args) d (k p e R s m args below meth c C H locs cells slots ls hw hz hc hs hl)
theorem oiX : Cond.instanceMethod Lib.objectInit ∈ lw_tbl ∧ Cond.code Lib.objectInit ⟨#[0xb1]⟩ 1 none ∈ lw_tbl := by decide +kernel
theorem v_oinit (hE : eOk E) {ix a : Nat} (d : decode I.2.1 pc = .ok (.invokespecial ix, 3)) (hL : Cond.methodLink I.1.cls ix Lib.objectInit ∈ lw_tbl) (hfr : 1 ≤ I.2.2.2.2.1) (hlo : (st.map fun v => v.category).sum + 12 ≤ I.2.2.2.2.2) (k : V E I mc ms Q (pc + 3) lo st f t bc bs) : V E I mc ms Q pc lo (.ref a :: st) f t bc bs := by
  intro p e R s m args below meth c C H locs cells slots ls hw hz hc hs hl
  have hW := C.2.2.2.2.1
  have hR := C.2.2.2.2.2.2.2.2.1
  exact W.objInit C.1 C.2.1 C.2.2.2.1 (e_w hE hW hL rfl args) (e_w hE hW oiX.1 rfl args) (e_w hE hW oiX.2 rfl args) rfl (by rw [C.2.2.1]; exact hl.1) rfl d (by rw [hR]; exact hfr) (by rw [hR]; show 2 * 0 + _ + 12 ≤ I.2.2.2.2.2; omega) (k p e R s m args below meth c C H locs cells slots ls hw hz hc hs hl)
theorem mmX : (Cond.static Lib.Math.max.name ∈ lw_tbl ∧ Cond.code Lib.Math.max.name Lib.Math.max.code 2 (some .int) ∈ lw_tbl) ∧ (Cond.static Lib.Math.min.name ∈ lw_tbl ∧ Cond.code Lib.Math.min.name Lib.Math.min.code 2 (some .int) ∈ lw_tbl) ∧ Cond.initialized "java/lang/Math" ∈ lw_tbl := by decide +kernel
theorem v_max (hE : eOk E) {ix : Nat} {x y : Int32} (d : decode I.2.1 pc = .ok (.invokestatic ix, 3)) (hL : Cond.methodLink I.1.cls ix Lib.Math.max.name ∈ lw_tbl) (hfr : 1 ≤ I.2.2.2.2.1) (hlo : (st.map fun v => v.category).sum + 13 ≤ I.2.2.2.2.2) (k : V E I mc ms Q (pc + 3) lo (.int (if x < y then y else x) :: st) f t bc bs) : V E I mc ms Q pc lo (.int y :: .int x :: st) f t bc bs := by
  intro p e R s m args below meth c C H locs cells slots ls hw hz hc hs hl
  have hW := C.2.2.2.2.1
  have hR := C.2.2.2.2.2.2.2.2.1
  exact va_mmax C.1 C.2.1 (C.2.2.1.trans hl.1.symm) C.2.2.2.1 (e_w hE hW hL rfl args) (e_w hE hW mmX.1.1 rfl args) (e_w hE hW mmX.2.2 rfl args) (e_w hE hW mmX.1.2 rfl args) (by rw [hR]; exact hfr) (by rw [hR]; exact hlo) (by rw [hR]; show cells ≤ mc; omega) (by rw [hR]; show slots ≤ ms; omega) d (k p e R s m args below meth c C H locs cells slots ls hw hz hc hs hl)
theorem v_min (hE : eOk E) {ix : Nat} {x y : Int32} (d : decode I.2.1 pc = .ok (.invokestatic ix, 3)) (hL : Cond.methodLink I.1.cls ix Lib.Math.min.name ∈ lw_tbl) (hfr : 1 ≤ I.2.2.2.2.1) (hlo : (st.map fun v => v.category).sum + 13 ≤ I.2.2.2.2.2) (k : V E I mc ms Q (pc + 3) lo (.int (if y < x then y else x) :: st) f t bc bs) : V E I mc ms Q pc lo (.int y :: .int x :: st) f t bc bs := by
  intro p e R s m args below meth c C H locs cells slots ls hw hz hc hs hl
  have hW := C.2.2.2.2.1
  have hR := C.2.2.2.2.2.2.2.2.1
  exact va_mmin C.1 C.2.1 (C.2.2.1.trans hl.1.symm) C.2.2.2.1 (e_w hE hW hL rfl args) (e_w hE hW mmX.2.1.1 rfl args) (e_w hE hW mmX.2.2 rfl args) (e_w hE hW mmX.2.1.2 rfl args) (by rw [hR]; exact hfr) (by rw [hR]; exact hlo) (by rw [hR]; show cells ≤ mc; omega) (by rw [hR]; show slots ≤ ms; omega) d (k p e R s m args below meth c C H locs cells slots ls hw hz hc hs hl)
/-! numbers from 0 on -/
theorem v_iaddN {x y : Nat} (d : decode I.2.1 pc = .ok (.iadd, 1)) (k : V E I mc ms Q (pc + 1) lo (.int (nI (x + y)) :: st) f t bc bs) : V E I mc ms Q pc lo (.int (nI y) :: .int (nI x) :: st) f t bc bs := v_iadd d (by rw [nI_add]; exact k)
theorem v_isubN {x y : Nat} (d : decode I.2.1 pc = .ok (.isub, 1)) (h : y ≤ x) (k : V E I mc ms Q (pc + 1) lo (.int (nI (x - y)) :: st) f t bc bs) : V E I mc ms Q pc lo (.int (nI y) :: .int (nI x) :: st) f t bc bs := v_isub d (by rw [pk_sub h]; exact k)
theorem v_imulN {x y : Nat} (d : decode I.2.1 pc = .ok (.imul, 1)) (k : V E I mc ms Q (pc + 1) lo (.int (nI (x * y)) :: st) f t bc bs) : V E I mc ms Q pc lo (.int (nI y) :: .int (nI x) :: st) f t bc bs := v_imul d (by rw [pk_mul]; exact k)
theorem v_idivN {x y : Nat} (d : decode I.2.1 pc = .ok (.idiv, 1)) (hx : x < 2 ^ 31) (h0 : 0 < y) (hy : y < 2 ^ 31) (k : V E I mc ms Q (pc + 1) lo (.int (nI (x / y)) :: st) f t bc bs) : V E I mc ms Q pc lo (.int (nI y) :: .int (nI x) :: st) f t bc bs := v_idiv d (nI_ne0 h0 hy) (by rw [pk_div hx h0 hy]; exact k)
theorem v_iremN {x y : Nat} (d : decode I.2.1 pc = .ok (.irem, 1)) (hx : x < 2 ^ 31) (h0 : 0 < y) (hy : y < 2 ^ 31) (k : V E I mc ms Q (pc + 1) lo (.int (nI (x % y)) :: st) f t bc bs) : V E I mc ms Q pc lo (.int (nI y) :: .int (nI x) :: st) f t bc bs := v_irem d (nI_ne0 h0 hy) (by rw [pk_rem hx h0 hy]; exact k)
theorem v_iincN {i x y : Nat} {n : Int} (d : decode I.2.1 pc = .ok (.iinc i n, 3)) (hx : lo[i]? = some (some (.int (nI x)))) (hy : Int32.ofInt n = nI y) (hn : i < I.2.2.1) (k : V E I mc ms Q (pc + 3) (l_st1 lo i (.int (nI (x + y)))) st f t bc bs) : V E I mc ms Q pc lo st f t bc bs := v_iinc d hx (by rw [hy, nI_add]) hn k
theorem v_icmp_eqN {x y : Nat} {off : Int} {tgt : Nat} (d : decode I.2.1 pc = .ok (.if_icmp .eq off, 3)) (ht : (pc : Int) + off = (tgt : Int)) (hx : x < 2 ^ 31) (hy : y < 2 ^ 31) (kt : x = y → V E I mc ms Q tgt lo st f t bc bs) (kf : x ≠ y → V E I mc ms Q (pc + 3) lo st f t bc bs) : V E I mc ms Q pc lo (.int (nI y) :: .int (nI x) :: st) f t bc bs :=
  v_icmp_eq d ht (fun q => kt ((nI_eq hx hy).mp q)) (fun q => kf (fun z => q ((nI_eq hx hy).mpr z)))
theorem v_icmp_neN {x y : Nat} {off : Int} {tgt : Nat} (d : decode I.2.1 pc = .ok (.if_icmp .ne off, 3)) (ht : (pc : Int) + off = (tgt : Int)) (hx : x < 2 ^ 31) (hy : y < 2 ^ 31) (kt : x ≠ y → V E I mc ms Q tgt lo st f t bc bs) (kf : x = y → V E I mc ms Q (pc + 3) lo st f t bc bs) : V E I mc ms Q pc lo (.int (nI y) :: .int (nI x) :: st) f t bc bs :=
  v_icmp_ne d ht (fun q => kt (fun z => q ((nI_eq hx hy).mpr z))) (fun q => kf ((nI_eq hx hy).mp q))
theorem v_icmp_ltN {x y : Nat} {off : Int} {tgt : Nat} (d : decode I.2.1 pc = .ok (.if_icmp .lt off, 3)) (ht : (pc : Int) + off = (tgt : Int)) (hx : x < 2 ^ 31) (hy : y < 2 ^ 31) (kt : x < y → V E I mc ms Q tgt lo st f t bc bs) (kf : y ≤ x → V E I mc ms Q (pc + 3) lo st f t bc bs) : V E I mc ms Q pc lo (.int (nI y) :: .int (nI x) :: st) f t bc bs :=
  v_icmp_lt d ht (fun q => kt ((nI_ltI hx hy).mp q)) (fun q => kf (Nat.not_lt.mp (fun z => q ((nI_ltI hx hy).mpr z))))
theorem v_icmp_geN {x y : Nat} {off : Int} {tgt : Nat} (d : decode I.2.1 pc = .ok (.if_icmp .ge off, 3)) (ht : (pc : Int) + off = (tgt : Int)) (hx : x < 2 ^ 31) (hy : y < 2 ^ 31) (kt : y ≤ x → V E I mc ms Q tgt lo st f t bc bs) (kf : x < y → V E I mc ms Q (pc + 3) lo st f t bc bs) : V E I mc ms Q pc lo (.int (nI y) :: .int (nI x) :: st) f t bc bs :=
  v_icmp_ge d ht (fun q => kt ((nI_leI hy hx).mp q)) (fun q => kf (Nat.not_le.mp (fun z => q ((nI_leI hy hx).mpr z))))
theorem v_icmp_gtN {x y : Nat} {off : Int} {tgt : Nat} (d : decode I.2.1 pc = .ok (.if_icmp .gt off, 3)) (ht : (pc : Int) + off = (tgt : Int)) (hx : x < 2 ^ 31) (hy : y < 2 ^ 31) (kt : y < x → V E I mc ms Q tgt lo st f t bc bs) (kf : x ≤ y → V E I mc ms Q (pc + 3) lo st f t bc bs) : V E I mc ms Q pc lo (.int (nI y) :: .int (nI x) :: st) f t bc bs :=
  v_icmp_gt d ht (fun q => kt ((nI_ltI hy hx).mp q)) (fun q => kf (Nat.not_lt.mp (fun z => q ((nI_ltI hy hx).mpr z))))
theorem v_icmp_leN {x y : Nat} {off : Int} {tgt : Nat} (d : decode I.2.1 pc = .ok (.if_icmp .le off, 3)) (ht : (pc : Int) + off = (tgt : Int)) (hx : x < 2 ^ 31) (hy : y < 2 ^ 31) (kt : x ≤ y → V E I mc ms Q tgt lo st f t bc bs) (kf : y < x → V E I mc ms Q (pc + 3) lo st f t bc bs) : V E I mc ms Q pc lo (.int (nI y) :: .int (nI x) :: st) f t bc bs :=
  v_icmp_le d ht (fun q => kt ((nI_leI hx hy).mp q)) (fun q => kf (Nat.not_le.mp (fun z => q ((nI_leI hx hy).mpr z))))
theorem v_if_eqN {x : Nat} {off : Int} {tgt : Nat} (d : decode I.2.1 pc = .ok (.ifCond .eq off, 3)) (ht : (pc : Int) + off = (tgt : Int)) (hx : x < 2 ^ 31) (kt : x = 0 → V E I mc ms Q tgt lo st f t bc bs) (kf : x ≠ 0 → V E I mc ms Q (pc + 3) lo st f t bc bs) : V E I mc ms Q pc lo (.int (nI x) :: st) f t bc bs :=
  v_if_eq (x := nI x) d ht (fun q => kt ((nI_eq hx (by decide)).mp q)) (fun q => kf (fun z => q ((nI_eq hx (by decide)).mpr z)))
theorem v_if_neN {x : Nat} {off : Int} {tgt : Nat} (d : decode I.2.1 pc = .ok (.ifCond .ne off, 3)) (ht : (pc : Int) + off = (tgt : Int)) (hx : x < 2 ^ 31) (kt : x ≠ 0 → V E I mc ms Q tgt lo st f t bc bs) (kf : x = 0 → V E I mc ms Q (pc + 3) lo st f t bc bs) : V E I mc ms Q pc lo (.int (nI x) :: st) f t bc bs :=
  v_if_ne (x := nI x) d ht (fun q => kt (fun z => q ((nI_eq hx (by decide)).mpr z))) (fun q => kf ((nI_eq hx (by decide)).mp q))
theorem v_if_gtN {x : Nat} {off : Int} {tgt : Nat} (d : decode I.2.1 pc = .ok (.ifCond .gt off, 3)) (ht : (pc : Int) + off = (tgt : Int)) (hx : x < 2 ^ 31) (kt : 0 < x → V E I mc ms Q tgt lo st f t bc bs) (kf : x = 0 → V E I mc ms Q (pc + 3) lo st f t bc bs) : V E I mc ms Q pc lo (.int (nI x) :: st) f t bc bs :=
  v_if_gt (x := nI x) d ht (fun q => kt ((nI_ltI (by decide) hx).mp q)) (fun q => kf (Nat.le_zero.mp (Nat.not_lt.mp (fun z => q ((nI_ltI (by decide) hx).mpr z)))))
theorem v_if_leN {x : Nat} {off : Int} {tgt : Nat} (d : decode I.2.1 pc = .ok (.ifCond .le off, 3)) (ht : (pc : Int) + off = (tgt : Int)) (hx : x < 2 ^ 31) (kt : x = 0 → V E I mc ms Q tgt lo st f t bc bs) (kf : 0 < x → V E I mc ms Q (pc + 3) lo st f t bc bs) : V E I mc ms Q pc lo (.int (nI x) :: st) f t bc bs :=
  v_if_le (x := nI x) d ht (fun q => kt (Nat.le_zero.mp ((nI_leI hx (by decide)).mp q))) (fun q => kf (Nat.not_le.mp (fun z => q ((nI_leI hx (by decide)).mpr z))))
end MAKE
end
section
/-- entry ix of the pool of that owner is the method I2, of n arguments (kd 0: by its receiver, 1: without one, 2: a making); w: as a mate's -/
def mLb (own : String) (ix : Nat) (I2 : mR) (n kd : Nat) (w : Bool) : Bool :=
  (if w then decide (Cond.methodLinkNest own ix I2.1 RX9 ∈ lw_tbl) else decide (Cond.methodLink own ix I2.1 ∈ lw_tbl)) && (decide (Cond.code I2.1 I2.2.1 I2.2.2.1 I2.2.2.2.1 ∈ lw_tbl) && (decide (Cond.initialized I2.1.cls ∈ lw_tbl) && (decide (I2.1.cls ≠ "java/lang/invoke/MethodHandle" ∧ I2.1.cls ≠ "java/lang/invoke/VarHandle") && (decide ((parseMethodDescriptor I2.1.desc).map (fun d => d.parameters.length) = some n) &&
  (match kd with
  | 0 => decide (Cond.instanceMethod I2.1 ∈ lw_tbl) && decide (Cond.selects I2.1.cls I2.1 I2.1 ∈ lw_tbl)
  | 1 => decide (Cond.static I2.1 ∈ lw_tbl)
  | _ => decide (I2.1.name = "<init>") && decide (Cond.instanceMethod I2.1 ∈ lw_tbl))))))
theorem mLb_spec {own : String} {ix : Nat} {I2 : mR} {n kd : Nat} {w : Bool} (h : mLb own ix I2 n kd w = true) :
    (w = true → Cond.methodLinkNest own ix I2.1 RX9 ∈ lw_tbl) ∧ (w = false → Cond.methodLink own ix I2.1 ∈ lw_tbl) ∧ Cond.code I2.1 I2.2.1 I2.2.2.1 I2.2.2.2.1 ∈ lw_tbl ∧ Cond.initialized I2.1.cls ∈ lw_tbl ∧ (I2.1.cls ≠ "java/lang/invoke/MethodHandle" ∧ I2.1.cls ≠ "java/lang/invoke/VarHandle") ∧ (∀ sig, parseMethodDescriptor I2.1.desc = some sig → n = sig.parameters.length) ∧
    (kd = 0 → Cond.instanceMethod I2.1 ∈ lw_tbl ∧ Cond.selects I2.1.cls I2.1 I2.1 ∈ lw_tbl) ∧ (kd = 1 → Cond.static I2.1 ∈ lw_tbl) ∧ (kd = 2 → I2.1.name = "<init>" ∧ Cond.instanceMethod I2.1 ∈ lw_tbl) := by
  unfold mLb at h
  simp only [Bool.and_eq_true] at h
  obtain ⟨h1, h2, h3, h4, h5, h6⟩ := h
  refine ⟨fun e => ?_, fun e => ?_, of_decide_eq_true h2, of_decide_eq_true h3, of_decide_eq_true h4, fun sig hs => ?_, fun e => ?_, fun e => ?_, fun e => ?_⟩
  · rw [e] at h1; exact of_decide_eq_true h1
  · rw [e] at h1; exact of_decide_eq_true h1
  · have h7 := of_decide_eq_true h5
    rw [hs] at h7
    exact (Option.some.inj h7).symm
  · rw [e] at h6
    simp only [Bool.and_eq_true, decide_eq_true_eq] at h6
    exact h6
  · rw [e] at h6
    exact of_decide_eq_true h6
  · rw [e] at h6
    simp only [Bool.and_eq_true, decide_eq_true_eq] at h6
    exact h6
theorem mT_met {E : eN} {I : mR} {mc ms t : Nat} {As : List Value} {f : aH} {Q : aP} (h : mT E I mc ms As f t Q) (hx : ∀ n g u, ¬ Q (.inr n) g u) :
    Met E.2.2.2 I.1 [Cond.code I.1 I.2.1 I.2.2.1 I.2.2.2.1] ({ frames := I.2.2.2.2.1, cells := mc, slots := ms, locals := I.2.2.2.2.2 } : Room) (fun v U => v = As.toArray ∧ (S0 E).WarmedH U.vm ∧ wH E f t U.heap) (aQ E Q) mc ms (fun q => b0 E ≤ q) := by
  intro p e h1 h2 h3 s m args below h4 h5 h6 h7
  obtain ⟨n, o, a1, a2, a3, a4⟩ := h p e h1 h2 h3 s m args below h4 h5 h6 h7
  refine ⟨n, o, a1, a2, a3, ?_⟩
  rcases a4 with a4 | ⟨q, -, x, ce, L, ⟨g, u, hq, -⟩, -⟩
  · exact a4
  · exact absurd hq (hx x g u)
theorem mT_post {E : eN} {I : mR} {mc ms t : Nat} {As : List Value} {f : aH} {Q Q2 : aP} (h : mT E I mc ms As f t Q2) (hq : ∀ o g u, Q2 o g u → Q o g u) : mT E I mc ms As f t Q := by
  intro p e h1 h2 h3 s m args below h4 h5 h6 h7
  obtain ⟨n, o, a1, a2, a3, a4⟩ := h p e h1 h2 h3 s m args below h4 h5 h6 h7
  refine ⟨n, o, a1, a2, a3, ?_⟩
  rcases a4 with ⟨⟨v, g, u, x1, x2, x3⟩, x4⟩ | ⟨q, x1, x, ce, L, ⟨g, u, x2, x3⟩, x4⟩
  · exact Or.inl ⟨⟨v, g, u, x1, hq _ _ _ x2, x3⟩, x4⟩
  · exact Or.inr ⟨q, x1, x, ce, L, ⟨g, u, hq _ _ _ x2, x3⟩, x4⟩
section CALLS
variable {E : eN} {I I2 : mR} {mc ms : Nat} {Q Q2 : aP} {pc : Nat} {lo : List (Option Value)} {st st0 : List Value} {f : aH} {t bc bs mc2 ms2 : Nat}
theorem r_call {p : Program} {e : Env} {R : Room} {s : State} {m : MethodId} {args : Array Value} {below : List Frame} {meth : Method} {c : Code} {H : Heap} {locs : List Loc} {cells slots : Nat} {Z : State → Prop} {ls : Array Slot} {a : Array Value} (hr : va_Run p E.2.2.2 e R s m args below meth c H locs cells slots mc2 ms2 (F0 m pc ls st0) st (aQ E Q2 a) (fun q => b0 E ≤ q)) (hz : ∀ z ∈ locs, b0 E ≤ z.base)
    (kk : ∀ (v : Option Value) (g : aH) (u : Nat) (H1 : Heap) (locs1 : List Loc), Q2 (.inl v) g u → wH E g u H1 → (∀ z ∈ locs1, b0 E ≤ z.base) → W p E.2.2.2 e R s m args below meth c H1 locs1 (cells + mc2) (slots + ms2) Z (F0 m (pc + 3) ls (v.toList ++ st))) : W p E.2.2.2 e R s m args below meth c H locs cells slots Z (F0 m pc ls st0) := by
  intro T hT X
  obtain ⟨v, st₀, u, T', L, h0, X', hL, e1, e2, ⟨v', g, k, hv, hq, hw⟩, sg⟩ := hr T hT X
  cases hv
  obtain ⟨t2, a1, b1⟩ := kk v g k T'.heap (locs ++ L) hq (by rw [e1]; exact hw) (fun z h => (List.mem_append.mp h).elim (hz z) (hL z)) T' rfl X'
  exact ⟨t2, sg t2 a1, b1⟩
theorem r_callX {p : Program} {e : Env} {R : Room} {s : State} {m : MethodId} {args : Array Value} {below : List Frame} {meth : Method} {c : Code} {H : Heap} {locs : List Loc} {cells slots : Nat} {ls : Array Slot} {a : Array Value} (hr : vx_Run p E.2.2.2 e R s m args below meth c H locs cells slots mc2 ms2 (F0 m pc ls st0) st (aQ E Q2 a) (aX E Q2) (fun q => b0 E ≤ q)) (hz : ∀ z ∈ locs, b0 E ≤ z.base)
    (hnt : ∀ x ∈ c.exceptionTable.toList, False) (hlk : meth.locks = false) (h1 : cells + mc2 ≤ mc) (h2 : slots + ms2 ≤ ms) (kx : ∀ n g u, Q2 (.inr n) g u → Q (.inr n) g u)
    (kk : ∀ (v : Option Value) (g : aH) (u : Nat) (H1 : Heap) (locs1 : List Loc), Q2 (.inl v) g u → wH E g u H1 → (∀ z ∈ locs1, b0 E ≤ z.base) → W p E.2.2.2 e R s m args below meth c H1 locs1 (cells + mc2) (slots + ms2) (vx_MQ below (aQ E Q) (aX E Q) args s mc ms (fun q => b0 E ≤ q)) (F0 m (pc + 3) ls (v.toList ++ st))) : W p E.2.2.2 e R s m args below meth c H locs cells slots (vx_MQ below (aQ E Q) (aX E Q) args s mc ms (fun q => b0 E ≤ q)) (F0 m pc ls st0) := by
  intro T hT X
  rcases hr T hT X with ⟨v, st₀, u, T', L, h0, X', hL, e1, e2, ⟨v', g, k, hv, hq, hw⟩, sg⟩ | ⟨q, st₀, u, T', L, n, ce, h0, X', hL, e1, e2, ⟨g, k, hq, hw⟩, hce, hcv, hcl, sg⟩
  · cases hv
    obtain ⟨t2, a1, b1⟩ := kk v g k T'.heap (locs ++ L) hq (by rw [e1]; exact hw) (fun z h => (List.mem_append.mp h).elim (hz z) (hL z)) T' rfl X'
    exact ⟨t2, sg t2 a1, b1⟩
  · obtain ⟨t2, a1, b1⟩ := vx_out (Qc := aQ E Q) (XC := aX E Q) (free := fun q => b0 E ≤ q) (mc := mc) (ms := ms) (pc := pc) (ls := ls) (rest := st) (H := T'.heap) (q := q) (fun x hx => (hnt x hx).elim) hlk (by rw [e1]; exact hce) hcv hcl (fun y hy _ => ⟨g, k, kx n g k hq, by rw [hy, e1]; exact hw⟩) (fun z h => (List.mem_append.mp h).elim (hz z) (hL z)) h1 h2 T' rfl X'
    exact ⟨t2, sg.trans a1, b1⟩
theorem e_blind : FrameBlind (fun (v : Array Value) (U : State) => v = st.toArray ∧ (S0 E).WarmedH U.vm ∧ wH E f t U.heap) := fun _ _ _ _ h => h
theorem v_callV (hE : eOk E) {ix b ci : Nat} {fs As : List Value} (d : decode I.2.1 pc = .ok (.invokevirtual ix, 3)) (hL : mLb I.1.cls ix I2 As.length 0 false = true) (hb : f b = .inr (ci, fs)) (hci : (match vwCl[ci]? with | some q => q.1 | none => "") = I2.1.cls) (hst : st0 = As.reverse ++ .ref b :: st)
    (hM : mT E I2 mc2 ms2 (.ref b :: As) f t Q2) (hfr : I2.2.2.2.2.1 + 1 ≤ I.2.2.2.2.1) (hlo : 8 + (I2.2.2.1 + 11) + I2.2.2.2.2.2 ≤ I.2.2.2.2.2) (hcat : (st.map fun v => v.category).sum ≤ 8) (hbc : mc2 ≤ bc) (hbs : ms2 ≤ bs)
    (kk : ∀ (v : Option Value) (g : aH) (u : Nat), Q2 (.inl v) g u → V E I mc ms Q (pc + 3) lo (v.toList ++ st) g u (bc - mc2) (bs - ms2)) (kx : ∀ n g u, Q2 (.inr n) g u → Q (.inr n) g u) : V E I mc ms Q pc lo st0 f t bc bs := by
  intro p e R s m args below meth c C H locs cells slots ls hw hz hc hs hl
  have hW := C.2.2.2.2.1
  have hR := C.2.2.2.2.2.2.2.2.1
  obtain ⟨-, l1, l2, l3, l4, l5, l6, -, -⟩ := mLb_spec hL
  obtain ⟨l7, l8⟩ := l6 rfl
  obtain ⟨-, -, r, e1, cell, q1, q2, q3, -⟩ := w_one hw hb uk_o
  have hrc : s.vm.findClass I2.1.cls = some cell.cls := by
    rw [e1] at hci
    rw [q2, ← hci]
    exact ((e_k hE hW).1 ci r e1).2.1
  have hR1 : R.cells = mc := by rw [hR]
  have hR2 : R.slots = ms := by rw [hR]
  refine r_callX (vx_runV (Ts := []) (n := As.length) (C := I2.1.cls) (bytes := I2.2.1) (maxL := I2.2.2.1) (ret := I2.2.2.2.1) ⟨C.1, C.2.1, C.2.2.1, C.2.2.2.1, fun _ h => by cases h⟩ hM
    ⟨⟨rfl, rfl, by rw [hR]; exact hfr, by rw [hR]; exact hlo, fun w hw9 a' U hU => ?_, List.mem_singleton.mpr rfl, e_w hE hW l2 rfl args, e_w hE hW l3 rfl args, l4, l5, e_w hE hW (l1 rfl) rfl args⟩, e_w hE hW l7 rfl args, e_w hE hW l8 rfl args⟩
    ⟨e_blind, ⟨cell, q1, by rw [q3]; rfl, hrc⟩, fun U hU hUW => ⟨rfl, State.WarmedH.trans hW hUW, by rw [hU]; exact hw⟩⟩ rfl rfl hl.1 hst (lv_room hcat) d ⟨by rw [hR1]; omega, by rw [hR2]; omega⟩) hz C.2.2.2.2.2.2.2.2.2 C.2.2.2.2.2.1 (by omega) (by omega) kx ?_
  · rw [List.mem_singleton.mp hw9]
    exact e_w hE (State.WarmedH.trans hW hU) l2 rfl a'
  · intro v g u H1 locs1 hq hw1 hz1
    exact kk v g u hq p e R s m args below meth c C H1 locs1 _ _ ls hw1 hz1 (by omega) (by omega) hl
theorem v_callS (hE : eOk E) {ix : Nat} {As : List Value} (d : decode I.2.1 pc = .ok (.invokestatic ix, 3)) (hL : mLb I.1.cls ix I2 As.length 1 false = true) (hst : st0 = As.reverse ++ st)
    (hM : mT E I2 mc2 ms2 As f t Q2) (hfr : I2.2.2.2.2.1 + 1 ≤ I.2.2.2.2.1) (hlo : 8 + (I2.2.2.1 + 11) + I2.2.2.2.2.2 ≤ I.2.2.2.2.2) (hcat : (st.map fun v => v.category).sum ≤ 8) (hbc : mc2 ≤ bc) (hbs : ms2 ≤ bs)
    (kk : ∀ (v : Option Value) (g : aH) (u : Nat), Q2 (.inl v) g u → V E I mc ms Q (pc + 3) lo (v.toList ++ st) g u (bc - mc2) (bs - ms2)) (kx : ∀ n g u, Q2 (.inr n) g u → Q (.inr n) g u) : V E I mc ms Q pc lo st0 f t bc bs := by
  intro p e R s m args below meth c C H locs cells slots ls hw hz hc hs hl
  have hW := C.2.2.2.2.1
  have hR := C.2.2.2.2.2.2.2.2.1
  obtain ⟨-, l1, l2, l3, l4, l5, -, l6, -⟩ := mLb_spec hL
  have hR1 : R.cells = mc := by rw [hR]
  have hR2 : R.slots = ms := by rw [hR]
  refine r_callX (vx_runS (Ts := []) (n := As.length) (bytes := I2.2.1) (maxL := I2.2.2.1) (ret := I2.2.2.2.1) ⟨C.1, C.2.1, C.2.2.1, C.2.2.2.1, fun _ h => by cases h⟩ hM
    ⟨⟨rfl, rfl, by rw [hR]; exact hfr, by rw [hR]; exact hlo, fun w hw9 a' U hU => ?_, List.mem_singleton.mpr rfl, e_w hE hW l2 rfl args, e_w hE hW l3 rfl args, l4, l5, e_w hE hW (l1 rfl) rfl args⟩, e_w hE hW (l6 rfl) rfl args⟩
    ⟨e_blind, fun U hU hUW => ⟨rfl, State.WarmedH.trans hW hUW, by rw [hU]; exact hw⟩⟩ rfl rfl hl.1 hst (lv_room hcat) d ⟨by rw [hR1]; omega, by rw [hR2]; omega⟩) hz C.2.2.2.2.2.2.2.2.2 C.2.2.2.2.2.1 (by omega) (by omega) kx ?_
  · rw [List.mem_singleton.mp hw9]
    exact e_w hE (State.WarmedH.trans hW hU) l2 rfl a'
  · intro v g u H1 locs1 hq hw1 hz1
    exact kk v g u hq p e R s m args below meth c C H1 locs1 _ _ ls hw1 hz1 (by omega) (by omega) hl
theorem v_callSN (hE : eOk E) {ix : Nat} {As : List Value} (d : decode I.2.1 pc = .ok (.invokestatic ix, 3)) (hL : mLb I.1.cls ix I2 As.length 1 true = true) (hst : st0 = As.reverse ++ st)
    (hM : mT E I2 mc2 ms2 As f t Q2) (hx : ∀ n g u, ¬ Q2 (.inr n) g u) (hfr : I2.2.2.2.2.1 + 1 ≤ I.2.2.2.2.1) (hlo : 8 + (I2.2.2.1 + 11) + I2.2.2.2.2.2 ≤ I.2.2.2.2.2) (hcat : (st.map fun v => v.category).sum ≤ 8) (hbc : mc2 ≤ bc) (hbs : ms2 ≤ bs)
    (kk : ∀ (v : Option Value) (g : aH) (u : Nat), Q2 (.inl v) g u → V E I mc ms Q (pc + 3) lo (v.toList ++ st) g u (bc - mc2) (bs - ms2)) : V E I mc ms Q pc lo st0 f t bc bs := by
  intro p e R s m args below meth c C H locs cells slots ls hw hz hc hs hl
  have hW := C.2.2.2.2.1
  have hR := C.2.2.2.2.2.2.2.2.1
  obtain ⟨l0, -, l2, l3, l4, l5, -, l6, -⟩ := mLb_spec hL
  have hR1 : R.cells = mc := by rw [hR]
  have hR2 : R.slots = ms := by rw [hR]
  refine r_call (va_runSN (Ts := []) (n := As.length) (bytes := I2.2.1) (maxL := I2.2.2.1) (ret := I2.2.2.2.1) (host := RX9) ⟨C.1, C.2.1, C.2.2.1, C.2.2.2.1, fun _ h => by cases h⟩ (mT_met hM hx)
    ⟨⟨⟨rfl, rfl, by rw [hR]; exact hfr, by rw [hR]; exact hlo, fun w hw9 a' U hU => ?_, List.mem_singleton.mpr rfl⟩, e_w hE hW l2 rfl args, e_w hE hW l3 rfl args, l4, l5, va_Nw.use rfl (e_nm hE hW (l0 rfl))⟩, e_w hE hW (l6 rfl) rfl args, trivial⟩
    ⟨e_blind, fun U hU hUW => ⟨rfl, State.WarmedH.trans hW hUW, by rw [hU]; exact hw⟩⟩ rfl rfl hl.1 hst (lv_room hcat) d ⟨by rw [hR1]; omega, by rw [hR2]; omega⟩) hz ?_
  · rw [List.mem_singleton.mp hw9]
    exact e_w hE (State.WarmedH.trans hW hU) l2 rfl a'
  · intro v g u H1 locs1 hq hw1 hz1
    exact kk v g u hq p e R s m args below meth c C H1 locs1 _ _ ls hw1 hz1 (by omega) (by omega) hl
theorem v_callI (hE : eOk E) {ix b : Nat} {As : List Value} {w : Bool} (d : decode I.2.1 pc = .ok (.invokespecial ix, 3)) (hL : mLb I.1.cls ix I2 As.length 2 w = true) (hret : I2.2.2.2.1 = none) (hst : st0 = As.reverse ++ .ref b :: st)
    (hM : mT E I2 mc2 ms2 (.ref b :: As) f t Q2) (hx : ∀ n g u, ¬ Q2 (.inr n) g u) (hfr : I2.2.2.2.2.1 + 1 ≤ I.2.2.2.2.1) (hlo : 8 + (I2.2.2.1 + 11) + I2.2.2.2.2.2 ≤ I.2.2.2.2.2) (hcat : (st.map fun v => v.category).sum ≤ 8) (hbc : mc2 ≤ bc) (hbs : ms2 ≤ bs)
    (kk : ∀ (v : Option Value) (g : aH) (u : Nat), Q2 (.inl v) g u → V E I mc ms Q (pc + 3) lo (v.toList ++ st) g u (bc - mc2) (bs - ms2)) : V E I mc ms Q pc lo st0 f t bc bs := by
  intro p e R s m args below meth c C H locs cells slots ls hw hz hc hs hl
  have hW := C.2.2.2.2.1
  have hR := C.2.2.2.2.2.2.2.2.1
  obtain ⟨l0, l1, l2, l3, l4, l5, -, -, l6⟩ := mLb_spec hL
  obtain ⟨l7, l8⟩ := l6 rfl
  have hR1 : R.cells = mc := by rw [hR]
  have hR2 : R.slots = ms := by rw [hR]
  have hws : ∀ w ∈ [Cond.code I2.1 I2.2.1 I2.2.2.1 I2.2.2.2.1], ∀ (a' : Array Value) (U : State), s.WarmedH U.vm → w.before a' U = true := fun w hw9 a' U hU => by
    rw [List.mem_singleton.mp hw9]
    exact e_w hE (State.WarmedH.trans hW hU) l2 rfl a'
  have fin : ∀ (v : Option Value) (g : aH) (u : Nat) (H1 : Heap) (locs1 : List Loc), Q2 (.inl v) g u → wH E g u H1 → (∀ z ∈ locs1, b0 E ≤ z.base) → W p E.2.2.2 e R s m args below meth c H1 locs1 (cells + mc2) (slots + ms2) (vx_MQ below (aQ E Q) (aX E Q) args s mc ms (fun q => b0 E ≤ q)) (F0 m (pc + 3) ls (v.toList ++ st)) := fun v g u H1 locs1 hq hw1 hz1 =>
    kk v g u hq p e R s m args below meth c C H1 locs1 _ _ ls hw1 hz1 (by omega) (by omega) hl
  have l2' : (Cond.code I2.1 I2.2.1 I2.2.2.1 none).before args s = true := by
    have := e_w hE hW l2 rfl args
    rwa [hret] at this
  have hmem : Cond.code I2.1 I2.2.1 I2.2.2.1 none ∈ [Cond.code I2.1 I2.2.1 I2.2.2.1 I2.2.2.2.1] := by rw [hret]; exact List.mem_singleton.mpr rfl
  cases w with
  | false =>
    exact r_call (va_runI (Ts := []) (n := As.length) (bytes := I2.2.1) (maxL := I2.2.2.1) ⟨C.1, C.2.1, C.2.2.1, C.2.2.2.1, fun _ h => by cases h⟩ (mT_met hM hx)
      ⟨⟨rfl, rfl, by rw [hR]; exact hfr, by rw [hR]; exact hlo, hws, hmem, l2', e_w hE hW l3 rfl args, l4, l5, e_w hE hW (l1 rfl) rfl args⟩, l7, e_w hE hW l8 rfl args⟩
      ⟨e_blind, fun U hU hUW => ⟨rfl, State.WarmedH.trans hW hUW, by rw [hU]; exact hw⟩⟩ rfl rfl hl.1 hst (lv_room hcat) d ⟨by rw [hR1]; omega, by rw [hR2]; omega⟩) hz fin
  | true =>
    exact r_call (va_runIN (Ts := []) (n := As.length) (bytes := I2.2.1) (maxL := I2.2.2.1) (host := RX9) ⟨C.1, C.2.1, C.2.2.1, C.2.2.2.1, fun _ h => by cases h⟩ (mT_met hM hx)
      ⟨⟨⟨rfl, rfl, by rw [hR]; exact hfr, by rw [hR]; exact hlo, hws, hmem⟩, l2', e_w hE hW l3 rfl args, l4, l5, va_Nw.use rfl (e_nm hE hW (l0 rfl))⟩, l7, e_w hE hW l8 rfl args⟩
      ⟨e_blind, fun U hU hUW => ⟨rfl, State.WarmedH.trans hW hUW, by rw [hU]; exact hw⟩⟩ rfl rfl hl.1 hst (lv_room hcat) d ⟨by rw [hR1]; omega, by rw [hR2]; omega⟩) hz fin
end CALLS
end
section
theorem mem_at {j : Nat} {w : Cond} (h : lw_tbl[j]? = some w) : w ∈ lw_tbl := List.mem_of_getElem? h
theorem fLb_of {own : String} {ix ci k : Nat} {n : Bool} {q : vw_C} (hq : vwCl[ci]? = some q) (hk : k < q.2.2) (hm : (if n then Cond.fieldLinkNest own ix q.1 (q.2.1 k).2.1 (q.2.1 k).2.2.1 RX9 else Cond.fieldLink own ix q.1 (q.2.1 k).2.1 (q.2.1 k).2.2.1) ∈ lw_tbl) : fLb own ix ci k n = true := by
  unfold fLb
  rw [hq]
  cases n
  · simp only [Bool.and_eq_true, decide_eq_true_eq]
    exact ⟨hk, by simpa using hm⟩
  · simp only [Bool.and_eq_true, decide_eq_true_eq]
    exact ⟨hk, by simpa using hm⟩
theorem nLb_of {own : String} {ix ci : Nat} {q : vw_C} (hq : vwCl[ci]? = some q) (h1 : Cond.classLink own ix q.1 ∈ lw_tbl) (h2 : Cond.instantiable q.1 q.2.2 ∈ lw_tbl) (h3 : Cond.initialized q.1 ∈ lw_tbl) : nLb own ix ci = true := by
  unfold nLb
  rw [hq]
  simp only [Bool.and_eq_true, decide_eq_true_eq]
  exact ⟨h1, h2, h3⟩
def mOk (I2 : mR) (n kd : Nat) : Prop := Cond.code I2.1 I2.2.1 I2.2.2.1 I2.2.2.2.1 ∈ lw_tbl ∧ Cond.initialized I2.1.cls ∈ lw_tbl ∧ (I2.1.cls ≠ "java/lang/invoke/MethodHandle" ∧ I2.1.cls ≠ "java/lang/invoke/VarHandle") ∧ (parseMethodDescriptor I2.1.desc).map (fun d => d.parameters.length) = some n ∧ (match kd with
  | 0 => Cond.instanceMethod I2.1 ∈ lw_tbl ∧ Cond.selects I2.1.cls I2.1 I2.1 ∈ lw_tbl
  | 1 => Cond.static I2.1 ∈ lw_tbl
  | _ => I2.1.name = "<init>" ∧ Cond.instanceMethod I2.1 ∈ lw_tbl)
theorem mLb_of {own : String} {ix : Nat} {I2 : mR} {n kd : Nat} {w : Bool} (h : mOk I2 n kd) (hl : (if w then Cond.methodLinkNest own ix I2.1 RX9 else Cond.methodLink own ix I2.1) ∈ lw_tbl) : mLb own ix I2 n kd w = true := by
  obtain ⟨h1, h2, h3, h4, h5⟩ := h
  unfold mLb
  simp only [Bool.and_eq_true]
  refine ⟨?_, decide_eq_true h1, decide_eq_true h2, decide_eq_true h3, decide_eq_true h4, ?_⟩
  · cases w
    · exact decide_eq_true (by simpa using hl)
    · exact decide_eq_true (by simpa using hl)
  · match kd, h5 with
    | 0, h5 => simp only [Bool.and_eq_true, decide_eq_true_eq]; exact h5
    | 1, h5 => exact decide_eq_true h5
    | n + 2, h5 => simp only [Bool.and_eq_true, decide_eq_true_eq]; exact h5
abbrev mX0_init : mR := (yX0_init, cX0_init, 1, none, 1, 24)
abbrev mX0_copyFrom : mR := (yX0_copyFrom, cX0_copyFrom, 3, none, 2, 69)
abbrev mX0_copyHead : mR := (yX0_copyHead, cX0_copyHead, 2, none, 1, 48)
abbrev mX0_copyCalls : mR := (yX0_copyCalls, cX0_copyCalls, 5, none, 0, 0)
abbrev mX0_setNoCall : mR := (yX0_setNoCall, cX0_setNoCall, 2, none, 1, 23)
abbrev mX0_setCall : mR := (yX0_setCall, cX0_setCall, 4, none, 0, 0)
abbrev mX0_callAt : mR := (yX0_callAt, cX0_callAt, 3, (some .int), 0, 0)
abbrev mX0_letterAt : mR := (yX0_letterAt, cX0_letterAt, 3, (some .int), 0, 0)
abbrev mX0_addLetter : mR := (yX0_addLetter, cX0_addLetter, 3, none, 0, 0)
abbrev mX0_addIdOctet : mR := (yX0_addIdOctet, cX0_addIdOctet, 2, none, 0, 0)
abbrev mX0_copyRow : mR := (yX0_copyRow, cX0_copyRow, 5, none, 1, 48)
abbrev mX0_rowIs : mR := (yX0_rowIs, cX0_rowIs, 5, (some .boolean), 1, 22)
abbrev mX0_hasAlts : mR := (yX0_hasAlts, cX0_hasAlts, 1, (some .boolean), 0, 0)
abbrev mX0_standsBehind : mR := (yX0_standsBehind, cX0_standsBehind, 2, (some .boolean), 0, 0)
abbrev mX0_standsWith : mR := (yX0_standsWith, cX0_standsWith, 2, (some .boolean), 0, 0)
abbrev mX0_hasAllRowsOf : mR := (yX0_hasAllRowsOf, cX0_hasAllRowsOf, 3, (some .boolean), 2, 46)
abbrev mX0_makeNormal : mR := (yX0_makeNormal, cX0_makeNormal, 5, (some .boolean), 5, 115)
abbrev mX0_shortestRow : mR := (yX0_shortestRow, cX0_shortestRow, 3, (some .int), 1, 24)
abbrev mX0_cutEnds : mR := (yX0_cutEnds, cX0_cutEnds, 5, (some .int), 4, 91)
abbrev mX0_stepsToLeft : mR := (yX0_stepsToLeft, cX0_stepsToLeft, 3, (some .int), 4, 91)
abbrev mX0_endAlikeAfter : mR := (yX0_endAlikeAfter, cX0_endAlikeAfter, 5, (some .boolean), 3, 67)
abbrev mX0_movedLetter : mR := (yX0_movedLetter, cX0_movedLetter, 5, (some .int), 2, 43)
abbrev mX0_moveLeft : mR := (yX0_moveLeft, cX0_moveLeft, 5, none, 3, 67)
abbrev mX0_cutBeginnings : mR := (yX0_cutBeginnings, cX0_cutBeginnings, 6, (some .int), 2, 46)
abbrev mX0_alikeAt : mR := (yX0_alikeAt, cX0_alikeAt, 3, (some .boolean), 1, 22)
abbrev mX0_takeAlt : mR := (yX0_takeAlt, cX0_takeAlt, 7, none, 3, 91)
abbrev mX0_canReach : mR := (yX0_canReach, cX0_canReach, 3, (some .boolean), 0, 0)
abbrev mX0_reachAsFarAs : mR := (yX0_reachAsFarAs, cX0_reachAsFarAs, 5, none, 1, 22)
abbrev mX0_altLike : mR := (yX0_altLike, cX0_altLike, 4, (some .int), 2, 46)
abbrev mX0_meansSameAs : mR := (yX0_meansSameAs, cX0_meansSameAs, 6, (some .boolean), 3, 65)
abbrev mX0_growth : mR := (yX0_growth, cX0_growth, 1, (some .int), 0, 0)
abbrev mX0_letterAfter : mR := (yX0_letterAfter, cX0_letterAfter, 3, (some .int), 2, 43)
abbrev mX0_writeTo : mR := (yX0_writeTo, cX0_writeTo, 5, none, 6, 128)
abbrev mX0_writeRow : mR := (yX0_writeRow, cX0_writeRow, 3, none, 2, 48)
abbrev mX0_writeAlts : mR := (yX0_writeAlts, cX0_writeAlts, 3, none, 3, 70)
abbrev mX0_writeCalls : mR := (yX0_writeCalls, cX0_writeCalls, 4, none, 3, 64)
abbrev mX1_init : mR := (yX1_init, cX1_init, 1, none, 2, 45)
abbrev mX1_clear : mR := (yX1_clear, cX1_clear, 1, none, 1, 20)
abbrev mX1_open : mR := (yX1_open, cX1_open, 1, none, 1, 20)
abbrev mX1_addLetter : mR := (yX1_addLetter, cX1_addLetter, 4, none, 0, 0)
abbrev mX1_setWidth : mR := (yX1_setWidth, cX1_setWidth, 2, none, 0, 0)
abbrev mX1_has : mR := (yX1_has, cX1_has, 2, (some .boolean), 0, 0)
abbrev mX1_sizeOf : mR := (yX1_sizeOf, cX1_sizeOf, 2, (some .int), 1, 21)
abbrev mX1_letterAt : mR := (yX1_letterAt, cX1_letterAt, 3, (some .int), 1, 21)
abbrev mX1_writeLetters : mR := (yX1_writeLetters, cX1_writeLetters, 5, none, 2, 48)
abbrev mX2_init : mR := (yX2_init, cX2_init, 3, none, 1, 24)
abbrev mX2_run : mR := (yX2_run, cX2_run, 2, (some .boolean), 5, 110)
abbrev mX2_fail : mR := (yX2_fail, cX2_fail, 2, (some .boolean), 0, 0)
abbrev mX2_take : mR := (yX2_take, cX2_take, 2, (some .boolean), 4, 89)
abbrev mX2_takeAtLineStart : mR := (yX2_takeAtLineStart, cX2_takeAtLineStart, 2, (some .boolean), 3, 60)
abbrev mX2_openSequence : mR := (yX2_openSequence, cX2_openSequence, 1, (some .boolean), 2, 40)
abbrev mX2_takeInName : mR := (yX2_takeInName, cX2_takeInName, 2, (some .boolean), 3, 68)
abbrev mX2_takeInRemark : mR := (yX2_takeInRemark, cX2_takeInRemark, 2, (some .boolean), 3, 68)
abbrev mX2_endNameLine : mR := (yX2_endNameLine, cX2_endNameLine, 2, (some .boolean), 2, 47)
abbrev mX2_takeInLetters : mR := (yX2_takeInLetters, cX2_takeInLetters, 3, (some .boolean), 2, 45)
abbrev mX2_endLetterLine : mR := (yX2_endLetterLine, cX2_endLetterLine, 1, none, 1, 21)
abbrev mX2_takeLetter : mR := (yX2_takeLetter, cX2_takeLetter, 3, (some .boolean), 1, 23)
abbrev mX2_isNameOctet : mR := (yX2_isNameOctet, cX2_isNameOctet, 1, (some .boolean), 0, 0)
abbrev mX3_init : mR := (yX3_init, cX3_init, 1, none, 1, 24)
abbrev mX3_clear : mR := (yX3_clear, cX3_clear, 1, none, 0, 0)
abbrev mX3_choose : mR := (yX3_choose, cX3_choose, 7, none, 2, 44)
abbrev mX3_insert : mR := (yX3_insert, cX3_insert, 4, none, 1, 21)
abbrev mX3_clashes : mR := (yX3_clashes, cX3_clashes, 4, (some .boolean), 0, 0)
abbrev mX3_putOn : mR := (yX3_putOn, cX3_putOn, 11, none, 3, 72)
abbrev mX3_carriedTo : mR := (yX3_carriedTo, cX3_carriedTo, 2, (some .int), 1, 28)
abbrev mX3_backTo : mR := (yX3_backTo, cX3_backTo, 2, (some .int), 1, 28)
abbrev mX3_moved : mR := (yX3_moved, cX3_moved, 9, (some .int), 0, 0)
abbrev mX4_init : mR := (yX4_init, cX4_init, 1, none, 2, 44)
abbrev mX4_joins : mR := (yX4_joins, cX4_joins, 6, (some .boolean), 4, 94)
abbrev mX4_takeAlts : mR := (yX4_takeAlts, cX4_takeAlts, 3, (some .boolean), 3, 72)
abbrev mX4_joinCalls : mR := (yX4_joinCalls, cX4_joinCalls, 5, none, 1, 24)
abbrev mX4_joinedPhase : mR := (yX4_joinedPhase, cX4_joinedPhase, 2, (some .boolean), 0, 0)
abbrev mX4_joinedCall : mR := (yX4_joinedCall, cX4_joinedCall, 3, (some .int), 0, 0)
abbrev mX5_init : mR := (yX5_init, cX5_init, 2, none, 1, 24)
abbrev mX5_clear : mR := (yX5_clear, cX5_clear, 1, none, 0, 0)
abbrev mX5_open : mR := (yX5_open, cX5_open, 1, none, 0, 0)
abbrev mX5_add : mR := (yX5_add, cX5_add, 3, none, 0, 0)
abbrev mX5_addAll : mR := (yX5_addAll, cX5_addAll, 4, none, 1, 22)
abbrev mX5_sizeOf : mR := (yX5_sizeOf, cX5_sizeOf, 2, (some .int), 0, 0)
abbrev mX5_octetAt : mR := (yX5_octetAt, cX5_octetAt, 3, (some .int), 1, 21)
abbrev mX5_indexOf : mR := (yX5_indexOf, cX5_indexOf, 4, (some .int), 1, 24)
abbrev mX5_isName : mR := (yX5_isName, cX5_isName, 5, (some .boolean), 0, 0)
abbrev mX5_indexIn : mR := (yX5_indexIn, cX5_indexIn, 5, (some .int), 1, 26)
abbrev mX5_writeName : mR := (yX5_writeName, cX5_writeName, 3, none, 2, 48)
abbrev mX6_init : mR := (yX6_init, cX6_init, 1, none, 1, 24)
abbrev mX6_clear : mR := (yX6_clear, cX6_clear, 1, none, 0, 0)
abbrev mX6_add : mR := (yX6_add, cX6_add, 2, none, 0, 0)
abbrev mX6_addText : mR := (yX6_addText, cX6_addText, 3, none, 5, 106)
abbrev mX6_addPart : mR := (yX6_addPart, cX6_addPart, 5, none, 1, 24)
abbrev mX6_addNumber : mR := (yX6_addNumber, cX6_addNumber, 3, none, 1, 21)
abbrev mX6_addNumberOrPoint : mR := (yX6_addNumberOrPoint, cX6_addNumberOrPoint, 2, none, 2, 43)
abbrev mX6_at : mR := (yX6_at, cX6_at, 2, (some .int), 0, 0)
abbrev mX6_find : mR := (yX6_find, cX6_find, 4, (some .int), 1, 24)
abbrev mX6_isText : mR := (yX6_isText, cX6_isText, 4, (some .boolean), 6, 129)
abbrev mX6_beginsWith : mR := (yX6_beginsWith, cX6_beginsWith, 4, (some .boolean), 5, 106)
abbrev mX6_isPart : mR := (yX6_isPart, cX6_isPart, 7, (some .boolean), 0, 0)
abbrev mX6_isWord : mR := (yX6_isWord, cX6_isWord, 4, (some .boolean), 1, 21)
abbrev mX6_numberAt : mR := (yX6_numberAt, cX6_numberAt, 7, (some .int), 1, 21)
abbrev mX6_copyFrom : mR := (yX6_copyFrom, cX6_copyFrom, 2, none, 1, 48)
abbrev mX7_init : mR := (yX7_init, cX7_init, 2, none, 2, 45)
abbrev mX7_clear : mR := (yX7_clear, cX7_clear, 1, none, 1, 20)
abbrev mX7_canTakeSamples : mR := (yX7_canTakeSamples, cX7_canTakeSamples, 3, (some .boolean), 2, 47)
abbrev mX7_sizeWhenSplit : mR := (yX7_sizeWhenSplit, cX7_sizeWhenSplit, 3, (some .int), 1, 24)
abbrev mX7_takeSplit : mR := (yX7_takeSplit, cX7_takeSplit, 3, none, 5, 139)
abbrev mX7_takeSplitEntry : mR := (yX7_takeSplitEntry, cX7_takeSplitEntry, 3, none, 4, 117)
abbrev mX7_joinAll : mR := (yX7_joinAll, cX7_joinAll, 4, none, 5, 119)
abbrev mX7_putInOrder : mR := (yX7_putInOrder, cX7_putInOrder, 3, (some .int), 2, 44)
abbrev mX7_sinkToPlace : mR := (yX7_sinkToPlace, cX7_sinkToPlace, 4, none, 1, 21)
abbrev mX7_pairWith : mR := (yX7_pairWith, cX7_pairWith, 5, (some .int), 4, 91)
abbrev mX7_firstFreeLike : mR := (yX7_firstFreeLike, cX7_firstFreeLike, 4, (some .int), 3, 68)
abbrev mX7_takeAll : mR := (yX7_takeAll, cX7_takeAll, 6, none, 3, 67)
abbrev mX7_setNoCalls : mR := (yX7_setNoCalls, cX7_setNoCalls, 4, none, 2, 44)
abbrev mX7_moveCalls : mR := (yX7_moveCalls, cX7_moveCalls, 5, none, 1, 24)
abbrev mX7_swap : mR := (yX7_swap, cX7_swap, 5, none, 0, 0)
abbrev mX7_writeTo : mR := (yX7_writeTo, cX7_writeTo, 4, none, 7, 152)
abbrev mX8_init : mR := (yX8_init, cX8_init, 4, none, 1, 24)
abbrev mX8_run : mR := (yX8_run, cX8_run, 3, (some .boolean), 10, 227)
abbrev mX8_fail : mR := (yX8_fail, cX8_fail, 3, (some .boolean), 0, 0)
abbrev mX8_takeLine : mR := (yX8_takeLine, cX8_takeLine, 1, (some .boolean), 2, 47)
abbrev mX8_takeFirstLine : mR := (yX8_takeFirstLine, cX8_takeFirstLine, 1, (some .boolean), 7, 152)
abbrev mX8_takeLinesToHead : mR := (yX8_takeLinesToHead, cX8_takeLinesToHead, 2, (some .boolean), 9, 195)
abbrev mX8_cutColumns : mR := (yX8_cutColumns, cX8_cutColumns, 3, none, 1, 21)
abbrev mX8_takeHead : mR := (yX8_takeHead, cX8_takeHead, 2, (some .boolean), 8, 174)
abbrev mX8_takeSampleName : mR := (yX8_takeSampleName, cX8_takeSampleName, 4, (some .boolean), 2, 50)
abbrev mX8_takeEntry : mR := (yX8_takeEntry, cX8_takeEntry, 2, (some .boolean), 9, 198)
abbrev mX8_failColumn : mR := (yX8_failColumn, cX8_failColumn, 2, (some .boolean), 1, 22)
abbrev mX8_columnIs : mR := (yX8_columnIs, cX8_columnIs, 3, (some .boolean), 7, 152)
abbrev mX8_takeSequence : mR := (yX8_takeSequence, cX8_takeSequence, 2, (some .boolean), 2, 50)
abbrev mX8_takePlace : mR := (yX8_takePlace, cX8_takePlace, 2, (some .boolean), 2, 47)
abbrev mX8_takeId : mR := (yX8_takeId, cX8_takeId, 5, (some .boolean), 8, 174)
abbrev mX8_takeRow : mR := (yX8_takeRow, cX8_takeRow, 7, (some .boolean), 1, 22)
abbrev mX8_refIsThere : mR := (yX8_refIsThere, cX8_refIsThere, 3, (some .boolean), 2, 43)
abbrev mX8_takeAlts : mR := (yX8_takeAlts, cX8_takeAlts, 5, (some .boolean), 8, 174)
abbrev mX8_takeAlt : mR := (yX8_takeAlt, cX8_takeAlt, 6, (some .boolean), 2, 48)
abbrev mX8_takeQuality : mR := (yX8_takeQuality, cX8_takeQuality, 2, (some .boolean), 8, 174)
abbrev mX8_takePassed : mR := (yX8_takePassed, cX8_takePassed, 2, (some .boolean), 8, 174)
abbrev mX8_takeAllCalls : mR := (yX8_takeAllCalls, cX8_takeAllCalls, 4, (some .boolean), 9, 204)
abbrev mX8_takeCalls : mR := (yX8_takeCalls, cX8_takeCalls, 9, (some .boolean), 8, 176)
abbrev mX8_callAt : mR := (yX8_callAt, cX8_callAt, 5, (some .int), 7, 152)
abbrev mX9_init : mR := (yX9_init, cX9_init, 2, none, 3, 66)
abbrev mX9_feed : mR := (yX9_feed, cX9_feed, 5, (some .int), 6, 96)
abbrev mX9_reference : mR := (yX9_reference, cX9_reference, 5, (some .int), 6, 131)
abbrev mX9_read : mR := (yX9_read, cX9_read, 4, (some .int), 11, 249)
abbrev mX9_place : mR := (yX9_place, cX9_place, 1, (some .int), 0, 0)
abbrev mX9_sequence : mR := (yX9_sequence, cX9_sequence, 3, (some .int), 7, 117)
abbrev mX9_letter : mR := (yX9_letter, cX9_letter, 4, (some .int), 7, 117)
abbrev mX9_table : mR := (yX9_table, cX9_table, 4, (some .int), 7, 117)
abbrev mX9_record : mR := (yX9_record, cX9_record, 5, (some .int), 8, 140)
abbrev mX9_row : mR := (yX9_row, cX9_row, 6, (some .int), 8, 140)
abbrev mX9_call : mR := (yX9_call, cX9_call, 6, (some .int), 8, 140)
abbrev mX9_normalise : mR := (yX9_normalise, cX9_normalise, 5, (some .int), 7, 139)
abbrev mX9_split : mR := (yX9_split, cX9_split, 3, (some .int), 7, 161)
abbrev mX9_join : mR := (yX9_join, cX9_join, 3, (some .int), 7, 142)
abbrev mX9_sort : mR := (yX9_sort, cX9_sort, 2, (some .int), 7, 117)
abbrev mX9_merge : mR := (yX9_merge, cX9_merge, 4, (some .int), 5, 115)
abbrev mX9_apply : mR := (yX9_apply, cX9_apply, 6, (some .int), 8, 139)
abbrev mX9_carried : mR := (yX9_carried, cX9_carried, 2, (some .int), 2, 49)
abbrev mX9_back : mR := (yX9_back, cX9_back, 2, (some .int), 2, 49)
abbrev mX9_same : mR := (yX9_same, cX9_same, 7, (some .boolean), 8, 140)
abbrev mX9_write : mR := (yX9_write, cX9_write, 4, (some .int), 8, 175)
abbrev mX9_out : mR := (yX9_out, cX9_out, 2, (some .int), 1, 21)
abbrev mX9_again : mR := (yX9_again, cX9_again, 1, (some .int), 2, 69)
abbrev mX9_sheetAt : mR := (yX9_sheetAt, cX9_sheetAt, 2, (some (.object "VariantDesk$Sheet")), 6, 96)
abbrev mX9_entryAt : mR := (yX9_entryAt, cX9_entryAt, 4, (some (.object "VariantDesk$Entry")), 7, 117)
abbrev mX9_checkSample : mR := (yX9_checkSample, cX9_checkSample, 3, none, 7, 117)
abbrev mX9_checkSequence : mR := (yX9_checkSequence, cX9_checkSequence, 2, none, 6, 96)
abbrev mX9_useSpareSheet : mR := (yX9_useSpareSheet, cX9_useSpareSheet, 3, none, 0, 0)
abbrev mX9_letterOf : mR := (yX9_letterOf, cX9_letterOf, 1, (some .int), 0, 0)
abbrev mX10_init : mR := (yX10_init, cX10_init, 1, none, 1, 24)
abbrev mX10_thrown : mR := (yX10_thrown, cX10_thrown, 1, (some .int), 0, 0)
abbrev mX10_goes : mR := (yX10_goes, cX10_goes, 2, (some .boolean), 0, 0)
abbrev mX10_in : mR := (yX10_in, cX10_in, 3, (some .boolean), 0, 0)
abbrev mX10_feed : mR := (yX10_feed, cX10_feed, 5, (some .int), 1, 22)
abbrev mX10_letterOf : mR := (yX10_letterOf, cX10_letterOf, 2, (some .int), 1, 22)
abbrev mX10_at : mR := (yX10_at, cX10_at, 2, (some .int), 0, 0)
abbrev mX10_bad : mR := (yX10_bad, cX10_bad, 3, none, 0, 0)
abbrev mX10_isNameSign : mR := (yX10_isNameSign, cX10_isNameSign, 1, (some .boolean), 1, 22)
abbrev mX10_isOld : mR := (yX10_isOld, cX10_isOld, 5, (some .boolean), 0, 0)
abbrev mX10_readName : mR := (yX10_readName, cX10_readName, 6, (some .int), 2, 42)
abbrev mX10_readLetters : mR := (yX10_readLetters, cX10_readLetters, 9, (some .int), 2, 43)
abbrev mX10_reference : mR := (yX10_reference, cX10_reference, 5, (some .int), 3, 71)
abbrev mX10_refAt : mR := (yX10_refAt, cX10_refAt, 3, (some .int), 0, 0)
abbrev mX10_copy : mR := (yX10_copy, cX10_copy, 5, none, 1, 25)
abbrev mX10_copyCalls : mR := (yX10_copyCalls, cX10_copyCalls, 6, none, 0, 0)
abbrev mX10_noCalls : mR := (yX10_noCalls, cX10_noCalls, 3, none, 0, 0)
abbrev mX10_copyTable : mR := (yX10_copyTable, cX10_copyTable, 4, none, 2, 49)
abbrev mX10_copySample : mR := (yX10_copySample, cX10_copySample, 6, none, 0, 0)
abbrev mX10_sameRow : mR := (yX10_sameRow, cX10_sameRow, 7, (some .boolean), 0, 0)
abbrev mX10_lineEnd : mR := (yX10_lineEnd, cX10_lineEnd, 3, (some .int), 1, 21)
abbrev mX10_sizeOf : mR := (yX10_sizeOf, cX10_sizeOf, 1, (some .int), 0, 0)
abbrev mX10_eightOf : mR := (yX10_eightOf, cX10_eightOf, 2, (some .long), 0, 0)
abbrev mX10_octetOf : mR := (yX10_octetOf, cX10_octetOf, 2, (some .int), 1, 21)
abbrev mX10_begins : mR := (yX10_begins, cX10_begins, 6, (some .boolean), 2, 42)
abbrev mX10_isText : mR := (yX10_isText, cX10_isText, 4, (some .boolean), 3, 67)
abbrev mX10_columnEnd : mR := (yX10_columnEnd, cX10_columnEnd, 4, (some .int), 1, 21)
abbrev mX10_columns : mR := (yX10_columns, cX10_columns, 5, (some .int), 1, 21)
abbrev mX10_isShown : mR := (yX10_isShown, cX10_isShown, 5, (some .boolean), 1, 22)
abbrev mX10_readHead : mR := (yX10_readHead, cX10_readHead, 7, (some .boolean), 4, 90)
abbrev mX10_sameName : mR := (yX10_sameName, cX10_sameName, 7, (some .boolean), 0, 0)
abbrev mX10_numberOf : mR := (yX10_numberOf, cX10_numberOf, 6, (some .int), 1, 22)
abbrev mX10_sequenceNamed : mR := (yX10_sequenceNamed, cX10_sequenceNamed, 6, (some .int), 1, 21)
abbrev mX10_readRow : mR := (yX10_readRow, cX10_readRow, 7, (some .boolean), 2, 43)
abbrev mX10_readRef : mR := (yX10_readRef, cX10_readRef, 6, none, 3, 69)
abbrev mX10_readAlts : mR := (yX10_readAlts, cX10_readAlts, 9, none, 4, 90)
abbrev mX10_callOf : mR := (yX10_callOf, cX10_callOf, 3, (some .int), 1, 22)
abbrev mX10_readCalls : mR := (yX10_readCalls, cX10_readCalls, 10, none, 2, 44)
abbrev mX10_readColumn : mR := (yX10_readColumn, cX10_readColumn, 6, none, 5, 118)
abbrev mX10_readRecord : mR := (yX10_readRecord, cX10_readRecord, 8, none, 6, 143)
abbrev mX10_needLine : mR := (yX10_needLine, cX10_needLine, 3, (some .int), 2, 43)
abbrev mX10_readTable : mR := (yX10_readTable, cX10_readTable, 4, none, 7, 170)
abbrev mX10_read : mR := (yX10_read, cX10_read, 2, (some .int), 8, 193)
abbrev mX10_place : mR := (yX10_place, cX10_place, 1, (some .int), 0, 0)
abbrev mX10_sequence : mR := (yX10_sequence, cX10_sequence, 3, (some .int), 1, 22)
abbrev mX10_letter : mR := (yX10_letter, cX10_letter, 3, (some .int), 1, 22)
abbrev mX10_table : mR := (yX10_table, cX10_table, 3, (some .int), 1, 22)
abbrev mX10_isRecord : mR := (yX10_isRecord, cX10_isRecord, 3, (some .boolean), 1, 22)
abbrev mX10_record : mR := (yX10_record, cX10_record, 5, (some .int), 2, 44)
abbrev mX10_row : mR := (yX10_row, cX10_row, 6, (some .int), 2, 44)
abbrev mX10_call : mR := (yX10_call, cX10_call, 6, (some .int), 2, 44)
abbrev mX10_lastOf : mR := (yX10_lastOf, cX10_lastOf, 3, (some .int), 0, 0)
abbrev mX10_endAlike : mR := (yX10_endAlike, cX10_endAlike, 4, (some .boolean), 1, 22)
abbrev mX10_beginAlike : mR := (yX10_beginAlike, cX10_beginAlike, 4, (some .boolean), 0, 0)
abbrev mX10_allLong : mR := (yX10_allLong, cX10_allLong, 4, (some .boolean), 0, 0)
abbrev mX10_toFront : mR := (yX10_toFront, cX10_toFront, 6, none, 0, 0)
abbrev mX10_fromFront : mR := (yX10_fromFront, cX10_fromFront, 5, none, 0, 0)
abbrev mX10_makeNormal : mR := (yX10_makeNormal, cX10_makeNormal, 4, (some .boolean), 2, 45)
abbrev mX10_normalise : mR := (yX10_normalise, cX10_normalise, 5, (some .int), 3, 68)
abbrev mX10_split : mR := (yX10_split, cX10_split, 10, (some .int), 2, 49)
abbrev mX10_longer : mR := (yX10_longer, cX10_longer, 9, none, 0, 0)
abbrev mX10_tryJoin : mR := (yX10_tryJoin, cX10_tryJoin, 8, (some .boolean), 2, 54)
abbrev mX10_callAt : mR := (yX10_callAt, cX10_callAt, 4, (some .int), 0, 0)
abbrev mX10_joinCalls : mR := (yX10_joinCalls, cX10_joinCalls, 12, none, 1, 23)
abbrev mX10_join : mR := (yX10_join, cX10_join, 7, (some .int), 3, 81)
abbrev mX10_isBefore : mR := (yX10_isBefore, cX10_isBefore, 3, (some .boolean), 0, 0)
abbrev mX10_rank : mR := (yX10_rank, cX10_rank, 7, (some .int), 1, 22)
abbrev mX10_sortInto : mR := (yX10_sortInto, cX10_sortInto, 6, (some .int), 2, 49)
abbrev mX10_sort : mR := (yX10_sort, cX10_sort, 4, (some .int), 3, 74)
abbrev mX10_sameRecord : mR := (yX10_sameRecord, cX10_sameRecord, 5, (some .boolean), 1, 26)
abbrev mX10_merge : mR := (yX10_merge, cX10_merge, 6, (some .int), 3, 74)
abbrev mX10_add : mR := (yX10_add, cX10_add, 3, none, 0, 0)
abbrev mX10_addRow : mR := (yX10_addRow, cX10_addRow, 5, (some .int), 1, 22)
abbrev mX10_nextCalled : mR := (yX10_nextCalled, cX10_nextCalled, 10, (some .int), 1, 23)
abbrev mX10_calledMany : mR := (yX10_calledMany, cX10_calledMany, 8, (some .int), 1, 23)
abbrev mX10_apply : mR := (yX10_apply, cX10_apply, 9, (some .int), 2, 52)
abbrev mX10_carried : mR := (yX10_carried, cX10_carried, 2, (some .int), 1, 22)
abbrev mX10_back : mR := (yX10_back, cX10_back, 2, (some .int), 1, 22)
abbrev mX10_lengthWith : mR := (yX10_lengthWith, cX10_lengthWith, 2, (some .int), 0, 0)
abbrev mX10_letterWith : mR := (yX10_letterWith, cX10_letterWith, 5, (some .int), 1, 22)
abbrev mX10_same : mR := (yX10_same, cX10_same, 9, (some .boolean), 2, 46)
abbrev mX10_put : mR := (yX10_put, cX10_put, 2, none, 0, 0)
abbrev mX10_putText : mR := (yX10_putText, cX10_putText, 3, none, 2, 42)
abbrev mX10_putNumber : mR := (yX10_putNumber, cX10_putNumber, 3, none, 1, 21)
abbrev mX10_putRow : mR := (yX10_putRow, cX10_putRow, 4, none, 1, 21)
abbrev mX10_putCall : mR := (yX10_putCall, cX10_putCall, 2, none, 1, 21)
abbrev mX10_putRecord : mR := (yX10_putRecord, cX10_putRecord, 4, none, 3, 64)
abbrev mX10_write : mR := (yX10_write, cX10_write, 4, (some .int), 4, 87)
abbrev mX10_out : mR := (yX10_out, cX10_out, 2, (some .int), 1, 22)
abbrev mX10_again : mR := (yX10_again, cX10_again, 2, (some .int), 0, 0)
abbrev mJ9_max_7cf53 : mR := (yJ9_max_7cf53, cJ9_max_7cf53, 2, (some .int), 0, 0)
abbrev mJ9_min_7cf53 : mR := (yJ9_min_7cf53, cJ9_min_7cf53, 2, (some .int), 0, 0)
abbrev mJ0_length_8abf5 : mR := (yJ0_length_8abf5, cJ0_length_8abf5, 1, (some .int), 1, 20)
abbrev mJ0_charAt_5068e : mR := (yJ0_charAt_5068e, cJ0_charAt_5068e, 2, (some .char), 4, 85)
abbrev mJ0_coder_7d493 : mR := (yJ0_coder_7d493, cJ0_coder_7d493, 1, (some .byte), 0, 0)
abbrev mJ0_isLatin1_aae02 : mR := (yJ0_isLatin1_aae02, cJ0_isLatin1_aae02, 1, (some .boolean), 0, 0)
abbrev mJ0_checkIndex_df160 : mR := (yJ0_checkIndex_df160, cJ0_checkIndex_df160, 2, none, 1, 22)
abbrev mJ1_charAt_3b067 : mR := (yJ1_charAt_3b067, cJ1_charAt_3b067, 2, (some .char), 2, 43)
abbrev mJ2_getChar_3b067 : mR := (yJ2_getChar_3b067, cJ2_getChar_3b067, 2, (some .char), 1, 20)
abbrev mJ2_length_9d52b : mR := (yJ2_length_9d52b, cJ2_length_9d52b, 1, (some .int), 0, 0)
abbrev mJ2_charAt_3b067 : mR := (yJ2_charAt_3b067, cJ2_charAt_3b067, 2, (some .char), 3, 64)
abbrev mJ2_checkIndex_2214a : mR := (yJ2_checkIndex_2214a, cJ2_checkIndex_2214a, 2, none, 2, 43)
abbrev mJ3_checkIndex_8e157 : mR := (yJ3_checkIndex_8e157, cJ3_checkIndex_8e157, 3, (some .int), 0, 0)
abbrev mL_feed : mR := (yL_feed, cL_feed, 6, (some .int), 7, 120)
abbrev mL_read : mR := (yL_read, cL_read, 4, (some .int), 12, 272)
abbrev mL_sequence : mR := (yL_sequence, cL_sequence, 5, (some .int), 8, 139)
abbrev mL_letter : mR := (yL_letter, cL_letter, 5, (some .int), 8, 140)
abbrev mL_table : mR := (yL_table, cL_table, 5, (some .int), 8, 140)
abbrev mL_record : mR := (yL_record, cL_record, 6, (some .int), 9, 164)
abbrev mL_row : mR := (yL_row, cL_row, 7, (some .int), 9, 165)
abbrev mL_call : mR := (yL_call, cL_call, 7, (some .int), 9, 165)
abbrev mL_normalise : mR := (yL_normalise, cL_normalise, 4, (some .int), 8, 163)
abbrev mL_split : mR := (yL_split, cL_split, 4, (some .int), 8, 183)
abbrev mL_join : mR := (yL_join, cL_join, 4, (some .int), 8, 164)
abbrev mL_sort : mR := (yL_sort, cL_sort, 4, (some .int), 8, 138)
abbrev mL_apply : mR := (yL_apply, cL_apply, 7, (some .int), 9, 164)
abbrev mL_same : mR := (yL_same, cL_same, 7, (some .int), 9, 166)
abbrev mL_write : mR := (yL_write, cL_write, 4, (some .int), 9, 198)
theorem fX6_9 : fLb RX6 9 6 0 false = true := fLb_of (q := (RX6, TX6, 3)) rfl (by decide) (mem_at (j := 158) (by decide +kernel))
theorem fX6_15 : fLb RX6 15 6 1 false = true := fLb_of (q := (RX6, TX6, 3)) rfl (by decide) (mem_at (j := 159) (by decide +kernel))
theorem fX6_19 : fLb RX6 19 6 2 false = true := fLb_of (q := (RX6, TX6, 3)) rfl (by decide) (mem_at (j := 164) (by decide +kernel))
theorem fX5_15 : fLb RX5 15 5 0 false = true := fLb_of (q := (RX5, TX5, 4)) rfl (by decide) (mem_at (j := 189) (by decide +kernel))
theorem fX5_21 : fLb RX5 21 5 1 false = true := fLb_of (q := (RX5, TX5, 4)) rfl (by decide) (mem_at (j := 190) (by decide +kernel))
theorem fX5_25 : fLb RX5 25 5 2 false = true := fLb_of (q := (RX5, TX5, 4)) rfl (by decide) (mem_at (j := 191) (by decide +kernel))
theorem fX5_28 : fLb RX5 28 5 3 false = true := fLb_of (q := (RX5, TX5, 4)) rfl (by decide) (mem_at (j := 192) (by decide +kernel))
theorem fX1_14 : fLb RX1 14 1 0 false = true := fLb_of (q := (RX1, TX1, 8)) rfl (by decide) (mem_at (j := 205) (by decide +kernel))
theorem fX1_20 : fLb RX1 20 1 1 false = true := fLb_of (q := (RX1, TX1, 8)) rfl (by decide) (mem_at (j := 210) (by decide +kernel))
theorem fX1_24 : fLb RX1 24 1 2 false = true := fLb_of (q := (RX1, TX1, 8)) rfl (by decide) (mem_at (j := 211) (by decide +kernel))
theorem fX1_27 : fLb RX1 27 1 3 false = true := fLb_of (q := (RX1, TX1, 8)) rfl (by decide) (mem_at (j := 212) (by decide +kernel))
theorem fX1_30 : fLb RX1 30 1 4 false = true := fLb_of (q := (RX1, TX1, 8)) rfl (by decide) (mem_at (j := 214) (by decide +kernel))
theorem fX1_33 : fLb RX1 33 1 5 false = true := fLb_of (q := (RX1, TX1, 8)) rfl (by decide) (mem_at (j := 216) (by decide +kernel))
theorem fX1_39 : fLb RX1 39 1 6 false = true := fLb_of (q := (RX1, TX1, 8)) rfl (by decide) (mem_at (j := 218) (by decide +kernel))
theorem fX1_43 : fLb RX1 43 1 7 false = true := fLb_of (q := (RX1, TX1, 8)) rfl (by decide) (mem_at (j := 221) (by decide +kernel))
theorem fX0_9 : fLb RX0 9 0 0 false = true := fLb_of (q := (RX0, TX0, 14)) rfl (by decide) (mem_at (j := 256) (by decide +kernel))
theorem fX0_15 : fLb RX0 15 0 1 false = true := fLb_of (q := (RX0, TX0, 14)) rfl (by decide) (mem_at (j := 257) (by decide +kernel))
theorem fX0_18 : fLb RX0 18 0 2 false = true := fLb_of (q := (RX0, TX0, 14)) rfl (by decide) (mem_at (j := 258) (by decide +kernel))
theorem fX0_21 : fLb RX0 21 0 3 false = true := fLb_of (q := (RX0, TX0, 14)) rfl (by decide) (mem_at (j := 263) (by decide +kernel))
theorem fX0_24 : fLb RX0 24 0 4 false = true := fLb_of (q := (RX0, TX0, 14)) rfl (by decide) (mem_at (j := 264) (by decide +kernel))
theorem fX0_27 : fLb RX0 27 0 5 false = true := fLb_of (q := (RX0, TX0, 14)) rfl (by decide) (mem_at (j := 268) (by decide +kernel))
theorem fX0_49 : fLb RX0 49 0 6 false = true := fLb_of (q := (RX0, TX0, 14)) rfl (by decide) (mem_at (j := 272) (by decide +kernel))
theorem fX0_52 : fLb RX0 52 0 7 false = true := fLb_of (q := (RX0, TX0, 14)) rfl (by decide) (mem_at (j := 276) (by decide +kernel))
theorem fX0_41 : fLb RX0 41 0 8 false = true := fLb_of (q := (RX0, TX0, 14)) rfl (by decide) (mem_at (j := 280) (by decide +kernel))
theorem fX0_55 : fLb RX0 55 0 9 false = true := fLb_of (q := (RX0, TX0, 14)) rfl (by decide) (mem_at (j := 285) (by decide +kernel))
theorem fX0_58 : fLb RX0 58 0 10 false = true := fLb_of (q := (RX0, TX0, 14)) rfl (by decide) (mem_at (j := 288) (by decide +kernel))
theorem fX0_62 : fLb RX0 62 0 11 false = true := fLb_of (q := (RX0, TX0, 14)) rfl (by decide) (mem_at (j := 291) (by decide +kernel))
theorem fX7_11 : fLb RX7 11 7 0 false = true := fLb_of (q := (RX7, TX7, 3)) rfl (by decide) (mem_at (j := 326) (by decide +kernel))
theorem fX7_22 : fLb RX7 22 7 1 false = true := fLb_of (q := (RX7, TX7, 3)) rfl (by decide) (mem_at (j := 330) (by decide +kernel))
theorem fX7_27 : fLb RX7 27 7 2 false = true := fLb_of (q := (RX7, TX7, 3)) rfl (by decide) (mem_at (j := 333) (by decide +kernel))
theorem fX4_12 : fLb RX4 12 4 0 false = true := fLb_of (q := (RX4, TX4, 3)) rfl (by decide) (mem_at (j := 352) (by decide +kernel))
theorem fX4_18 : fLb RX4 18 4 1 false = true := fLb_of (q := (RX4, TX4, 3)) rfl (by decide) (mem_at (j := 353) (by decide +kernel))
theorem fX4_21 : fLb RX4 21 4 2 false = true := fLb_of (q := (RX4, TX4, 3)) rfl (by decide) (mem_at (j := 354) (by decide +kernel))
theorem fX3_9 : fLb RX3 9 3 0 false = true := fLb_of (q := (RX3, TX3, 9)) rfl (by decide) (mem_at (j := 368) (by decide +kernel))
theorem fX3_15 : fLb RX3 15 3 1 false = true := fLb_of (q := (RX3, TX3, 9)) rfl (by decide) (mem_at (j := 369) (by decide +kernel))
theorem fX3_18 : fLb RX3 18 3 2 false = true := fLb_of (q := (RX3, TX3, 9)) rfl (by decide) (mem_at (j := 370) (by decide +kernel))
theorem fX3_21 : fLb RX3 21 3 3 false = true := fLb_of (q := (RX3, TX3, 9)) rfl (by decide) (mem_at (j := 371) (by decide +kernel))
theorem fX3_24 : fLb RX3 24 3 4 false = true := fLb_of (q := (RX3, TX3, 9)) rfl (by decide) (mem_at (j := 372) (by decide +kernel))
theorem fX3_37 : fLb RX3 37 3 5 false = true := fLb_of (q := (RX3, TX3, 9)) rfl (by decide) (mem_at (j := 373) (by decide +kernel))
theorem fX3_27 : fLb RX3 27 3 6 false = true := fLb_of (q := (RX3, TX3, 9)) rfl (by decide) (mem_at (j := 374) (by decide +kernel))
theorem fX3_31 : fLb RX3 31 3 7 false = true := fLb_of (q := (RX3, TX3, 9)) rfl (by decide) (mem_at (j := 375) (by decide +kernel))
theorem fX3_34 : fLb RX3 34 3 8 false = true := fLb_of (q := (RX3, TX3, 9)) rfl (by decide) (mem_at (j := 376) (by decide +kernel))
theorem fX9_10 : fLb RX9 10 9 0 false = true := fLb_of (q := (RX9, TX9, 10)) rfl (by decide) (mem_at (j := 396) (by decide +kernel))
theorem fX9_34 : fLb RX9 34 9 1 false = true := fLb_of (q := (RX9, TX9, 10)) rfl (by decide) (mem_at (j := 397) (by decide +kernel))
theorem fX9_46 : fLb RX9 46 9 2 false = true := fLb_of (q := (RX9, TX9, 10)) rfl (by decide) (mem_at (j := 398) (by decide +kernel))
theorem fX9_53 : fLb RX9 53 9 3 false = true := fLb_of (q := (RX9, TX9, 10)) rfl (by decide) (mem_at (j := 399) (by decide +kernel))
theorem fX9_16 : fLb RX9 16 9 4 false = true := fLb_of (q := (RX9, TX9, 10)) rfl (by decide) (mem_at (j := 400) (by decide +kernel))
theorem fX9_19 : fLb RX9 19 9 5 false = true := fLb_of (q := (RX9, TX9, 10)) rfl (by decide) (mem_at (j := 401) (by decide +kernel))
theorem fX9_25 : fLb RX9 25 9 6 false = true := fLb_of (q := (RX9, TX9, 10)) rfl (by decide) (mem_at (j := 402) (by decide +kernel))
theorem fX9_29 : fLb RX9 29 9 7 false = true := fLb_of (q := (RX9, TX9, 10)) rfl (by decide) (mem_at (j := 403) (by decide +kernel))
theorem fX9_39 : fLb RX9 39 9 8 false = true := fLb_of (q := (RX9, TX9, 10)) rfl (by decide) (mem_at (j := 404) (by decide +kernel))
theorem fX9_57 : fLb RX9 57 9 9 false = true := fLb_of (q := (RX9, TX9, 10)) rfl (by decide) (mem_at (j := 405) (by decide +kernel))
theorem fX2_9 : fLb RX2 9 2 0 false = true := fLb_of (q := (RX2, TX2, 11)) rfl (by decide) (mem_at (j := 437) (by decide +kernel))
theorem fX2_15 : fLb RX2 15 2 1 false = true := fLb_of (q := (RX2, TX2, 11)) rfl (by decide) (mem_at (j := 438) (by decide +kernel))
theorem fX2_19 : fLb RX2 19 2 2 false = true := fLb_of (q := (RX2, TX2, 11)) rfl (by decide) (mem_at (j := 439) (by decide +kernel))
theorem fX2_33 : fLb RX2 33 2 3 false = true := fLb_of (q := (RX2, TX2, 11)) rfl (by decide) (mem_at (j := 440) (by decide +kernel))
theorem fX2_80 : fLb RX2 80 2 4 false = true := fLb_of (q := (RX2, TX2, 11)) rfl (by decide) (mem_at (j := 441) (by decide +kernel))
theorem fX2_83 : fLb RX2 83 2 5 false = true := fLb_of (q := (RX2, TX2, 11)) rfl (by decide) (mem_at (j := 442) (by decide +kernel))
theorem fX2_106 : fLb RX2 106 2 6 false = true := fLb_of (q := (RX2, TX2, 11)) rfl (by decide) (mem_at (j := 443) (by decide +kernel))
theorem fX2_109 : fLb RX2 109 2 7 false = true := fLb_of (q := (RX2, TX2, 11)) rfl (by decide) (mem_at (j := 444) (by decide +kernel))
theorem fX2_112 : fLb RX2 112 2 8 false = true := fLb_of (q := (RX2, TX2, 11)) rfl (by decide) (mem_at (j := 445) (by decide +kernel))
theorem fX2_46 : fLb RX2 46 2 9 false = true := fLb_of (q := (RX2, TX2, 11)) rfl (by decide) (mem_at (j := 446) (by decide +kernel))
theorem fX2_49 : fLb RX2 49 2 10 false = true := fLb_of (q := (RX2, TX2, 11)) rfl (by decide) (mem_at (j := 448) (by decide +kernel))
theorem fX8_9 : fLb RX8 9 8 0 false = true := fLb_of (q := (RX8, TX8, 10)) rfl (by decide) (mem_at (j := 806) (by decide +kernel))
theorem fX8_15 : fLb RX8 15 8 1 false = true := fLb_of (q := (RX8, TX8, 10)) rfl (by decide) (mem_at (j := 807) (by decide +kernel))
theorem fX8_19 : fLb RX8 19 8 2 false = true := fLb_of (q := (RX8, TX8, 10)) rfl (by decide) (mem_at (j := 808) (by decide +kernel))
theorem fX8_23 : fLb RX8 23 8 3 false = true := fLb_of (q := (RX8, TX8, 10)) rfl (by decide) (mem_at (j := 809) (by decide +kernel))
theorem fX8_54 : fLb RX8 54 8 4 false = true := fLb_of (q := (RX8, TX8, 10)) rfl (by decide) (mem_at (j := 810) (by decide +kernel))
theorem fX8_86 : fLb RX8 86 8 5 false = true := fLb_of (q := (RX8, TX8, 10)) rfl (by decide) (mem_at (j := 811) (by decide +kernel))
theorem fX8_43 : fLb RX8 43 8 6 false = true := fLb_of (q := (RX8, TX8, 10)) rfl (by decide) (mem_at (j := 812) (by decide +kernel))
theorem fX8_39 : fLb RX8 39 8 7 false = true := fLb_of (q := (RX8, TX8, 10)) rfl (by decide) (mem_at (j := 813) (by decide +kernel))
theorem fX8_76 : fLb RX8 76 8 8 false = true := fLb_of (q := (RX8, TX8, 10)) rfl (by decide) (mem_at (j := 814) (by decide +kernel))
theorem fX8_79 : fLb RX8 79 8 9 false = true := fLb_of (q := (RX8, TX8, 10)) rfl (by decide) (mem_at (j := 816) (by decide +kernel))
theorem fX10_133 : fLb RX10 133 10 0 false = true := fLb_of (q := (RX10, TX10, 53)) rfl (by decide) (mem_at (j := 1400) (by decide +kernel))
theorem fX10_7 : fLb RX10 7 10 1 false = true := fLb_of (q := (RX10, TX10, 53)) rfl (by decide) (mem_at (j := 1401) (by decide +kernel))
theorem fX10_140 : fLb RX10 140 10 2 false = true := fLb_of (q := (RX10, TX10, 53)) rfl (by decide) (mem_at (j := 1402) (by decide +kernel))
theorem fX10_13 : fLb RX10 13 10 3 false = true := fLb_of (q := (RX10, TX10, 53)) rfl (by decide) (mem_at (j := 1403) (by decide +kernel))
theorem fX10_183 : fLb RX10 183 10 4 false = true := fLb_of (q := (RX10, TX10, 53)) rfl (by decide) (mem_at (j := 1404) (by decide +kernel))
theorem fX10_17 : fLb RX10 17 10 5 false = true := fLb_of (q := (RX10, TX10, 53)) rfl (by decide) (mem_at (j := 1405) (by decide +kernel))
theorem fX10_20 : fLb RX10 20 10 6 false = true := fLb_of (q := (RX10, TX10, 53)) rfl (by decide) (mem_at (j := 1406) (by decide +kernel))
theorem fX10_24 : fLb RX10 24 10 7 false = true := fLb_of (q := (RX10, TX10, 53)) rfl (by decide) (mem_at (j := 1407) (by decide +kernel))
theorem fX10_27 : fLb RX10 27 10 8 false = true := fLb_of (q := (RX10, TX10, 53)) rfl (by decide) (mem_at (j := 1408) (by decide +kernel))
theorem fX10_30 : fLb RX10 30 10 9 false = true := fLb_of (q := (RX10, TX10, 53)) rfl (by decide) (mem_at (j := 1409) (by decide +kernel))
theorem fX10_33 : fLb RX10 33 10 10 false = true := fLb_of (q := (RX10, TX10, 53)) rfl (by decide) (mem_at (j := 1410) (by decide +kernel))
theorem fX10_36 : fLb RX10 36 10 11 false = true := fLb_of (q := (RX10, TX10, 53)) rfl (by decide) (mem_at (j := 1411) (by decide +kernel))
theorem fX10_153 : fLb RX10 153 10 12 false = true := fLb_of (q := (RX10, TX10, 53)) rfl (by decide) (mem_at (j := 1412) (by decide +kernel))
theorem fX10_39 : fLb RX10 39 10 13 false = true := fLb_of (q := (RX10, TX10, 53)) rfl (by decide) (mem_at (j := 1413) (by decide +kernel))
theorem fX10_42 : fLb RX10 42 10 14 false = true := fLb_of (q := (RX10, TX10, 53)) rfl (by decide) (mem_at (j := 1414) (by decide +kernel))
theorem fX10_45 : fLb RX10 45 10 15 false = true := fLb_of (q := (RX10, TX10, 53)) rfl (by decide) (mem_at (j := 1415) (by decide +kernel))
theorem fX10_48 : fLb RX10 48 10 16 false = true := fLb_of (q := (RX10, TX10, 53)) rfl (by decide) (mem_at (j := 1416) (by decide +kernel))
theorem fX10_51 : fLb RX10 51 10 17 false = true := fLb_of (q := (RX10, TX10, 53)) rfl (by decide) (mem_at (j := 1417) (by decide +kernel))
theorem fX10_54 : fLb RX10 54 10 18 false = true := fLb_of (q := (RX10, TX10, 53)) rfl (by decide) (mem_at (j := 1418) (by decide +kernel))
theorem fX10_57 : fLb RX10 57 10 19 false = true := fLb_of (q := (RX10, TX10, 53)) rfl (by decide) (mem_at (j := 1419) (by decide +kernel))
theorem fX10_60 : fLb RX10 60 10 20 false = true := fLb_of (q := (RX10, TX10, 53)) rfl (by decide) (mem_at (j := 1420) (by decide +kernel))
theorem fX10_63 : fLb RX10 63 10 21 false = true := fLb_of (q := (RX10, TX10, 53)) rfl (by decide) (mem_at (j := 1421) (by decide +kernel))
theorem fX10_66 : fLb RX10 66 10 22 false = true := fLb_of (q := (RX10, TX10, 53)) rfl (by decide) (mem_at (j := 1422) (by decide +kernel))
theorem fX10_69 : fLb RX10 69 10 23 false = true := fLb_of (q := (RX10, TX10, 53)) rfl (by decide) (mem_at (j := 1423) (by decide +kernel))
theorem fX10_72 : fLb RX10 72 10 24 false = true := fLb_of (q := (RX10, TX10, 53)) rfl (by decide) (mem_at (j := 1424) (by decide +kernel))
theorem fX10_75 : fLb RX10 75 10 25 false = true := fLb_of (q := (RX10, TX10, 53)) rfl (by decide) (mem_at (j := 1425) (by decide +kernel))
theorem fX10_78 : fLb RX10 78 10 26 false = true := fLb_of (q := (RX10, TX10, 53)) rfl (by decide) (mem_at (j := 1426) (by decide +kernel))
theorem fX10_81 : fLb RX10 81 10 27 false = true := fLb_of (q := (RX10, TX10, 53)) rfl (by decide) (mem_at (j := 1427) (by decide +kernel))
theorem fX10_84 : fLb RX10 84 10 28 false = true := fLb_of (q := (RX10, TX10, 53)) rfl (by decide) (mem_at (j := 1428) (by decide +kernel))
theorem fX10_87 : fLb RX10 87 10 29 false = true := fLb_of (q := (RX10, TX10, 53)) rfl (by decide) (mem_at (j := 1429) (by decide +kernel))
theorem fX10_90 : fLb RX10 90 10 30 false = true := fLb_of (q := (RX10, TX10, 53)) rfl (by decide) (mem_at (j := 1430) (by decide +kernel))
theorem fX10_93 : fLb RX10 93 10 31 false = true := fLb_of (q := (RX10, TX10, 53)) rfl (by decide) (mem_at (j := 1431) (by decide +kernel))
theorem fX10_96 : fLb RX10 96 10 32 false = true := fLb_of (q := (RX10, TX10, 53)) rfl (by decide) (mem_at (j := 1432) (by decide +kernel))
theorem fX10_100 : fLb RX10 100 10 33 false = true := fLb_of (q := (RX10, TX10, 53)) rfl (by decide) (mem_at (j := 1433) (by decide +kernel))
theorem fX10_103 : fLb RX10 103 10 34 false = true := fLb_of (q := (RX10, TX10, 53)) rfl (by decide) (mem_at (j := 1434) (by decide +kernel))
theorem fX10_106 : fLb RX10 106 10 35 false = true := fLb_of (q := (RX10, TX10, 53)) rfl (by decide) (mem_at (j := 1435) (by decide +kernel))
theorem fX10_109 : fLb RX10 109 10 36 false = true := fLb_of (q := (RX10, TX10, 53)) rfl (by decide) (mem_at (j := 1436) (by decide +kernel))
theorem fX10_382 : fLb RX10 382 10 37 false = true := fLb_of (q := (RX10, TX10, 53)) rfl (by decide) (mem_at (j := 1437) (by decide +kernel))
theorem fX10_186 : fLb RX10 186 10 38 false = true := fLb_of (q := (RX10, TX10, 53)) rfl (by decide) (mem_at (j := 1438) (by decide +kernel))
theorem fX10_376 : fLb RX10 376 10 39 false = true := fLb_of (q := (RX10, TX10, 53)) rfl (by decide) (mem_at (j := 1439) (by decide +kernel))
theorem fX10_379 : fLb RX10 379 10 40 false = true := fLb_of (q := (RX10, TX10, 53)) rfl (by decide) (mem_at (j := 1440) (by decide +kernel))
theorem fX10_112 : fLb RX10 112 10 41 false = true := fLb_of (q := (RX10, TX10, 53)) rfl (by decide) (mem_at (j := 1441) (by decide +kernel))
theorem fX10_115 : fLb RX10 115 10 42 false = true := fLb_of (q := (RX10, TX10, 53)) rfl (by decide) (mem_at (j := 1442) (by decide +kernel))
theorem fX10_147 : fLb RX10 147 10 43 false = true := fLb_of (q := (RX10, TX10, 53)) rfl (by decide) (mem_at (j := 1443) (by decide +kernel))
theorem fX10_150 : fLb RX10 150 10 44 false = true := fLb_of (q := (RX10, TX10, 53)) rfl (by decide) (mem_at (j := 1444) (by decide +kernel))
theorem fX10_171 : fLb RX10 171 10 45 false = true := fLb_of (q := (RX10, TX10, 53)) rfl (by decide) (mem_at (j := 1445) (by decide +kernel))
theorem fX10_118 : fLb RX10 118 10 46 false = true := fLb_of (q := (RX10, TX10, 53)) rfl (by decide) (mem_at (j := 1446) (by decide +kernel))
theorem fX10_121 : fLb RX10 121 10 47 false = true := fLb_of (q := (RX10, TX10, 53)) rfl (by decide) (mem_at (j := 1447) (by decide +kernel))
theorem fX10_124 : fLb RX10 124 10 48 false = true := fLb_of (q := (RX10, TX10, 53)) rfl (by decide) (mem_at (j := 1448) (by decide +kernel))
theorem fX10_127 : fLb RX10 127 10 49 false = true := fLb_of (q := (RX10, TX10, 53)) rfl (by decide) (mem_at (j := 1449) (by decide +kernel))
theorem fX10_130 : fLb RX10 130 10 50 false = true := fLb_of (q := (RX10, TX10, 53)) rfl (by decide) (mem_at (j := 1450) (by decide +kernel))
theorem fX10_359 : fLb RX10 359 10 51 false = true := fLb_of (q := (RX10, TX10, 53)) rfl (by decide) (mem_at (j := 1451) (by decide +kernel))
theorem fX10_391 : fLb RX10 391 10 52 false = true := fLb_of (q := (RX10, TX10, 53)) rfl (by decide) (mem_at (j := 1452) (by decide +kernel))
theorem fX2_28 : fLb RX2 28 6 1 true = true := fLb_of (q := (RX6, TX6, 3)) rfl (by decide) (mem_at (j := 160) (by decide +kernel))
theorem fX9_68 : fLb RX9 68 6 1 true = true := fLb_of (q := (RX6, TX6, 3)) rfl (by decide) (mem_at (j := 161) (by decide +kernel))
theorem fX8_46 : fLb RX8 46 6 1 true = true := fLb_of (q := (RX6, TX6, 3)) rfl (by decide) (mem_at (j := 162) (by decide +kernel))
theorem fX3_77 : fLb RX3 77 6 1 true = true := fLb_of (q := (RX6, TX6, 3)) rfl (by decide) (mem_at (j := 163) (by decide +kernel))
theorem fX9_263 : fLb RX9 263 6 2 true = true := fLb_of (q := (RX6, TX6, 3)) rfl (by decide) (mem_at (j := 165) (by decide +kernel))
theorem fX7_34 : fLb RX7 34 5 3 true = true := fLb_of (q := (RX5, TX5, 4)) rfl (by decide) (mem_at (j := 193) (by decide +kernel))
theorem fX9_153 : fLb RX9 153 5 3 true = true := fLb_of (q := (RX5, TX5, 4)) rfl (by decide) (mem_at (j := 194) (by decide +kernel))
theorem fX8_169 : fLb RX8 169 5 3 true = true := fLb_of (q := (RX5, TX5, 4)) rfl (by decide) (mem_at (j := 195) (by decide +kernel))
theorem fX9_126 : fLb RX9 126 1 0 true = true := fLb_of (q := (RX1, TX1, 8)) rfl (by decide) (mem_at (j := 206) (by decide +kernel))
theorem fX2_89 : fLb RX2 89 1 0 true = true := fLb_of (q := (RX1, TX1, 8)) rfl (by decide) (mem_at (j := 207) (by decide +kernel))
theorem fX8_174 : fLb RX8 174 1 0 true = true := fLb_of (q := (RX1, TX1, 8)) rfl (by decide) (mem_at (j := 208) (by decide +kernel))
theorem fX0_142 : fLb RX0 142 1 0 true = true := fLb_of (q := (RX1, TX1, 8)) rfl (by decide) (mem_at (j := 209) (by decide +kernel))
theorem fX9_117 : fLb RX9 117 1 3 true = true := fLb_of (q := (RX1, TX1, 8)) rfl (by decide) (mem_at (j := 213) (by decide +kernel))
theorem fX9_123 : fLb RX9 123 1 4 true = true := fLb_of (q := (RX1, TX1, 8)) rfl (by decide) (mem_at (j := 215) (by decide +kernel))
theorem fX9_120 : fLb RX9 120 1 5 true = true := fLb_of (q := (RX1, TX1, 8)) rfl (by decide) (mem_at (j := 217) (by decide +kernel))
theorem fX9_95 : fLb RX9 95 1 6 true = true := fLb_of (q := (RX1, TX1, 8)) rfl (by decide) (mem_at (j := 219) (by decide +kernel))
theorem fX2_74 : fLb RX2 74 1 6 true = true := fLb_of (q := (RX1, TX1, 8)) rfl (by decide) (mem_at (j := 220) (by decide +kernel))
theorem fX2_121 : fLb RX2 121 1 7 true = true := fLb_of (q := (RX1, TX1, 8)) rfl (by decide) (mem_at (j := 222) (by decide +kernel))
theorem fX4_33 : fLb RX4 33 0 2 true = true := fLb_of (q := (RX0, TX0, 14)) rfl (by decide) (mem_at (j := 259) (by decide +kernel))
theorem fX3_68 : fLb RX3 68 0 2 true = true := fLb_of (q := (RX0, TX0, 14)) rfl (by decide) (mem_at (j := 260) (by decide +kernel))
theorem fX9_183 : fLb RX9 183 0 2 true = true := fLb_of (q := (RX0, TX0, 14)) rfl (by decide) (mem_at (j := 261) (by decide +kernel))
theorem fX8_198 : fLb RX8 198 0 2 true = true := fLb_of (q := (RX0, TX0, 14)) rfl (by decide) (mem_at (j := 262) (by decide +kernel))
theorem fX4_72 : fLb RX4 72 0 4 true = true := fLb_of (q := (RX0, TX0, 14)) rfl (by decide) (mem_at (j := 265) (by decide +kernel))
theorem fX9_194 : fLb RX9 194 0 4 true = true := fLb_of (q := (RX0, TX0, 14)) rfl (by decide) (mem_at (j := 266) (by decide +kernel))
theorem fX8_243 : fLb RX8 243 0 4 true = true := fLb_of (q := (RX0, TX0, 14)) rfl (by decide) (mem_at (j := 267) (by decide +kernel))
theorem fX4_88 : fLb RX4 88 0 5 true = true := fLb_of (q := (RX0, TX0, 14)) rfl (by decide) (mem_at (j := 269) (by decide +kernel))
theorem fX9_197 : fLb RX9 197 0 5 true = true := fLb_of (q := (RX0, TX0, 14)) rfl (by decide) (mem_at (j := 270) (by decide +kernel))
theorem fX8_246 : fLb RX8 246 0 5 true = true := fLb_of (q := (RX0, TX0, 14)) rfl (by decide) (mem_at (j := 271) (by decide +kernel))
theorem fX3_48 : fLb RX3 48 0 6 true = true := fLb_of (q := (RX0, TX0, 14)) rfl (by decide) (mem_at (j := 273) (by decide +kernel))
theorem fX9_158 : fLb RX9 158 0 6 true = true := fLb_of (q := (RX0, TX0, 14)) rfl (by decide) (mem_at (j := 274) (by decide +kernel))
theorem fX8_177 : fLb RX8 177 0 6 true = true := fLb_of (q := (RX0, TX0, 14)) rfl (by decide) (mem_at (j := 275) (by decide +kernel))
theorem fX3_65 : fLb RX3 65 0 7 true = true := fLb_of (q := (RX0, TX0, 14)) rfl (by decide) (mem_at (j := 277) (by decide +kernel))
theorem fX9_163 : fLb RX9 163 0 7 true = true := fLb_of (q := (RX0, TX0, 14)) rfl (by decide) (mem_at (j := 278) (by decide +kernel))
theorem fX8_189 : fLb RX8 189 0 7 true = true := fLb_of (q := (RX0, TX0, 14)) rfl (by decide) (mem_at (j := 279) (by decide +kernel))
theorem fX4_60 : fLb RX4 60 0 8 true = true := fLb_of (q := (RX0, TX0, 14)) rfl (by decide) (mem_at (j := 281) (by decide +kernel))
theorem fX7_41 : fLb RX7 41 0 8 true = true := fLb_of (q := (RX0, TX0, 14)) rfl (by decide) (mem_at (j := 282) (by decide +kernel))
theorem fX9_166 : fLb RX9 166 0 8 true = true := fLb_of (q := (RX0, TX0, 14)) rfl (by decide) (mem_at (j := 283) (by decide +kernel))
theorem fX8_208 : fLb RX8 208 0 8 true = true := fLb_of (q := (RX0, TX0, 14)) rfl (by decide) (mem_at (j := 284) (by decide +kernel))
theorem fX9_169 : fLb RX9 169 0 9 true = true := fLb_of (q := (RX0, TX0, 14)) rfl (by decide) (mem_at (j := 286) (by decide +kernel))
theorem fX8_224 : fLb RX8 224 0 9 true = true := fLb_of (q := (RX0, TX0, 14)) rfl (by decide) (mem_at (j := 287) (by decide +kernel))
theorem fX9_172 : fLb RX9 172 0 10 true = true := fLb_of (q := (RX0, TX0, 14)) rfl (by decide) (mem_at (j := 289) (by decide +kernel))
theorem fX8_229 : fLb RX8 229 0 10 true = true := fLb_of (q := (RX0, TX0, 14)) rfl (by decide) (mem_at (j := 290) (by decide +kernel))
theorem fX9_176 : fLb RX9 176 0 11 true = true := fLb_of (q := (RX0, TX0, 14)) rfl (by decide) (mem_at (j := 292) (by decide +kernel))
theorem fX8_192 : fLb RX8 192 0 11 true = true := fLb_of (q := (RX0, TX0, 14)) rfl (by decide) (mem_at (j := 293) (by decide +kernel))
theorem fX7_83 : fLb RX7 83 0 12 true = true := fLb_of (q := (RX0, TX0, 14)) rfl (by decide) (mem_at (j := 294) (by decide +kernel))
theorem fX7_93 : fLb RX7 93 0 13 true = true := fLb_of (q := (RX0, TX0, 14)) rfl (by decide) (mem_at (j := 295) (by decide +kernel))
theorem fX8_64 : fLb RX8 64 7 0 true = true := fLb_of (q := (RX7, TX7, 3)) rfl (by decide) (mem_at (j := 327) (by decide +kernel))
theorem fX3_44 : fLb RX3 44 7 0 true = true := fLb_of (q := (RX7, TX7, 3)) rfl (by decide) (mem_at (j := 328) (by decide +kernel))
theorem fX9_203 : fLb RX9 203 7 0 true = true := fLb_of (q := (RX7, TX7, 3)) rfl (by decide) (mem_at (j := 329) (by decide +kernel))
theorem fX9_152 : fLb RX9 152 7 1 true = true := fLb_of (q := (RX7, TX7, 3)) rfl (by decide) (mem_at (j := 331) (by decide +kernel))
theorem fX8_121 : fLb RX8 121 7 1 true = true := fLb_of (q := (RX7, TX7, 3)) rfl (by decide) (mem_at (j := 332) (by decide +kernel))
theorem fX8_75 : fLb RX8 75 7 2 true = true := fLb_of (q := (RX7, TX7, 3)) rfl (by decide) (mem_at (j := 334) (by decide +kernel))
theorem fX3_40 : fLb RX3 40 7 2 true = true := fLb_of (q := (RX7, TX7, 3)) rfl (by decide) (mem_at (j := 335) (by decide +kernel))
theorem fX9_113 : fLb RX9 113 7 2 true = true := fLb_of (q := (RX7, TX7, 3)) rfl (by decide) (mem_at (j := 336) (by decide +kernel))
theorem fX9_90 : fLb RX9 90 2 9 true = true := fLb_of (q := (RX2, TX2, 11)) rfl (by decide) (mem_at (j := 447) (by decide +kernel))
theorem fX9_89 : fLb RX9 89 2 10 true = true := fLb_of (q := (RX2, TX2, 11)) rfl (by decide) (mem_at (j := 449) (by decide +kernel))
theorem fX9_109 : fLb RX9 109 8 8 true = true := fLb_of (q := (RX8, TX8, 10)) rfl (by decide) (mem_at (j := 815) (by decide +kernel))
theorem fX9_108 : fLb RX9 108 8 9 true = true := fLb_of (q := (RX8, TX8, 10)) rfl (by decide) (mem_at (j := 817) (by decide +kernel))
theorem nL_8 : nLb RL 8 9 = true := nLb_of (q := (RX9, TX9, 10)) rfl (mem_at (j := 144) (by decide +kernel)) (mem_at (j := 145) (by decide +kernel)) (mem_at (j := 122) (by decide +kernel))
theorem nX9_7 : nLb RX9 7 6 = true := nLb_of (q := (RX6, TX6, 3)) rfl (mem_at (j := 152) (by decide +kernel)) (mem_at (j := 153) (by decide +kernel)) (mem_at (j := 123) (by decide +kernel))
theorem nX9_22 : nLb RX9 22 1 = true := nLb_of (q := (RX1, TX1, 8)) rfl (mem_at (j := 174) (by decide +kernel)) (mem_at (j := 175) (by decide +kernel)) (mem_at (j := 124) (by decide +kernel))
theorem nX1_9 : nLb RX1 9 5 = true := nLb_of (q := (RX5, TX5, 4)) rfl (mem_at (j := 180) (by decide +kernel)) (mem_at (j := 181) (by decide +kernel)) (mem_at (j := 125) (by decide +kernel))
theorem nX9_32 : nLb RX9 32 7 = true := nLb_of (q := (RX7, TX7, 3)) rfl (mem_at (j := 240) (by decide +kernel)) (mem_at (j := 242) (by decide +kernel)) (mem_at (j := 127) (by decide +kernel))
theorem nX7_9 : nLb RX7 9 0 = true := nLb_of (q := (RX0, TX0, 14)) rfl (mem_at (j := 247) (by decide +kernel)) (mem_at (j := 251) (by decide +kernel)) (mem_at (j := 128) (by decide +kernel))
theorem nX7_17 : nLb RX7 17 5 = true := nLb_of (q := (RX5, TX5, 4)) rfl (mem_at (j := 249) (by decide +kernel)) (mem_at (j := 181) (by decide +kernel)) (mem_at (j := 125) (by decide +kernel))
theorem nX9_43 : nLb RX9 43 4 = true := nLb_of (q := (RX4, TX4, 3)) rfl (mem_at (j := 344) (by decide +kernel)) (mem_at (j := 345) (by decide +kernel)) (mem_at (j := 129) (by decide +kernel))
theorem nX4_9 : nLb RX4 9 0 = true := nLb_of (q := (RX0, TX0, 14)) rfl (mem_at (j := 350) (by decide +kernel)) (mem_at (j := 251) (by decide +kernel)) (mem_at (j := 128) (by decide +kernel))
theorem nX9_50 : nLb RX9 50 3 = true := nLb_of (q := (RX3, TX3, 9)) rfl (mem_at (j := 362) (by decide +kernel)) (mem_at (j := 363) (by decide +kernel)) (mem_at (j := 130) (by decide +kernel))
theorem nX9_77 : nLb RX9 77 2 = true := nLb_of (q := (RX2, TX2, 11)) rfl (mem_at (j := 431) (by decide +kernel)) (mem_at (j := 432) (by decide +kernel)) (mem_at (j := 136) (by decide +kernel))
theorem nX9_102 : nLb RX9 102 8 = true := nLb_of (q := (RX8, TX8, 10)) rfl (mem_at (j := 800) (by decide +kernel)) (mem_at (j := 801) (by decide +kernel)) (mem_at (j := 138) (by decide +kernel))
theorem nL_65 : nLb RL 65 10 = true := nLb_of (q := (RX10, TX10, 53)) rfl (mem_at (j := 1394) (by decide +kernel)) (mem_at (j := 1395) (by decide +kernel)) (mem_at (j := 131) (by decide +kernel))
theorem oX9_1 : Cond.methodLink RX9 1 Lib.objectInit ∈ lw_tbl := mem_at (j := 149) (by decide +kernel)
theorem oX6_3 : Cond.methodLink RX6 3 Lib.objectInit ∈ lw_tbl := mem_at (j := 157) (by decide +kernel)
theorem oX1_3 : Cond.methodLink RX1 3 Lib.objectInit ∈ lw_tbl := mem_at (j := 179) (by decide +kernel)
theorem oX5_3 : Cond.methodLink RX5 3 Lib.objectInit ∈ lw_tbl := mem_at (j := 185) (by decide +kernel)
theorem qX5_9 : Cond.methodLink RX5 9 Lib.Math.max.name ∈ lw_tbl := mem_at (j := 186) (by decide +kernel)
theorem oX7_3 : Cond.methodLink RX7 3 Lib.objectInit ∈ lw_tbl := mem_at (j := 246) (by decide +kernel)
theorem oX0_3 : Cond.methodLink RX0 3 Lib.objectInit ∈ lw_tbl := mem_at (j := 255) (by decide +kernel)
theorem oX4_3 : Cond.methodLink RX4 3 Lib.objectInit ∈ lw_tbl := mem_at (j := 349) (by decide +kernel)
theorem oX3_3 : Cond.methodLink RX3 3 Lib.objectInit ∈ lw_tbl := mem_at (j := 367) (by decide +kernel)
theorem oX2_3 : Cond.methodLink RX2 3 Lib.objectInit ∈ lw_tbl := mem_at (j := 436) (by decide +kernel)
theorem oX8_3 : Cond.methodLink RX8 3 Lib.objectInit ∈ lw_tbl := mem_at (j := 805) (by decide +kernel)
theorem qX6_37 : Cond.methodLink RX6 37 Lib.Math.max.name ∈ lw_tbl := mem_at (j := 856) (by decide +kernel)
theorem qX0_99 : Cond.methodLink RX0 99 Lib.Math.min.name ∈ lw_tbl := mem_at (j := 1151) (by decide +kernel)
theorem qX7_44 : Cond.methodLink RX7 44 Lib.Math.max.name ∈ lw_tbl := mem_at (j := 1191) (by decide +kernel)
theorem qX4_36 : Cond.methodLink RX4 36 Lib.Math.max.name ∈ lw_tbl := mem_at (j := 1239) (by decide +kernel)
theorem qX7_80 : Cond.methodLink RX7 80 Lib.Math.min.name ∈ lw_tbl := mem_at (j := 1272) (by decide +kernel)
theorem qX0_135 : Cond.methodLink RX0 135 Lib.Math.max.name ∈ lw_tbl := mem_at (j := 1336) (by decide +kernel)
theorem oX10_1 : Cond.methodLink RX10 1 Lib.objectInit ∈ lw_tbl := mem_at (j := 1399) (by decide +kernel)
end
section
theorem g2X9_init : mOk mX9_init 0 2 := ⟨(mem_at (j := 148) (by decide +kernel)), (mem_at (j := 122) (by decide +kernel)), (by decide +kernel), (by decide +kernel), ⟨(by decide +kernel), (mem_at (j := 147) (by decide +kernel))⟩⟩
theorem kL_64 : mLb RL 64 mX9_init 0 2 false = true := mLb_of g2X9_init (mem_at (j := 146) (by decide +kernel))
theorem g2X5_init : mOk mX5_init 1 2 := ⟨(mem_at (j := 184) (by decide +kernel)), (mem_at (j := 125) (by decide +kernel)), (by decide +kernel), (by decide +kernel), ⟨(by decide +kernel), (mem_at (j := 183) (by decide +kernel))⟩⟩
theorem kX1_11 : mLb RX1 11 mX5_init 1 2 false = true := mLb_of g2X5_init (mem_at (j := 182) (by decide +kernel))
theorem g2X7_init : mOk mX7_init 0 2 := ⟨(mem_at (j := 245) (by decide +kernel)), (mem_at (j := 127) (by decide +kernel)), (by decide +kernel), (by decide +kernel), ⟨(by decide +kernel), (mem_at (j := 244) (by decide +kernel))⟩⟩
theorem kX9_38 : mLb RX9 38 mX7_init 0 2 false = true := mLb_of g2X7_init (mem_at (j := 243) (by decide +kernel))
theorem kX7_19 : mLb RX7 19 mX5_init 1 2 false = true := mLb_of g2X5_init (mem_at (j := 250) (by decide +kernel))
theorem g0X9_reference : mOk mX9_reference 0 0 := ⟨(mem_at (j := 430) (by decide +kernel)), (mem_at (j := 122) (by decide +kernel)), (by decide +kernel), (by decide +kernel), ⟨(mem_at (j := 428) (by decide +kernel)), (mem_at (j := 429) (by decide +kernel))⟩⟩
theorem kL_80 : mLb RL 80 mX9_reference 0 0 false = true := mLb_of g0X9_reference (mem_at (j := 427) (by decide +kernel))
theorem g2X2_init : mOk mX2_init 2 2 := ⟨(mem_at (j := 435) (by decide +kernel)), (mem_at (j := 136) (by decide +kernel)), (by decide +kernel), (by decide +kernel), ⟨(by decide +kernel), (mem_at (j := 434) (by decide +kernel))⟩⟩
theorem kX9_79 : mLb RX9 79 mX2_init 2 2 false = true := mLb_of g2X2_init (mem_at (j := 433) (by decide +kernel))
theorem g0X2_run : mOk mX2_run 0 0 := ⟨(mem_at (j := 476) (by decide +kernel)), (mem_at (j := 136) (by decide +kernel)), (by decide +kernel), (by decide +kernel), ⟨(mem_at (j := 474) (by decide +kernel)), (mem_at (j := 475) (by decide +kernel))⟩⟩
theorem kX9_82 : mLb RX9 82 mX2_run 0 0 false = true := mLb_of g0X2_run (mem_at (j := 473) (by decide +kernel))
theorem g0X1_clear : mOk mX1_clear 0 0 := ⟨(mem_at (j := 480) (by decide +kernel)), (mem_at (j := 124) (by decide +kernel)), (by decide +kernel), (by decide +kernel), ⟨(mem_at (j := 478) (by decide +kernel)), (mem_at (j := 479) (by decide +kernel))⟩⟩
theorem kX2_23 : mLb RX2 23 mX1_clear 0 0 false = true := mLb_of g0X1_clear (mem_at (j := 477) (by decide +kernel))
theorem g0X5_clear : mOk mX5_clear 0 0 := ⟨(mem_at (j := 484) (by decide +kernel)), (mem_at (j := 125) (by decide +kernel)), (by decide +kernel), (by decide +kernel), ⟨(mem_at (j := 482) (by decide +kernel)), (mem_at (j := 483) (by decide +kernel))⟩⟩
theorem kX1_36 : mLb RX1 36 mX5_clear 0 0 false = true := mLb_of g0X5_clear (mem_at (j := 481) (by decide +kernel))
theorem g0X6_at : mOk mX6_at 1 0 := ⟨(mem_at (j := 488) (by decide +kernel)), (mem_at (j := 123) (by decide +kernel)), (by decide +kernel), (by decide +kernel), ⟨(mem_at (j := 486) (by decide +kernel)), (mem_at (j := 487) (by decide +kernel))⟩⟩
theorem kX2_36 : mLb RX2 36 mX6_at 1 0 false = true := mLb_of g0X6_at (mem_at (j := 485) (by decide +kernel))
theorem g0X2_take : mOk mX2_take 1 0 := ⟨(mem_at (j := 492) (by decide +kernel)), (mem_at (j := 136) (by decide +kernel)), (by decide +kernel), (by decide +kernel), ⟨(mem_at (j := 491) (by decide +kernel)), (mem_at (j := 0) (by decide +kernel))⟩⟩
theorem kX2_39 : mLb RX2 39 mX2_take 1 0 false = true := mLb_of g0X2_take (mem_at (j := 489) (by decide +kernel))
theorem g0X2_takeInName : mOk mX2_takeInName 1 0 := ⟨(mem_at (j := 496) (by decide +kernel)), (mem_at (j := 136) (by decide +kernel)), (by decide +kernel), (by decide +kernel), ⟨(mem_at (j := 495) (by decide +kernel)), (mem_at (j := 1) (by decide +kernel))⟩⟩
theorem kX2_52 : mLb RX2 52 mX2_takeInName 1 0 false = true := mLb_of g0X2_takeInName (mem_at (j := 493) (by decide +kernel))
theorem g1X2_isNameOctet : mOk mX2_isNameOctet 1 1 := ⟨(mem_at (j := 499) (by decide +kernel)), (mem_at (j := 136) (by decide +kernel)), (by decide +kernel), (by decide +kernel), (mem_at (j := 498) (by decide +kernel))⟩
theorem kX2_86 : mLb RX2 86 mX2_isNameOctet 1 1 false = true := mLb_of g1X2_isNameOctet (mem_at (j := 497) (by decide +kernel))
theorem g0X2_fail : mOk mX2_fail 1 0 := ⟨(mem_at (j := 503) (by decide +kernel)), (mem_at (j := 136) (by decide +kernel)), (by decide +kernel), (by decide +kernel), ⟨(mem_at (j := 502) (by decide +kernel)), (mem_at (j := 2) (by decide +kernel))⟩⟩
theorem kX2_43 : mLb RX2 43 mX2_fail 1 0 false = true := mLb_of g0X2_fail (mem_at (j := 500) (by decide +kernel))
theorem g0X5_add : mOk mX5_add 1 0 := ⟨(mem_at (j := 507) (by decide +kernel)), (mem_at (j := 125) (by decide +kernel)), (by decide +kernel), (by decide +kernel), ⟨(mem_at (j := 505) (by decide +kernel)), (mem_at (j := 506) (by decide +kernel))⟩⟩
theorem kX2_93 : mLb RX2 93 mX5_add 1 0 false = true := mLb_of g0X5_add (mem_at (j := 504) (by decide +kernel))
theorem g0X2_endNameLine : mOk mX2_endNameLine 0 0 := ⟨(mem_at (j := 511) (by decide +kernel)), (mem_at (j := 136) (by decide +kernel)), (by decide +kernel), (by decide +kernel), ⟨(mem_at (j := 510) (by decide +kernel)), (mem_at (j := 3) (by decide +kernel))⟩⟩
theorem kX2_99 : mLb RX2 99 mX2_endNameLine 0 0 false = true := mLb_of g0X2_endNameLine (mem_at (j := 508) (by decide +kernel))
theorem g0X5_indexOf : mOk mX5_indexOf 2 0 := ⟨(mem_at (j := 515) (by decide +kernel)), (mem_at (j := 125) (by decide +kernel)), (by decide +kernel), (by decide +kernel), ⟨(mem_at (j := 513) (by decide +kernel)), (mem_at (j := 514) (by decide +kernel))⟩⟩
theorem kX2_102 : mLb RX2 102 mX5_indexOf 2 0 false = true := mLb_of g0X5_indexOf (mem_at (j := 512) (by decide +kernel))
theorem g0X5_isName : mOk mX5_isName 3 0 := ⟨(mem_at (j := 519) (by decide +kernel)), (mem_at (j := 125) (by decide +kernel)), (by decide +kernel), (by decide +kernel), ⟨(mem_at (j := 518) (by decide +kernel)), (mem_at (j := 4) (by decide +kernel))⟩⟩
theorem kX5_42 : mLb RX5 42 mX5_isName 3 0 false = true := mLb_of g0X5_isName (mem_at (j := 516) (by decide +kernel))
theorem g0X2_takeInRemark : mOk mX2_takeInRemark 1 0 := ⟨(mem_at (j := 523) (by decide +kernel)), (mem_at (j := 136) (by decide +kernel)), (by decide +kernel), (by decide +kernel), ⟨(mem_at (j := 522) (by decide +kernel)), (mem_at (j := 5) (by decide +kernel))⟩⟩
theorem kX2_55 : mLb RX2 55 mX2_takeInRemark 1 0 false = true := mLb_of g0X2_takeInRemark (mem_at (j := 520) (by decide +kernel))
theorem g0X2_takeInLetters : mOk mX2_takeInLetters 1 0 := ⟨(mem_at (j := 527) (by decide +kernel)), (mem_at (j := 136) (by decide +kernel)), (by decide +kernel), (by decide +kernel), ⟨(mem_at (j := 526) (by decide +kernel)), (mem_at (j := 6) (by decide +kernel))⟩⟩
theorem kX2_58 : mLb RX2 58 mX2_takeInLetters 1 0 false = true := mLb_of g0X2_takeInLetters (mem_at (j := 524) (by decide +kernel))
theorem g0X2_endLetterLine : mOk mX2_endLetterLine 0 0 := ⟨(mem_at (j := 531) (by decide +kernel)), (mem_at (j := 136) (by decide +kernel)), (by decide +kernel), (by decide +kernel), ⟨(mem_at (j := 530) (by decide +kernel)), (mem_at (j := 7) (by decide +kernel))⟩⟩
theorem kX2_115 : mLb RX2 115 mX2_endLetterLine 0 0 false = true := mLb_of g0X2_endLetterLine (mem_at (j := 528) (by decide +kernel))
theorem g0X1_setWidth : mOk mX1_setWidth 1 0 := ⟨(mem_at (j := 535) (by decide +kernel)), (mem_at (j := 124) (by decide +kernel)), (by decide +kernel), (by decide +kernel), ⟨(mem_at (j := 533) (by decide +kernel)), (mem_at (j := 534) (by decide +kernel))⟩⟩
theorem kX2_118 : mLb RX2 118 mX1_setWidth 1 0 false = true := mLb_of g0X1_setWidth (mem_at (j := 532) (by decide +kernel))
theorem g0X2_takeLetter : mOk mX2_takeLetter 1 0 := ⟨(mem_at (j := 542) (by decide +kernel)), (mem_at (j := 136) (by decide +kernel)), (by decide +kernel), (by decide +kernel), ⟨(mem_at (j := 541) (by decide +kernel)), (mem_at (j := 8) (by decide +kernel))⟩⟩
theorem kX2_71 : mLb RX2 71 mX2_takeLetter 1 0 false = true := mLb_of g0X2_takeLetter (mem_at (j := 539) (by decide +kernel))
theorem g0X1_addLetter : mOk mX1_addLetter 2 0 := ⟨(mem_at (j := 546) (by decide +kernel)), (mem_at (j := 124) (by decide +kernel)), (by decide +kernel), (by decide +kernel), ⟨(mem_at (j := 544) (by decide +kernel)), (mem_at (j := 545) (by decide +kernel))⟩⟩
theorem kX2_124 : mLb RX2 124 mX1_addLetter 2 0 false = true := mLb_of g0X1_addLetter (mem_at (j := 543) (by decide +kernel))
theorem g0X2_takeAtLineStart : mOk mX2_takeAtLineStart 1 0 := ⟨(mem_at (j := 550) (by decide +kernel)), (mem_at (j := 136) (by decide +kernel)), (by decide +kernel), (by decide +kernel), ⟨(mem_at (j := 549) (by decide +kernel)), (mem_at (j := 9) (by decide +kernel))⟩⟩
theorem kX2_61 : mLb RX2 61 mX2_takeAtLineStart 1 0 false = true := mLb_of g0X2_takeAtLineStart (mem_at (j := 547) (by decide +kernel))
theorem g0X2_openSequence : mOk mX2_openSequence 0 0 := ⟨(mem_at (j := 554) (by decide +kernel)), (mem_at (j := 136) (by decide +kernel)), (by decide +kernel), (by decide +kernel), ⟨(mem_at (j := 553) (by decide +kernel)), (mem_at (j := 10) (by decide +kernel))⟩⟩
theorem kX2_64 : mLb RX2 64 mX2_openSequence 0 0 false = true := mLb_of g0X2_openSequence (mem_at (j := 551) (by decide +kernel))
theorem g0X1_open : mOk mX1_open 0 0 := ⟨(mem_at (j := 558) (by decide +kernel)), (mem_at (j := 124) (by decide +kernel)), (by decide +kernel), (by decide +kernel), ⟨(mem_at (j := 556) (by decide +kernel)), (mem_at (j := 557) (by decide +kernel))⟩⟩
theorem kX2_77 : mLb RX2 77 mX1_open 0 0 false = true := mLb_of g0X1_open (mem_at (j := 555) (by decide +kernel))
theorem g0X5_open : mOk mX5_open 0 0 := ⟨(mem_at (j := 562) (by decide +kernel)), (mem_at (j := 125) (by decide +kernel)), (by decide +kernel), (by decide +kernel), ⟨(mem_at (j := 560) (by decide +kernel)), (mem_at (j := 561) (by decide +kernel))⟩⟩
theorem kX1_46 : mLb RX1 46 mX5_open 0 0 false = true := mLb_of g0X5_open (mem_at (j := 559) (by decide +kernel))
theorem g0X6_clear : mOk mX6_clear 0 0 := ⟨(mem_at (j := 566) (by decide +kernel)), (mem_at (j := 123) (by decide +kernel)), (by decide +kernel), (by decide +kernel), ⟨(mem_at (j := 564) (by decide +kernel)), (mem_at (j := 565) (by decide +kernel))⟩⟩
theorem kX9_86 : mLb RX9 86 mX6_clear 0 0 false = true := mLb_of g0X6_clear (mem_at (j := 563) (by decide +kernel))
theorem g0X7_clear : mOk mX7_clear 0 0 := ⟨(mem_at (j := 570) (by decide +kernel)), (mem_at (j := 127) (by decide +kernel)), (by decide +kernel), (by decide +kernel), ⟨(mem_at (j := 568) (by decide +kernel)), (mem_at (j := 569) (by decide +kernel))⟩⟩
theorem kX9_93 : mLb RX9 93 mX7_clear 0 0 false = true := mLb_of g0X7_clear (mem_at (j := 567) (by decide +kernel))
theorem kX7_31 : mLb RX7 31 mX5_clear 0 0 false = true := mLb_of g0X5_clear (mem_at (j := 571) (by decide +kernel))
theorem g0X3_clear : mOk mX3_clear 0 0 := ⟨(mem_at (j := 575) (by decide +kernel)), (mem_at (j := 130) (by decide +kernel)), (by decide +kernel), (by decide +kernel), ⟨(mem_at (j := 573) (by decide +kernel)), (mem_at (j := 574) (by decide +kernel))⟩⟩
theorem kX9_94 : mLb RX9 94 mX3_clear 0 0 false = true := mLb_of g0X3_clear (mem_at (j := 572) (by decide +kernel))
theorem g0X9_place : mOk mX9_place 0 0 := ⟨(mem_at (j := 579) (by decide +kernel)), (mem_at (j := 122) (by decide +kernel)), (by decide +kernel), (by decide +kernel), ⟨(mem_at (j := 577) (by decide +kernel)), (mem_at (j := 578) (by decide +kernel))⟩⟩
theorem kL_88 : mLb RL 88 mX9_place 0 0 false = true := mLb_of g0X9_place (mem_at (j := 576) (by decide +kernel))
theorem g0X9_merge : mOk mX9_merge 0 0 := ⟨(mem_at (j := 583) (by decide +kernel)), (mem_at (j := 122) (by decide +kernel)), (by decide +kernel), (by decide +kernel), ⟨(mem_at (j := 581) (by decide +kernel)), (mem_at (j := 582) (by decide +kernel))⟩⟩
theorem kL_125 : mLb RL 125 mX9_merge 0 0 false = true := mLb_of g0X9_merge (mem_at (j := 580) (by decide +kernel))
theorem g0X7_canTakeSamples : mOk mX7_canTakeSamples 1 0 := ⟨(mem_at (j := 587) (by decide +kernel)), (mem_at (j := 127) (by decide +kernel)), (by decide +kernel), (by decide +kernel), ⟨(mem_at (j := 585) (by decide +kernel)), (mem_at (j := 586) (by decide +kernel))⟩⟩
theorem kX9_226 : mLb RX9 226 mX7_canTakeSamples 1 0 false = true := mLb_of g0X7_canTakeSamples (mem_at (j := 584) (by decide +kernel))
theorem kX7_37 : mLb RX7 37 mX5_indexOf 2 0 false = true := mLb_of g0X5_indexOf (mem_at (j := 588) (by decide +kernel))
theorem g0X7_pairWith : mOk mX7_pairWith 1 0 := ⟨(mem_at (j := 592) (by decide +kernel)), (mem_at (j := 127) (by decide +kernel)), (by decide +kernel), (by decide +kernel), ⟨(mem_at (j := 590) (by decide +kernel)), (mem_at (j := 591) (by decide +kernel))⟩⟩
theorem kX9_230 : mLb RX9 230 mX7_pairWith 1 0 false = true := mLb_of g0X7_pairWith (mem_at (j := 589) (by decide +kernel))
theorem g0X7_firstFreeLike : mOk mX7_firstFreeLike 1 0 := ⟨(mem_at (j := 596) (by decide +kernel)), (mem_at (j := 127) (by decide +kernel)), (by decide +kernel), (by decide +kernel), ⟨(mem_at (j := 595) (by decide +kernel)), (mem_at (j := 11) (by decide +kernel))⟩⟩
theorem kX7_96 : mLb RX7 96 mX7_firstFreeLike 1 0 false = true := mLb_of g0X7_firstFreeLike (mem_at (j := 593) (by decide +kernel))
theorem g0X0_standsWith : mOk mX0_standsWith 1 0 := ⟨(mem_at (j := 600) (by decide +kernel)), (mem_at (j := 128) (by decide +kernel)), (by decide +kernel), (by decide +kernel), ⟨(mem_at (j := 598) (by decide +kernel)), (mem_at (j := 599) (by decide +kernel))⟩⟩
theorem kX7_100 : mLb RX7 100 mX0_standsWith 1 0 false = true := mLb_of g0X0_standsWith (mem_at (j := 597) (by decide +kernel))
theorem g0X0_hasAllRowsOf : mOk mX0_hasAllRowsOf 1 0 := ⟨(mem_at (j := 604) (by decide +kernel)), (mem_at (j := 128) (by decide +kernel)), (by decide +kernel), (by decide +kernel), ⟨(mem_at (j := 602) (by decide +kernel)), (mem_at (j := 603) (by decide +kernel))⟩⟩
theorem kX7_103 : mLb RX7 103 mX0_hasAllRowsOf 1 0 false = true := mLb_of g0X0_hasAllRowsOf (mem_at (j := 601) (by decide +kernel))
theorem g0X0_rowIs : mOk mX0_rowIs 3 0 := ⟨(mem_at (j := 608) (by decide +kernel)), (mem_at (j := 128) (by decide +kernel)), (by decide +kernel), (by decide +kernel), ⟨(mem_at (j := 606) (by decide +kernel)), (mem_at (j := 607) (by decide +kernel))⟩⟩
theorem kX0_73 : mLb RX0 73 mX0_rowIs 3 0 false = true := mLb_of g0X0_rowIs (mem_at (j := 605) (by decide +kernel))
theorem g0X0_letterAt : mOk mX0_letterAt 2 0 := ⟨(mem_at (j := 612) (by decide +kernel)), (mem_at (j := 128) (by decide +kernel)), (by decide +kernel), (by decide +kernel), ⟨(mem_at (j := 610) (by decide +kernel)), (mem_at (j := 611) (by decide +kernel))⟩⟩
theorem kX0_69 : mLb RX0 69 mX0_letterAt 2 0 false = true := mLb_of g0X0_letterAt (mem_at (j := 609) (by decide +kernel))
theorem g0X7_takeAll : mOk mX7_takeAll 1 0 := ⟨(mem_at (j := 616) (by decide +kernel)), (mem_at (j := 127) (by decide +kernel)), (by decide +kernel), (by decide +kernel), ⟨(mem_at (j := 614) (by decide +kernel)), (mem_at (j := 615) (by decide +kernel))⟩⟩
theorem kX9_234 : mLb RX9 234 mX7_takeAll 1 0 false = true := mLb_of g0X7_takeAll (mem_at (j := 613) (by decide +kernel))
theorem g0X5_addAll : mOk mX5_addAll 1 0 := ⟨(mem_at (j := 620) (by decide +kernel)), (mem_at (j := 125) (by decide +kernel)), (by decide +kernel), (by decide +kernel), ⟨(mem_at (j := 618) (by decide +kernel)), (mem_at (j := 619) (by decide +kernel))⟩⟩
theorem kX7_51 : mLb RX7 51 mX5_addAll 1 0 false = true := mLb_of g0X5_addAll (mem_at (j := 617) (by decide +kernel))
theorem kX5_31 : mLb RX5 31 mX5_open 0 0 false = true := mLb_of g0X5_open (mem_at (j := 621) (by decide +kernel))
theorem kX5_34 : mLb RX5 34 mX5_add 1 0 false = true := mLb_of g0X5_add (mem_at (j := 622) (by decide +kernel))
theorem g1X7_setNoCalls : mOk mX7_setNoCalls 3 1 := ⟨(mem_at (j := 625) (by decide +kernel)), (mem_at (j := 127) (by decide +kernel)), (by decide +kernel), (by decide +kernel), (mem_at (j := 624) (by decide +kernel))⟩
theorem kX7_106 : mLb RX7 106 mX7_setNoCalls 3 1 false = true := mLb_of g1X7_setNoCalls (mem_at (j := 623) (by decide +kernel))
theorem g0X0_setNoCall : mOk mX0_setNoCall 1 0 := ⟨(mem_at (j := 629) (by decide +kernel)), (mem_at (j := 128) (by decide +kernel)), (by decide +kernel), (by decide +kernel), ⟨(mem_at (j := 627) (by decide +kernel)), (mem_at (j := 628) (by decide +kernel))⟩⟩
theorem kX7_113 : mLb RX7 113 mX0_setNoCall 1 0 false = true := mLb_of g0X0_setNoCall (mem_at (j := 626) (by decide +kernel))
theorem g0X0_setCall : mOk mX0_setCall 3 0 := ⟨(mem_at (j := 633) (by decide +kernel)), (mem_at (j := 128) (by decide +kernel)), (by decide +kernel), (by decide +kernel), ⟨(mem_at (j := 631) (by decide +kernel)), (mem_at (j := 632) (by decide +kernel))⟩⟩
theorem kX0_65 : mLb RX0 65 mX0_setCall 3 0 false = true := mLb_of g0X0_setCall (mem_at (j := 630) (by decide +kernel))
theorem g1X7_moveCalls : mOk mX7_moveCalls 4 1 := ⟨(mem_at (j := 636) (by decide +kernel)), (mem_at (j := 127) (by decide +kernel)), (by decide +kernel), (by decide +kernel), (mem_at (j := 635) (by decide +kernel))⟩
theorem kX7_109 : mLb RX7 109 mX7_moveCalls 4 1 false = true := mLb_of g1X7_moveCalls (mem_at (j := 634) (by decide +kernel))
theorem g0X0_copyCalls : mOk mX0_copyCalls 3 0 := ⟨(mem_at (j := 640) (by decide +kernel)), (mem_at (j := 128) (by decide +kernel)), (by decide +kernel), (by decide +kernel), ⟨(mem_at (j := 638) (by decide +kernel)), (mem_at (j := 639) (by decide +kernel))⟩⟩
theorem kX7_116 : mLb RX7 116 mX0_copyCalls 3 0 false = true := mLb_of g0X0_copyCalls (mem_at (j := 637) (by decide +kernel))
theorem g1X7_swap : mOk mX7_swap 4 1 := ⟨(mem_at (j := 643) (by decide +kernel)), (mem_at (j := 127) (by decide +kernel)), (by decide +kernel), (by decide +kernel), (mem_at (j := 642) (by decide +kernel))⟩
theorem kX7_76 : mLb RX7 76 mX7_swap 4 1 false = true := mLb_of g1X7_swap (mem_at (j := 641) (by decide +kernel))
theorem g0X7_putInOrder : mOk mX7_putInOrder 0 0 := ⟨(mem_at (j := 647) (by decide +kernel)), (mem_at (j := 127) (by decide +kernel)), (by decide +kernel), (by decide +kernel), ⟨(mem_at (j := 645) (by decide +kernel)), (mem_at (j := 646) (by decide +kernel))⟩⟩
theorem kX9_223 : mLb RX9 223 mX7_putInOrder 0 0 false = true := mLb_of g0X7_putInOrder (mem_at (j := 644) (by decide +kernel))
theorem g0X7_sinkToPlace : mOk mX7_sinkToPlace 1 0 := ⟨(mem_at (j := 651) (by decide +kernel)), (mem_at (j := 127) (by decide +kernel)), (by decide +kernel), (by decide +kernel), ⟨(mem_at (j := 650) (by decide +kernel)), (mem_at (j := 12) (by decide +kernel))⟩⟩
theorem kX7_86 : mLb RX7 86 mX7_sinkToPlace 1 0 false = true := mLb_of g0X7_sinkToPlace (mem_at (j := 648) (by decide +kernel))
theorem g0X0_standsBehind : mOk mX0_standsBehind 1 0 := ⟨(mem_at (j := 655) (by decide +kernel)), (mem_at (j := 128) (by decide +kernel)), (by decide +kernel), (by decide +kernel), ⟨(mem_at (j := 653) (by decide +kernel)), (mem_at (j := 654) (by decide +kernel))⟩⟩
theorem kX7_89 : mLb RX7 89 mX0_standsBehind 1 0 false = true := mLb_of g0X0_standsBehind (mem_at (j := 652) (by decide +kernel))
theorem g0X9_carried : mOk mX9_carried 1 0 := ⟨(mem_at (j := 659) (by decide +kernel)), (mem_at (j := 122) (by decide +kernel)), (by decide +kernel), (by decide +kernel), ⟨(mem_at (j := 657) (by decide +kernel)), (mem_at (j := 658) (by decide +kernel))⟩⟩
theorem kL_132 : mLb RL 132 mX9_carried 1 0 false = true := mLb_of g0X9_carried (mem_at (j := 656) (by decide +kernel))
theorem g0X3_carriedTo : mOk mX3_carriedTo 1 0 := ⟨(mem_at (j := 663) (by decide +kernel)), (mem_at (j := 130) (by decide +kernel)), (by decide +kernel), (by decide +kernel), ⟨(mem_at (j := 661) (by decide +kernel)), (mem_at (j := 662) (by decide +kernel))⟩⟩
theorem kX9_250 : mLb RX9 250 mX3_carriedTo 1 0 false = true := mLb_of g0X3_carriedTo (mem_at (j := 660) (by decide +kernel))
theorem g0X3_moved : mOk mX3_moved 5 0 := ⟨(mem_at (j := 667) (by decide +kernel)), (mem_at (j := 130) (by decide +kernel)), (by decide +kernel), (by decide +kernel), ⟨(mem_at (j := 666) (by decide +kernel)), (mem_at (j := 13) (by decide +kernel))⟩⟩
theorem kX3_88 : mLb RX3 88 mX3_moved 5 0 false = true := mLb_of g0X3_moved (mem_at (j := 664) (by decide +kernel))
theorem g0X9_back : mOk mX9_back 1 0 := ⟨(mem_at (j := 671) (by decide +kernel)), (mem_at (j := 122) (by decide +kernel)), (by decide +kernel), (by decide +kernel), ⟨(mem_at (j := 669) (by decide +kernel)), (mem_at (j := 670) (by decide +kernel))⟩⟩
theorem kL_136 : mLb RL 136 mX9_back 1 0 false = true := mLb_of g0X9_back (mem_at (j := 668) (by decide +kernel))
theorem g0X3_backTo : mOk mX3_backTo 1 0 := ⟨(mem_at (j := 675) (by decide +kernel)), (mem_at (j := 130) (by decide +kernel)), (by decide +kernel), (by decide +kernel), ⟨(mem_at (j := 673) (by decide +kernel)), (mem_at (j := 674) (by decide +kernel))⟩⟩
theorem kX9_253 : mLb RX9 253 mX3_backTo 1 0 false = true := mLb_of g0X3_backTo (mem_at (j := 672) (by decide +kernel))
theorem g0X9_out : mOk mX9_out 1 0 := ⟨(mem_at (j := 679) (by decide +kernel)), (mem_at (j := 122) (by decide +kernel)), (by decide +kernel), (by decide +kernel), ⟨(mem_at (j := 677) (by decide +kernel)), (mem_at (j := 678) (by decide +kernel))⟩⟩
theorem kL_146 : mLb RL 146 mX9_out 1 0 false = true := mLb_of g0X9_out (mem_at (j := 676) (by decide +kernel))
theorem kX9_266 : mLb RX9 266 mX6_at 1 0 false = true := mLb_of g0X6_at (mem_at (j := 680) (by decide +kernel))
theorem g0X9_again : mOk mX9_again 0 0 := ⟨(mem_at (j := 684) (by decide +kernel)), (mem_at (j := 122) (by decide +kernel)), (by decide +kernel), (by decide +kernel), ⟨(mem_at (j := 682) (by decide +kernel)), (mem_at (j := 683) (by decide +kernel))⟩⟩
theorem kL_150 : mLb RL 150 mX9_again 0 0 false = true := mLb_of g0X9_again (mem_at (j := 681) (by decide +kernel))
theorem g0X6_copyFrom : mOk mX6_copyFrom 1 0 := ⟨(mem_at (j := 688) (by decide +kernel)), (mem_at (j := 123) (by decide +kernel)), (by decide +kernel), (by decide +kernel), ⟨(mem_at (j := 686) (by decide +kernel)), (mem_at (j := 687) (by decide +kernel))⟩⟩
theorem kX9_269 : mLb RX9 269 mX6_copyFrom 1 0 false = true := mLb_of g0X6_copyFrom (mem_at (j := 685) (by decide +kernel))
theorem g0X9_feed : mOk mX9_feed 2 0 := ⟨(mem_at (j := 699) (by decide +kernel)), (mem_at (j := 122) (by decide +kernel)), (by decide +kernel), (by decide +kernel), ⟨(mem_at (j := 697) (by decide +kernel)), (mem_at (j := 698) (by decide +kernel))⟩⟩
theorem kL_7 : mLb RL 7 mX9_feed 2 0 false = true := mLb_of g0X9_feed (mem_at (j := 696) (by decide +kernel))
theorem g0X6_add : mOk mX6_add 1 0 := ⟨(mem_at (j := 771) (by decide +kernel)), (mem_at (j := 123) (by decide +kernel)), (by decide +kernel), (by decide +kernel), ⟨(mem_at (j := 769) (by decide +kernel)), (mem_at (j := 770) (by decide +kernel))⟩⟩
theorem kX9_73 : mLb RX9 73 mX6_add 1 0 false = true := mLb_of g0X6_add (mem_at (j := 768) (by decide +kernel))
theorem g0X9_read : mOk mX9_read 1 0 := ⟨(mem_at (j := 779) (by decide +kernel)), (mem_at (j := 122) (by decide +kernel)), (by decide +kernel), (by decide +kernel), ⟨(mem_at (j := 777) (by decide +kernel)), (mem_at (j := 778) (by decide +kernel))⟩⟩
theorem kL_15 : mLb RL 15 mX9_read 1 0 false = true := mLb_of g0X9_read (mem_at (j := 776) (by decide +kernel))
theorem g0X9_sheetAt : mOk mX9_sheetAt 1 0 := ⟨(mem_at (j := 783) (by decide +kernel)), (mem_at (j := 122) (by decide +kernel)), (by decide +kernel), (by decide +kernel), ⟨(mem_at (j := 782) (by decide +kernel)), (mem_at (j := 15) (by decide +kernel))⟩⟩
theorem kX9_98 : mLb RX9 98 mX9_sheetAt 1 0 false = true := mLb_of g0X9_sheetAt (mem_at (j := 780) (by decide +kernel))
theorem g2X8_init : mOk mX8_init 3 2 := ⟨(mem_at (j := 804) (by decide +kernel)), (mem_at (j := 138) (by decide +kernel)), (by decide +kernel), (by decide +kernel), ⟨(by decide +kernel), (mem_at (j := 803) (by decide +kernel))⟩⟩
theorem kX9_104 : mLb RX9 104 mX8_init 3 2 false = true := mLb_of g2X8_init (mem_at (j := 802) (by decide +kernel))
theorem g0X8_run : mOk mX8_run 0 0 := ⟨(mem_at (j := 842) (by decide +kernel)), (mem_at (j := 138) (by decide +kernel)), (by decide +kernel), (by decide +kernel), ⟨(mem_at (j := 840) (by decide +kernel)), (mem_at (j := 841) (by decide +kernel))⟩⟩
theorem kX9_107 : mLb RX9 107 mX8_run 0 0 false = true := mLb_of g0X8_run (mem_at (j := 839) (by decide +kernel))
theorem kX8_27 : mLb RX8 27 mX7_clear 0 0 false = true := mLb_of g0X7_clear (mem_at (j := 843) (by decide +kernel))
theorem g0X8_takeFirstLine : mOk mX8_takeFirstLine 0 0 := ⟨(mem_at (j := 847) (by decide +kernel)), (mem_at (j := 138) (by decide +kernel)), (by decide +kernel), (by decide +kernel), ⟨(mem_at (j := 846) (by decide +kernel)), (mem_at (j := 16) (by decide +kernel))⟩⟩
theorem kX8_32 : mLb RX8 32 mX8_takeFirstLine 0 0 false = true := mLb_of g0X8_takeFirstLine (mem_at (j := 844) (by decide +kernel))
theorem g0X8_takeLine : mOk mX8_takeLine 0 0 := ⟨(mem_at (j := 851) (by decide +kernel)), (mem_at (j := 138) (by decide +kernel)), (by decide +kernel), (by decide +kernel), ⟨(mem_at (j := 850) (by decide +kernel)), (mem_at (j := 17) (by decide +kernel))⟩⟩
theorem kX8_51 : mLb RX8 51 mX8_takeLine 0 0 false = true := mLb_of g0X8_takeLine (mem_at (j := 848) (by decide +kernel))
theorem g0X6_find : mOk mX6_find 2 0 := ⟨(mem_at (j := 855) (by decide +kernel)), (mem_at (j := 123) (by decide +kernel)), (by decide +kernel), (by decide +kernel), ⟨(mem_at (j := 853) (by decide +kernel)), (mem_at (j := 854) (by decide +kernel))⟩⟩
theorem kX8_82 : mLb RX8 82 mX6_find 2 0 false = true := mLb_of g0X6_find (mem_at (j := 852) (by decide +kernel))
theorem g0X8_fail : mOk mX8_fail 2 0 := ⟨(mem_at (j := 860) (by decide +kernel)), (mem_at (j := 138) (by decide +kernel)), (by decide +kernel), (by decide +kernel), ⟨(mem_at (j := 859) (by decide +kernel)), (mem_at (j := 18) (by decide +kernel))⟩⟩
theorem kX8_57 : mLb RX8 57 mX8_fail 2 0 false = true := mLb_of g0X8_fail (mem_at (j := 857) (by decide +kernel))
theorem g0X6_isText : mOk mX6_isText 3 0 := ⟨(mem_at (j := 865) (by decide +kernel)), (mem_at (j := 123) (by decide +kernel)), (by decide +kernel), (by decide +kernel), ⟨(mem_at (j := 863) (by decide +kernel)), (mem_at (j := 864) (by decide +kernel))⟩⟩
theorem kX8_91 : mLb RX8 91 mX6_isText 3 0 false = true := mLb_of g0X6_isText (mem_at (j := 862) (by decide +kernel))
theorem g0J0_length_8abf5 : mOk mJ0_length_8abf5 0 0 := ⟨(mem_at (j := 869) (by decide +kernel)), (mem_at (j := 139) (by decide +kernel)), (by decide +kernel), (by decide +kernel), ⟨(mem_at (j := 867) (by decide +kernel)), (mem_at (j := 868) (by decide +kernel))⟩⟩
theorem kX6_23 : mLb RX6 23 mJ0_length_8abf5 0 0 false = true := mLb_of g0J0_length_8abf5 (mem_at (j := 866) (by decide +kernel))
theorem g0J0_coder_7d493 : mOk mJ0_coder_7d493 0 0 := ⟨(mem_at (j := 873) (by decide +kernel)), (mem_at (j := 139) (by decide +kernel)), (by decide +kernel), (by decide +kernel), ⟨(mem_at (j := 871) (by decide +kernel)), (mem_at (j := 872) (by decide +kernel))⟩⟩
theorem kJ0_335 : mLb RJ0 335 mJ0_coder_7d493 0 0 false = true := mLb_of g0J0_coder_7d493 (mem_at (j := 870) (by decide +kernel))
theorem g0X6_beginsWith : mOk mX6_beginsWith 2 0 := ⟨(mem_at (j := 879) (by decide +kernel)), (mem_at (j := 123) (by decide +kernel)), (by decide +kernel), (by decide +kernel), ⟨(mem_at (j := 877) (by decide +kernel)), (mem_at (j := 878) (by decide +kernel))⟩⟩
theorem kX6_47 : mLb RX6 47 mX6_beginsWith 2 0 false = true := mLb_of g0X6_beginsWith (mem_at (j := 876) (by decide +kernel))
theorem g0J0_charAt_5068e : mOk mJ0_charAt_5068e 1 0 := ⟨(mem_at (j := 883) (by decide +kernel)), (mem_at (j := 139) (by decide +kernel)), (by decide +kernel), (by decide +kernel), ⟨(mem_at (j := 881) (by decide +kernel)), (mem_at (j := 882) (by decide +kernel))⟩⟩
theorem kX6_29 : mLb RX6 29 mJ0_charAt_5068e 1 0 false = true := mLb_of g0J0_charAt_5068e (mem_at (j := 880) (by decide +kernel))
theorem g0J0_isLatin1_aae02 : mOk mJ0_isLatin1_aae02 0 0 := ⟨(mem_at (j := 887) (by decide +kernel)), (mem_at (j := 139) (by decide +kernel)), (by decide +kernel), (by decide +kernel), ⟨(mem_at (j := 885) (by decide +kernel)), (mem_at (j := 886) (by decide +kernel))⟩⟩
theorem kJ0_492 : mLb RJ0 492 mJ0_isLatin1_aae02 0 0 false = true := mLb_of g0J0_isLatin1_aae02 (mem_at (j := 884) (by decide +kernel))
theorem g1J1_charAt_3b067 : mOk mJ1_charAt_3b067 2 1 := ⟨(mem_at (j := 890) (by decide +kernel)), (mem_at (j := 140) (by decide +kernel)), (by decide +kernel), (by decide +kernel), (mem_at (j := 889) (by decide +kernel))⟩
theorem kJ0_495 : mLb RJ0 495 mJ1_charAt_3b067 2 1 false = true := mLb_of g1J1_charAt_3b067 (mem_at (j := 888) (by decide +kernel))
theorem g1J0_checkIndex_df160 : mOk mJ0_checkIndex_df160 2 1 := ⟨(mem_at (j := 893) (by decide +kernel)), (mem_at (j := 139) (by decide +kernel)), (by decide +kernel), (by decide +kernel), (mem_at (j := 892) (by decide +kernel))⟩
theorem kJ1_9 : mLb RJ1 9 mJ0_checkIndex_df160 2 1 false = true := mLb_of g1J0_checkIndex_df160 (mem_at (j := 891) (by decide +kernel))
theorem g1J3_checkIndex_8e157 : mOk mJ3_checkIndex_8e157 3 1 := ⟨(mem_at (j := 898) (by decide +kernel)), (mem_at (j := 141) (by decide +kernel)), (by decide +kernel), (by decide +kernel), (mem_at (j := 897) (by decide +kernel))⟩
theorem kJ0_1059 : mLb RJ0 1059 mJ3_checkIndex_8e157 3 1 false = true := mLb_of g1J3_checkIndex_8e157 (mem_at (j := 896) (by decide +kernel))
theorem g1J2_charAt_3b067 : mOk mJ2_charAt_3b067 2 1 := ⟨(mem_at (j := 901) (by decide +kernel)), (mem_at (j := 142) (by decide +kernel)), (by decide +kernel), (by decide +kernel), (mem_at (j := 900) (by decide +kernel))⟩
theorem kJ0_498 : mLb RJ0 498 mJ2_charAt_3b067 2 1 false = true := mLb_of g1J2_charAt_3b067 (mem_at (j := 899) (by decide +kernel))
theorem g1J2_checkIndex_2214a : mOk mJ2_checkIndex_2214a 2 1 := ⟨(mem_at (j := 904) (by decide +kernel)), (mem_at (j := 142) (by decide +kernel)), (by decide +kernel), (by decide +kernel), (mem_at (j := 903) (by decide +kernel))⟩
theorem kJ2_67 : mLb RJ2 67 mJ2_checkIndex_2214a 2 1 false = true := mLb_of g1J2_checkIndex_2214a (mem_at (j := 902) (by decide +kernel))
theorem g1J2_length_9d52b : mOk mJ2_length_9d52b 1 1 := ⟨(mem_at (j := 907) (by decide +kernel)), (mem_at (j := 142) (by decide +kernel)), (by decide +kernel), (by decide +kernel), (mem_at (j := 906) (by decide +kernel))⟩
theorem kJ2_48 : mLb RJ2 48 mJ2_length_9d52b 1 1 false = true := mLb_of g1J2_length_9d52b (mem_at (j := 905) (by decide +kernel))
theorem kJ2_414 : mLb RJ2 414 mJ0_checkIndex_df160 2 1 false = true := mLb_of g1J0_checkIndex_df160 (mem_at (j := 908) (by decide +kernel))
theorem g1J2_getChar_3b067 : mOk mJ2_getChar_3b067 2 1 := ⟨(mem_at (j := 911) (by decide +kernel)), (mem_at (j := 142) (by decide +kernel)), (by decide +kernel), (by decide +kernel), (mem_at (j := 910) (by decide +kernel))⟩
theorem kJ2_71 : mLb RJ2 71 mJ2_getChar_3b067 2 1 false = true := mLb_of g1J2_getChar_3b067 (mem_at (j := 909) (by decide +kernel))
theorem g0X8_takeLinesToHead : mOk mX8_takeLinesToHead 0 0 := ⟨(mem_at (j := 921) (by decide +kernel)), (mem_at (j := 138) (by decide +kernel)), (by decide +kernel), (by decide +kernel), ⟨(mem_at (j := 920) (by decide +kernel)), (mem_at (j := 19) (by decide +kernel))⟩⟩
theorem kX8_36 : mLb RX8 36 mX8_takeLinesToHead 0 0 false = true := mLb_of g0X8_takeLinesToHead (mem_at (j := 918) (by decide +kernel))
theorem kX8_97 : mLb RX8 97 mX6_beginsWith 2 0 false = true := mLb_of g0X6_beginsWith (mem_at (j := 923) (by decide +kernel))
theorem g0X8_cutColumns : mOk mX8_cutColumns 0 0 := ⟨(mem_at (j := 927) (by decide +kernel)), (mem_at (j := 138) (by decide +kernel)), (by decide +kernel), (by decide +kernel), ⟨(mem_at (j := 926) (by decide +kernel)), (mem_at (j := 20) (by decide +kernel))⟩⟩
theorem kX8_61 : mLb RX8 61 mX8_cutColumns 0 0 false = true := mLb_of g0X8_cutColumns (mem_at (j := 924) (by decide +kernel))
theorem kX8_104 : mLb RX8 104 mX6_at 1 0 false = true := mLb_of g0X6_at (mem_at (j := 928) (by decide +kernel))
theorem g0X8_takeHead : mOk mX8_takeHead 0 0 := ⟨(mem_at (j := 932) (by decide +kernel)), (mem_at (j := 138) (by decide +kernel)), (by decide +kernel), (by decide +kernel), ⟨(mem_at (j := 931) (by decide +kernel)), (mem_at (j := 21) (by decide +kernel))⟩⟩
theorem kX8_101 : mLb RX8 101 mX8_takeHead 0 0 false = true := mLb_of g0X8_takeHead (mem_at (j := 929) (by decide +kernel))
theorem g0X8_columnIs : mOk mX8_columnIs 2 0 := ⟨(mem_at (j := 938) (by decide +kernel)), (mem_at (j := 138) (by decide +kernel)), (by decide +kernel), (by decide +kernel), ⟨(mem_at (j := 937) (by decide +kernel)), (mem_at (j := 22) (by decide +kernel))⟩⟩
theorem kX8_112 : mLb RX8 112 mX8_columnIs 2 0 false = true := mLb_of g0X8_columnIs (mem_at (j := 935) (by decide +kernel))
theorem g0X8_takeSampleName : mOk mX8_takeSampleName 2 0 := ⟨(mem_at (j := 942) (by decide +kernel)), (mem_at (j := 138) (by decide +kernel)), (by decide +kernel), (by decide +kernel), ⟨(mem_at (j := 941) (by decide +kernel)), (mem_at (j := 23) (by decide +kernel))⟩⟩
theorem kX8_115 : mLb RX8 115 mX8_takeSampleName 2 0 false = true := mLb_of g0X8_takeSampleName (mem_at (j := 939) (by decide +kernel))
theorem g0X6_isWord : mOk mX6_isWord 2 0 := ⟨(mem_at (j := 946) (by decide +kernel)), (mem_at (j := 123) (by decide +kernel)), (by decide +kernel), (by decide +kernel), ⟨(mem_at (j := 944) (by decide +kernel)), (mem_at (j := 945) (by decide +kernel))⟩⟩
theorem kX8_118 : mLb RX8 118 mX6_isWord 2 0 false = true := mLb_of g0X6_isWord (mem_at (j := 943) (by decide +kernel))
theorem kX6_51 : mLb RX6 51 mX6_at 1 0 false = true := mLb_of g0X6_at (mem_at (j := 947) (by decide +kernel))
theorem g0X5_indexIn : mOk mX5_indexIn 3 0 := ⟨(mem_at (j := 951) (by decide +kernel)), (mem_at (j := 125) (by decide +kernel)), (by decide +kernel), (by decide +kernel), ⟨(mem_at (j := 949) (by decide +kernel)), (mem_at (j := 950) (by decide +kernel))⟩⟩
theorem kX8_125 : mLb RX8 125 mX5_indexIn 3 0 false = true := mLb_of g0X5_indexIn (mem_at (j := 948) (by decide +kernel))
theorem g0X6_isPart : mOk mX6_isPart 5 0 := ⟨(mem_at (j := 955) (by decide +kernel)), (mem_at (j := 123) (by decide +kernel)), (by decide +kernel), (by decide +kernel), ⟨(mem_at (j := 953) (by decide +kernel)), (mem_at (j := 954) (by decide +kernel))⟩⟩
theorem kX5_46 : mLb RX5 46 mX6_isPart 5 0 false = true := mLb_of g0X6_isPart (mem_at (j := 952) (by decide +kernel))
theorem kX8_131 : mLb RX8 131 mX5_open 0 0 false = true := mLb_of g0X5_open (mem_at (j := 956) (by decide +kernel))
theorem kX8_134 : mLb RX8 134 mX5_add 1 0 false = true := mLb_of g0X5_add (mem_at (j := 957) (by decide +kernel))
theorem g0X8_takeEntry : mOk mX8_takeEntry 1 0 := ⟨(mem_at (j := 961) (by decide +kernel)), (mem_at (j := 138) (by decide +kernel)), (by decide +kernel), (by decide +kernel), ⟨(mem_at (j := 960) (by decide +kernel)), (mem_at (j := 24) (by decide +kernel))⟩⟩
theorem kX8_68 : mLb RX8 68 mX8_takeEntry 1 0 false = true := mLb_of g0X8_takeEntry (mem_at (j := 958) (by decide +kernel))
theorem g0X8_takeSequence : mOk mX8_takeSequence 1 0 := ⟨(mem_at (j := 965) (by decide +kernel)), (mem_at (j := 138) (by decide +kernel)), (by decide +kernel), (by decide +kernel), ⟨(mem_at (j := 964) (by decide +kernel)), (mem_at (j := 25) (by decide +kernel))⟩⟩
theorem kX8_138 : mLb RX8 138 mX8_takeSequence 1 0 false = true := mLb_of g0X8_takeSequence (mem_at (j := 962) (by decide +kernel))
theorem g0X8_failColumn : mOk mX8_failColumn 1 0 := ⟨(mem_at (j := 969) (by decide +kernel)), (mem_at (j := 138) (by decide +kernel)), (by decide +kernel), (by decide +kernel), ⟨(mem_at (j := 968) (by decide +kernel)), (mem_at (j := 26) (by decide +kernel))⟩⟩
theorem kX8_141 : mLb RX8 141 mX8_failColumn 1 0 false = true := mLb_of g0X8_failColumn (mem_at (j := 966) (by decide +kernel))
theorem g0X8_takePlace : mOk mX8_takePlace 1 0 := ⟨(mem_at (j := 973) (by decide +kernel)), (mem_at (j := 138) (by decide +kernel)), (by decide +kernel), (by decide +kernel), ⟨(mem_at (j := 972) (by decide +kernel)), (mem_at (j := 27) (by decide +kernel))⟩⟩
theorem kX8_145 : mLb RX8 145 mX8_takePlace 1 0 false = true := mLb_of g0X8_takePlace (mem_at (j := 970) (by decide +kernel))
theorem g0X1_sizeOf : mOk mX1_sizeOf 1 0 := ⟨(mem_at (j := 977) (by decide +kernel)), (mem_at (j := 124) (by decide +kernel)), (by decide +kernel), (by decide +kernel), ⟨(mem_at (j := 975) (by decide +kernel)), (mem_at (j := 976) (by decide +kernel))⟩⟩
theorem kX8_182 : mLb RX8 182 mX1_sizeOf 1 0 false = true := mLb_of g0X1_sizeOf (mem_at (j := 974) (by decide +kernel))
theorem g0X1_has : mOk mX1_has 1 0 := ⟨(mem_at (j := 981) (by decide +kernel)), (mem_at (j := 124) (by decide +kernel)), (by decide +kernel), (by decide +kernel), ⟨(mem_at (j := 979) (by decide +kernel)), (mem_at (j := 980) (by decide +kernel))⟩⟩
theorem kX1_49 : mLb RX1 49 mX1_has 1 0 false = true := mLb_of g0X1_has (mem_at (j := 978) (by decide +kernel))
theorem g0X6_numberAt : mOk mX6_numberAt 3 0 := ⟨(mem_at (j := 985) (by decide +kernel)), (mem_at (j := 123) (by decide +kernel)), (by decide +kernel), (by decide +kernel), ⟨(mem_at (j := 983) (by decide +kernel)), (mem_at (j := 984) (by decide +kernel))⟩⟩
theorem kX8_185 : mLb RX8 185 mX6_numberAt 3 0 false = true := mLb_of g0X6_numberAt (mem_at (j := 982) (by decide +kernel))
theorem g0X8_takeId : mOk mX8_takeId 1 0 := ⟨(mem_at (j := 989) (by decide +kernel)), (mem_at (j := 138) (by decide +kernel)), (by decide +kernel), (by decide +kernel), ⟨(mem_at (j := 988) (by decide +kernel)), (mem_at (j := 28) (by decide +kernel))⟩⟩
theorem kX8_148 : mLb RX8 148 mX8_takeId 1 0 false = true := mLb_of g0X8_takeId (mem_at (j := 986) (by decide +kernel))
theorem g0X0_addIdOctet : mOk mX0_addIdOctet 1 0 := ⟨(mem_at (j := 994) (by decide +kernel)), (mem_at (j := 128) (by decide +kernel)), (by decide +kernel), (by decide +kernel), ⟨(mem_at (j := 992) (by decide +kernel)), (mem_at (j := 993) (by decide +kernel))⟩⟩
theorem kX8_195 : mLb RX8 195 mX0_addIdOctet 1 0 false = true := mLb_of g0X0_addIdOctet (mem_at (j := 991) (by decide +kernel))
theorem g0X8_takeRow : mOk mX8_takeRow 4 0 := ⟨(mem_at (j := 998) (by decide +kernel)), (mem_at (j := 138) (by decide +kernel)), (by decide +kernel), (by decide +kernel), ⟨(mem_at (j := 997) (by decide +kernel)), (mem_at (j := 29) (by decide +kernel))⟩⟩
theorem kX8_151 : mLb RX8 151 mX8_takeRow 4 0 false = true := mLb_of g0X8_takeRow (mem_at (j := 995) (by decide +kernel))
theorem g0X0_addLetter : mOk mX0_addLetter 2 0 := ⟨(mem_at (j := 1003) (by decide +kernel)), (mem_at (j := 128) (by decide +kernel)), (by decide +kernel), (by decide +kernel), ⟨(mem_at (j := 1001) (by decide +kernel)), (mem_at (j := 1002) (by decide +kernel))⟩⟩
theorem kX8_204 : mLb RX8 204 mX0_addLetter 2 0 false = true := mLb_of g0X0_addLetter (mem_at (j := 1000) (by decide +kernel))
theorem g0X8_refIsThere : mOk mX8_refIsThere 1 0 := ⟨(mem_at (j := 1007) (by decide +kernel)), (mem_at (j := 138) (by decide +kernel)), (by decide +kernel), (by decide +kernel), ⟨(mem_at (j := 1006) (by decide +kernel)), (mem_at (j := 30) (by decide +kernel))⟩⟩
theorem kX8_155 : mLb RX8 155 mX8_refIsThere 1 0 false = true := mLb_of g0X8_refIsThere (mem_at (j := 1004) (by decide +kernel))
theorem g0X1_letterAt : mOk mX1_letterAt 2 0 := ⟨(mem_at (j := 1011) (by decide +kernel)), (mem_at (j := 124) (by decide +kernel)), (by decide +kernel), (by decide +kernel), ⟨(mem_at (j := 1009) (by decide +kernel)), (mem_at (j := 1010) (by decide +kernel))⟩⟩
theorem kX8_211 : mLb RX8 211 mX1_letterAt 2 0 false = true := mLb_of g0X1_letterAt (mem_at (j := 1008) (by decide +kernel))
theorem kX8_214 : mLb RX8 214 mX0_letterAt 2 0 false = true := mLb_of g0X0_letterAt (mem_at (j := 1012) (by decide +kernel))
theorem g0X8_takeAlts : mOk mX8_takeAlts 1 0 := ⟨(mem_at (j := 1016) (by decide +kernel)), (mem_at (j := 138) (by decide +kernel)), (by decide +kernel), (by decide +kernel), ⟨(mem_at (j := 1015) (by decide +kernel)), (mem_at (j := 31) (by decide +kernel))⟩⟩
theorem kX8_158 : mLb RX8 158 mX8_takeAlts 1 0 false = true := mLb_of g0X8_takeAlts (mem_at (j := 1013) (by decide +kernel))
theorem g0X8_takeAlt : mOk mX8_takeAlt 3 0 := ⟨(mem_at (j := 1020) (by decide +kernel)), (mem_at (j := 138) (by decide +kernel)), (by decide +kernel), (by decide +kernel), ⟨(mem_at (j := 1019) (by decide +kernel)), (mem_at (j := 32) (by decide +kernel))⟩⟩
theorem kX8_215 : mLb RX8 215 mX8_takeAlt 3 0 false = true := mLb_of g0X8_takeAlt (mem_at (j := 1017) (by decide +kernel))
theorem kX8_219 : mLb RX8 219 mX0_rowIs 3 0 false = true := mLb_of g0X0_rowIs (mem_at (j := 1021) (by decide +kernel))
theorem g0X8_takeQuality : mOk mX8_takeQuality 1 0 := ⟨(mem_at (j := 1025) (by decide +kernel)), (mem_at (j := 138) (by decide +kernel)), (by decide +kernel), (by decide +kernel), ⟨(mem_at (j := 1024) (by decide +kernel)), (mem_at (j := 33) (by decide +kernel))⟩⟩
theorem kX8_161 : mLb RX8 161 mX8_takeQuality 1 0 false = true := mLb_of g0X8_takeQuality (mem_at (j := 1022) (by decide +kernel))
theorem g0X8_takePassed : mOk mX8_takePassed 1 0 := ⟨(mem_at (j := 1030) (by decide +kernel)), (mem_at (j := 138) (by decide +kernel)), (by decide +kernel), (by decide +kernel), ⟨(mem_at (j := 1029) (by decide +kernel)), (mem_at (j := 34) (by decide +kernel))⟩⟩
theorem kX8_164 : mLb RX8 164 mX8_takePassed 1 0 false = true := mLb_of g0X8_takePassed (mem_at (j := 1027) (by decide +kernel))
theorem g0X8_takeAllCalls : mOk mX8_takeAllCalls 1 0 := ⟨(mem_at (j := 1036) (by decide +kernel)), (mem_at (j := 138) (by decide +kernel)), (by decide +kernel), (by decide +kernel), ⟨(mem_at (j := 1035) (by decide +kernel)), (mem_at (j := 35) (by decide +kernel))⟩⟩
theorem kX8_72 : mLb RX8 72 mX8_takeAllCalls 1 0 false = true := mLb_of g0X8_takeAllCalls (mem_at (j := 1033) (by decide +kernel))
theorem g0X8_takeCalls : mOk mX8_takeCalls 4 0 := ⟨(mem_at (j := 1040) (by decide +kernel)), (mem_at (j := 138) (by decide +kernel)), (by decide +kernel), (by decide +kernel), ⟨(mem_at (j := 1039) (by decide +kernel)), (mem_at (j := 36) (by decide +kernel))⟩⟩
theorem kX8_233 : mLb RX8 233 mX8_takeCalls 4 0 false = true := mLb_of g0X8_takeCalls (mem_at (j := 1037) (by decide +kernel))
theorem g0X8_callAt : mOk mX8_callAt 3 0 := ⟨(mem_at (j := 1044) (by decide +kernel)), (mem_at (j := 138) (by decide +kernel)), (by decide +kernel), (by decide +kernel), ⟨(mem_at (j := 1043) (by decide +kernel)), (mem_at (j := 37) (by decide +kernel))⟩⟩
theorem kX8_236 : mLb RX8 236 mX8_callAt 3 0 false = true := mLb_of g0X8_callAt (mem_at (j := 1041) (by decide +kernel))
theorem kX8_239 : mLb RX8 239 mX0_setCall 3 0 false = true := mLb_of g0X0_setCall (mem_at (j := 1045) (by decide +kernel))
theorem g0X9_useSpareSheet : mOk mX9_useSpareSheet 1 0 := ⟨(mem_at (j := 1049) (by decide +kernel)), (mem_at (j := 122) (by decide +kernel)), (by decide +kernel), (by decide +kernel), ⟨(mem_at (j := 1048) (by decide +kernel)), (mem_at (j := 38) (by decide +kernel))⟩⟩
theorem kX9_110 : mLb RX9 110 mX9_useSpareSheet 1 0 false = true := mLb_of g0X9_useSpareSheet (mem_at (j := 1046) (by decide +kernel))
theorem g0X9_sequence : mOk mX9_sequence 2 0 := ⟨(mem_at (j := 1056) (by decide +kernel)), (mem_at (j := 122) (by decide +kernel)), (by decide +kernel), (by decide +kernel), ⟨(mem_at (j := 1054) (by decide +kernel)), (mem_at (j := 1055) (by decide +kernel))⟩⟩
theorem kL_21 : mLb RL 21 mX9_sequence 2 0 false = true := mLb_of g0X9_sequence (mem_at (j := 1053) (by decide +kernel))
theorem g0X9_checkSequence : mOk mX9_checkSequence 1 0 := ⟨(mem_at (j := 1060) (by decide +kernel)), (mem_at (j := 122) (by decide +kernel)), (by decide +kernel), (by decide +kernel), ⟨(mem_at (j := 1059) (by decide +kernel)), (mem_at (j := 39) (by decide +kernel))⟩⟩
theorem kX9_114 : mLb RX9 114 mX9_checkSequence 1 0 false = true := mLb_of g0X9_checkSequence (mem_at (j := 1057) (by decide +kernel))
theorem g0X5_sizeOf : mOk mX5_sizeOf 1 0 := ⟨(mem_at (j := 1065) (by decide +kernel)), (mem_at (j := 125) (by decide +kernel)), (by decide +kernel), (by decide +kernel), ⟨(mem_at (j := 1063) (by decide +kernel)), (mem_at (j := 1064) (by decide +kernel))⟩⟩
theorem kX9_130 : mLb RX9 130 mX5_sizeOf 1 0 false = true := mLb_of g0X5_sizeOf (mem_at (j := 1062) (by decide +kernel))
theorem g0X9_letter : mOk mX9_letter 2 0 := ⟨(mem_at (j := 1073) (by decide +kernel)), (mem_at (j := 122) (by decide +kernel)), (by decide +kernel), (by decide +kernel), ⟨(mem_at (j := 1071) (by decide +kernel)), (mem_at (j := 1072) (by decide +kernel))⟩⟩
theorem kL_25 : mLb RL 25 mX9_letter 2 0 false = true := mLb_of g0X9_letter (mem_at (j := 1070) (by decide +kernel))
theorem kX9_141 : mLb RX9 141 mX1_letterAt 2 0 false = true := mLb_of g0X1_letterAt (mem_at (j := 1074) (by decide +kernel))
theorem g0X5_octetAt : mOk mX5_octetAt 2 0 := ⟨(mem_at (j := 1078) (by decide +kernel)), (mem_at (j := 125) (by decide +kernel)), (by decide +kernel), (by decide +kernel), ⟨(mem_at (j := 1076) (by decide +kernel)), (mem_at (j := 1077) (by decide +kernel))⟩⟩
theorem kX9_145 : mLb RX9 145 mX5_octetAt 2 0 false = true := mLb_of g0X5_octetAt (mem_at (j := 1075) (by decide +kernel))
theorem kX5_38 : mLb RX5 38 mX5_sizeOf 1 0 false = true := mLb_of g0X5_sizeOf (mem_at (j := 1079) (by decide +kernel))
theorem g0X9_table : mOk mX9_table 2 0 := ⟨(mem_at (j := 1087) (by decide +kernel)), (mem_at (j := 122) (by decide +kernel)), (by decide +kernel), (by decide +kernel), ⟨(mem_at (j := 1085) (by decide +kernel)), (mem_at (j := 1086) (by decide +kernel))⟩⟩
theorem kL_28 : mLb RL 28 mX9_table 2 0 false = true := mLb_of g0X9_table (mem_at (j := 1084) (by decide +kernel))
theorem g0X9_record : mOk mX9_record 3 0 := ⟨(mem_at (j := 1095) (by decide +kernel)), (mem_at (j := 122) (by decide +kernel)), (by decide +kernel), (by decide +kernel), ⟨(mem_at (j := 1093) (by decide +kernel)), (mem_at (j := 1094) (by decide +kernel))⟩⟩
theorem kL_31 : mLb RL 31 mX9_record 3 0 false = true := mLb_of g0X9_record (mem_at (j := 1092) (by decide +kernel))
theorem g0X9_entryAt : mOk mX9_entryAt 2 0 := ⟨(mem_at (j := 1099) (by decide +kernel)), (mem_at (j := 122) (by decide +kernel)), (by decide +kernel), (by decide +kernel), ⟨(mem_at (j := 1098) (by decide +kernel)), (mem_at (j := 40) (by decide +kernel))⟩⟩
theorem kX9_154 : mLb RX9 154 mX9_entryAt 2 0 false = true := mLb_of g0X9_entryAt (mem_at (j := 1096) (by decide +kernel))
theorem g0X9_row : mOk mX9_row 4 0 := ⟨(mem_at (j := 1108) (by decide +kernel)), (mem_at (j := 122) (by decide +kernel)), (by decide +kernel), (by decide +kernel), ⟨(mem_at (j := 1106) (by decide +kernel)), (mem_at (j := 1107) (by decide +kernel))⟩⟩
theorem kL_35 : mLb RL 35 mX9_row 4 0 false = true := mLb_of g0X9_row (mem_at (j := 1105) (by decide +kernel))
theorem kX9_186 : mLb RX9 186 mX0_letterAt 2 0 false = true := mLb_of g0X0_letterAt (mem_at (j := 1110) (by decide +kernel))
theorem g0X9_call : mOk mX9_call 4 0 := ⟨(mem_at (j := 1117) (by decide +kernel)), (mem_at (j := 122) (by decide +kernel)), (by decide +kernel), (by decide +kernel), ⟨(mem_at (j := 1115) (by decide +kernel)), (mem_at (j := 1116) (by decide +kernel))⟩⟩
theorem kL_39 : mLb RL 39 mX9_call 4 0 false = true := mLb_of g0X9_call (mem_at (j := 1114) (by decide +kernel))
theorem g0X9_checkSample : mOk mX9_checkSample 2 0 := ⟨(mem_at (j := 1121) (by decide +kernel)), (mem_at (j := 122) (by decide +kernel)), (by decide +kernel), (by decide +kernel), ⟨(mem_at (j := 1120) (by decide +kernel)), (mem_at (j := 41) (by decide +kernel))⟩⟩
theorem kX9_187 : mLb RX9 187 mX9_checkSample 2 0 false = true := mLb_of g0X9_checkSample (mem_at (j := 1118) (by decide +kernel))
theorem g0X0_callAt : mOk mX0_callAt 2 0 := ⟨(mem_at (j := 1126) (by decide +kernel)), (mem_at (j := 128) (by decide +kernel)), (by decide +kernel), (by decide +kernel), ⟨(mem_at (j := 1124) (by decide +kernel)), (mem_at (j := 1125) (by decide +kernel))⟩⟩
theorem kX9_191 : mLb RX9 191 mX0_callAt 2 0 false = true := mLb_of g0X0_callAt (mem_at (j := 1123) (by decide +kernel))
theorem g0X9_normalise : mOk mX9_normalise 1 0 := ⟨(mem_at (j := 1134) (by decide +kernel)), (mem_at (j := 122) (by decide +kernel)), (by decide +kernel), (by decide +kernel), ⟨(mem_at (j := 1132) (by decide +kernel)), (mem_at (j := 1133) (by decide +kernel))⟩⟩
theorem kL_42 : mLb RL 42 mX9_normalise 1 0 false = true := mLb_of g0X9_normalise (mem_at (j := 1131) (by decide +kernel))
theorem g0X0_makeNormal : mOk mX0_makeNormal 1 0 := ⟨(mem_at (j := 1138) (by decide +kernel)), (mem_at (j := 128) (by decide +kernel)), (by decide +kernel), (by decide +kernel), ⟨(mem_at (j := 1136) (by decide +kernel)), (mem_at (j := 1137) (by decide +kernel))⟩⟩
theorem kX9_207 : mLb RX9 207 mX0_makeNormal 1 0 false = true := mLb_of g0X0_makeNormal (mem_at (j := 1135) (by decide +kernel))
theorem g0X0_hasAlts : mOk mX0_hasAlts 0 0 := ⟨(mem_at (j := 1142) (by decide +kernel)), (mem_at (j := 128) (by decide +kernel)), (by decide +kernel), (by decide +kernel), ⟨(mem_at (j := 1140) (by decide +kernel)), (mem_at (j := 1141) (by decide +kernel))⟩⟩
theorem kX0_77 : mLb RX0 77 mX0_hasAlts 0 0 false = true := mLb_of g0X0_hasAlts (mem_at (j := 1139) (by decide +kernel))
theorem g0X0_cutEnds : mOk mX0_cutEnds 1 0 := ⟨(mem_at (j := 1146) (by decide +kernel)), (mem_at (j := 128) (by decide +kernel)), (by decide +kernel), (by decide +kernel), ⟨(mem_at (j := 1145) (by decide +kernel)), (mem_at (j := 42) (by decide +kernel))⟩⟩
theorem kX0_81 : mLb RX0 81 mX0_cutEnds 1 0 false = true := mLb_of g0X0_cutEnds (mem_at (j := 1143) (by decide +kernel))
theorem g0X0_shortestRow : mOk mX0_shortestRow 0 0 := ⟨(mem_at (j := 1150) (by decide +kernel)), (mem_at (j := 128) (by decide +kernel)), (by decide +kernel), (by decide +kernel), ⟨(mem_at (j := 1149) (by decide +kernel)), (mem_at (j := 43) (by decide +kernel))⟩⟩
theorem kX0_85 : mLb RX0 85 mX0_shortestRow 0 0 false = true := mLb_of g0X0_shortestRow (mem_at (j := 1147) (by decide +kernel))
theorem g0X0_endAlikeAfter : mOk mX0_endAlikeAfter 2 0 := ⟨(mem_at (j := 1157) (by decide +kernel)), (mem_at (j := 128) (by decide +kernel)), (by decide +kernel), (by decide +kernel), ⟨(mem_at (j := 1156) (by decide +kernel)), (mem_at (j := 44) (by decide +kernel))⟩⟩
theorem kX0_104 : mLb RX0 104 mX0_endAlikeAfter 2 0 false = true := mLb_of g0X0_endAlikeAfter (mem_at (j := 1154) (by decide +kernel))
theorem g0X0_movedLetter : mOk mX0_movedLetter 4 0 := ⟨(mem_at (j := 1161) (by decide +kernel)), (mem_at (j := 128) (by decide +kernel)), (by decide +kernel), (by decide +kernel), ⟨(mem_at (j := 1160) (by decide +kernel)), (mem_at (j := 45) (by decide +kernel))⟩⟩
theorem kX0_108 : mLb RX0 108 mX0_movedLetter 4 0 false = true := mLb_of g0X0_movedLetter (mem_at (j := 1158) (by decide +kernel))
theorem kX0_112 : mLb RX0 112 mX1_letterAt 2 0 false = true := mLb_of g0X1_letterAt (mem_at (j := 1162) (by decide +kernel))
theorem g0X0_stepsToLeft : mOk mX0_stepsToLeft 1 0 := ⟨(mem_at (j := 1166) (by decide +kernel)), (mem_at (j := 128) (by decide +kernel)), (by decide +kernel), (by decide +kernel), ⟨(mem_at (j := 1165) (by decide +kernel)), (mem_at (j := 46) (by decide +kernel))⟩⟩
theorem kX0_89 : mLb RX0 89 mX0_stepsToLeft 1 0 false = true := mLb_of g0X0_stepsToLeft (mem_at (j := 1163) (by decide +kernel))
theorem g0X0_moveLeft : mOk mX0_moveLeft 2 0 := ⟨(mem_at (j := 1170) (by decide +kernel)), (mem_at (j := 128) (by decide +kernel)), (by decide +kernel), (by decide +kernel), ⟨(mem_at (j := 1169) (by decide +kernel)), (mem_at (j := 47) (by decide +kernel))⟩⟩
theorem kX0_92 : mLb RX0 92 mX0_moveLeft 2 0 false = true := mLb_of g0X0_moveLeft (mem_at (j := 1167) (by decide +kernel))
theorem g0X0_cutBeginnings : mOk mX0_cutBeginnings 0 0 := ⟨(mem_at (j := 1174) (by decide +kernel)), (mem_at (j := 128) (by decide +kernel)), (by decide +kernel), (by decide +kernel), ⟨(mem_at (j := 1173) (by decide +kernel)), (mem_at (j := 48) (by decide +kernel))⟩⟩
theorem kX0_96 : mLb RX0 96 mX0_cutBeginnings 0 0 false = true := mLb_of g0X0_cutBeginnings (mem_at (j := 1171) (by decide +kernel))
theorem g0X0_alikeAt : mOk mX0_alikeAt 1 0 := ⟨(mem_at (j := 1178) (by decide +kernel)), (mem_at (j := 128) (by decide +kernel)), (by decide +kernel), (by decide +kernel), ⟨(mem_at (j := 1177) (by decide +kernel)), (mem_at (j := 49) (by decide +kernel))⟩⟩
theorem kX0_115 : mLb RX0 115 mX0_alikeAt 1 0 false = true := mLb_of g0X0_alikeAt (mem_at (j := 1175) (by decide +kernel))
theorem kX0_119 : mLb RX0 119 mX0_addLetter 2 0 false = true := mLb_of g0X0_addLetter (mem_at (j := 1179) (by decide +kernel))
theorem g0X9_split : mOk mX9_split 1 0 := ⟨(mem_at (j := 1186) (by decide +kernel)), (mem_at (j := 122) (by decide +kernel)), (by decide +kernel), (by decide +kernel), ⟨(mem_at (j := 1184) (by decide +kernel)), (mem_at (j := 1185) (by decide +kernel))⟩⟩
theorem kL_45 : mLb RL 45 mX9_split 1 0 false = true := mLb_of g0X9_split (mem_at (j := 1183) (by decide +kernel))
theorem g0X7_sizeWhenSplit : mOk mX7_sizeWhenSplit 0 0 := ⟨(mem_at (j := 1190) (by decide +kernel)), (mem_at (j := 127) (by decide +kernel)), (by decide +kernel), (by decide +kernel), ⟨(mem_at (j := 1188) (by decide +kernel)), (mem_at (j := 1189) (by decide +kernel))⟩⟩
theorem kX9_211 : mLb RX9 211 mX7_sizeWhenSplit 0 0 false = true := mLb_of g0X7_sizeWhenSplit (mem_at (j := 1187) (by decide +kernel))
theorem g0X7_takeSplit : mOk mX7_takeSplit 1 0 := ⟨(mem_at (j := 1195) (by decide +kernel)), (mem_at (j := 127) (by decide +kernel)), (by decide +kernel), (by decide +kernel), ⟨(mem_at (j := 1193) (by decide +kernel)), (mem_at (j := 1194) (by decide +kernel))⟩⟩
theorem kX9_215 : mLb RX9 215 mX7_takeSplit 1 0 false = true := mLb_of g0X7_takeSplit (mem_at (j := 1192) (by decide +kernel))
theorem kX7_50 : mLb RX7 50 mX7_clear 0 0 false = true := mLb_of g0X7_clear (mem_at (j := 1196) (by decide +kernel))
theorem g0X7_takeSplitEntry : mOk mX7_takeSplitEntry 1 0 := ⟨(mem_at (j := 1200) (by decide +kernel)), (mem_at (j := 127) (by decide +kernel)), (by decide +kernel), (by decide +kernel), ⟨(mem_at (j := 1199) (by decide +kernel)), (mem_at (j := 50) (by decide +kernel))⟩⟩
theorem kX7_55 : mLb RX7 55 mX7_takeSplitEntry 1 0 false = true := mLb_of g0X7_takeSplitEntry (mem_at (j := 1197) (by decide +kernel))
theorem kX7_59 : mLb RX7 59 mX0_hasAlts 0 0 false = true := mLb_of g0X0_hasAlts (mem_at (j := 1201) (by decide +kernel))
theorem g0X0_copyFrom : mOk mX0_copyFrom 1 0 := ⟨(mem_at (j := 1205) (by decide +kernel)), (mem_at (j := 128) (by decide +kernel)), (by decide +kernel), (by decide +kernel), ⟨(mem_at (j := 1203) (by decide +kernel)), (mem_at (j := 1204) (by decide +kernel))⟩⟩
theorem kX7_63 : mLb RX7 63 mX0_copyFrom 1 0 false = true := mLb_of g0X0_copyFrom (mem_at (j := 1202) (by decide +kernel))
theorem g0X0_copyHead : mOk mX0_copyHead 1 0 := ⟨(mem_at (j := 1209) (by decide +kernel)), (mem_at (j := 128) (by decide +kernel)), (by decide +kernel), (by decide +kernel), ⟨(mem_at (j := 1208) (by decide +kernel)), (mem_at (j := 51) (by decide +kernel))⟩⟩
theorem kX0_31 : mLb RX0 31 mX0_copyHead 1 0 false = true := mLb_of g0X0_copyHead (mem_at (j := 1206) (by decide +kernel))
theorem kX0_45 : mLb RX0 45 mX0_copyCalls 3 0 false = true := mLb_of g0X0_copyCalls (mem_at (j := 1211) (by decide +kernel))
theorem g0X0_takeAlt : mOk mX0_takeAlt 3 0 := ⟨(mem_at (j := 1215) (by decide +kernel)), (mem_at (j := 128) (by decide +kernel)), (by decide +kernel), (by decide +kernel), ⟨(mem_at (j := 1213) (by decide +kernel)), (mem_at (j := 1214) (by decide +kernel))⟩⟩
theorem kX7_66 : mLb RX7 66 mX0_takeAlt 3 0 false = true := mLb_of g0X0_takeAlt (mem_at (j := 1212) (by decide +kernel))
theorem kX0_123 : mLb RX0 123 mX0_copyFrom 1 0 false = true := mLb_of g0X0_copyFrom (mem_at (j := 1216) (by decide +kernel))
theorem g0X0_copyRow : mOk mX0_copyRow 3 0 := ⟨(mem_at (j := 1220) (by decide +kernel)), (mem_at (j := 128) (by decide +kernel)), (by decide +kernel), (by decide +kernel), ⟨(mem_at (j := 1218) (by decide +kernel)), (mem_at (j := 1219) (by decide +kernel))⟩⟩
theorem kX0_126 : mLb RX0 126 mX0_copyRow 3 0 false = true := mLb_of g0X0_copyRow (mem_at (j := 1217) (by decide +kernel))
theorem kX0_129 : mLb RX0 129 mX0_callAt 2 0 false = true := mLb_of g0X0_callAt (mem_at (j := 1221) (by decide +kernel))
theorem g0X9_join : mOk mX9_join 1 0 := ⟨(mem_at (j := 1228) (by decide +kernel)), (mem_at (j := 122) (by decide +kernel)), (by decide +kernel), (by decide +kernel), ⟨(mem_at (j := 1226) (by decide +kernel)), (mem_at (j := 1227) (by decide +kernel))⟩⟩
theorem kL_48 : mLb RL 48 mX9_join 1 0 false = true := mLb_of g0X9_join (mem_at (j := 1225) (by decide +kernel))
theorem g0X7_joinAll : mOk mX7_joinAll 1 0 := ⟨(mem_at (j := 1232) (by decide +kernel)), (mem_at (j := 127) (by decide +kernel)), (by decide +kernel), (by decide +kernel), ⟨(mem_at (j := 1230) (by decide +kernel)), (mem_at (j := 1231) (by decide +kernel))⟩⟩
theorem kX9_219 : mLb RX9 219 mX7_joinAll 1 0 false = true := mLb_of g0X7_joinAll (mem_at (j := 1229) (by decide +kernel))
theorem g0X4_joins : mOk mX4_joins 3 0 := ⟨(mem_at (j := 1236) (by decide +kernel)), (mem_at (j := 129) (by decide +kernel)), (by decide +kernel), (by decide +kernel), ⟨(mem_at (j := 1234) (by decide +kernel)), (mem_at (j := 1235) (by decide +kernel))⟩⟩
theorem kX7_70 : mLb RX7 70 mX4_joins 3 0 false = true := mLb_of g0X4_joins (mem_at (j := 1233) (by decide +kernel))
theorem kX4_25 : mLb RX4 25 mX0_hasAlts 0 0 false = true := mLb_of g0X0_hasAlts (mem_at (j := 1237) (by decide +kernel))
theorem kX4_29 : mLb RX4 29 mX0_standsWith 1 0 false = true := mLb_of g0X0_standsWith (mem_at (j := 1238) (by decide +kernel))
theorem g0X0_canReach : mOk mX0_canReach 1 0 := ⟨(mem_at (j := 1243) (by decide +kernel)), (mem_at (j := 128) (by decide +kernel)), (by decide +kernel), (by decide +kernel), ⟨(mem_at (j := 1241) (by decide +kernel)), (mem_at (j := 1242) (by decide +kernel))⟩⟩
theorem kX4_42 : mLb RX4 42 mX0_canReach 1 0 false = true := mLb_of g0X0_canReach (mem_at (j := 1240) (by decide +kernel))
theorem kX4_46 : mLb RX4 46 mX0_copyFrom 1 0 false = true := mLb_of g0X0_copyFrom (mem_at (j := 1244) (by decide +kernel))
theorem g0X0_reachAsFarAs : mOk mX0_reachAsFarAs 1 0 := ⟨(mem_at (j := 1248) (by decide +kernel)), (mem_at (j := 128) (by decide +kernel)), (by decide +kernel), (by decide +kernel), ⟨(mem_at (j := 1246) (by decide +kernel)), (mem_at (j := 1247) (by decide +kernel))⟩⟩
theorem kX4_50 : mLb RX4 50 mX0_reachAsFarAs 1 0 false = true := mLb_of g0X0_reachAsFarAs (mem_at (j := 1245) (by decide +kernel))
theorem g0X4_takeAlts : mOk mX4_takeAlts 0 0 := ⟨(mem_at (j := 1252) (by decide +kernel)), (mem_at (j := 129) (by decide +kernel)), (by decide +kernel), (by decide +kernel), ⟨(mem_at (j := 1251) (by decide +kernel)), (mem_at (j := 52) (by decide +kernel))⟩⟩
theorem kX4_53 : mLb RX4 53 mX4_takeAlts 0 0 false = true := mLb_of g0X4_takeAlts (mem_at (j := 1249) (by decide +kernel))
theorem g0X0_altLike : mOk mX0_altLike 2 0 := ⟨(mem_at (j := 1256) (by decide +kernel)), (mem_at (j := 128) (by decide +kernel)), (by decide +kernel), (by decide +kernel), ⟨(mem_at (j := 1254) (by decide +kernel)), (mem_at (j := 1255) (by decide +kernel))⟩⟩
theorem kX4_64 : mLb RX4 64 mX0_altLike 2 0 false = true := mLb_of g0X0_altLike (mem_at (j := 1253) (by decide +kernel))
theorem kX4_68 : mLb RX4 68 mX0_copyRow 3 0 false = true := mLb_of g0X0_copyRow (mem_at (j := 1257) (by decide +kernel))
theorem g0X4_joinCalls : mOk mX4_joinCalls 1 0 := ⟨(mem_at (j := 1261) (by decide +kernel)), (mem_at (j := 129) (by decide +kernel)), (by decide +kernel), (by decide +kernel), ⟨(mem_at (j := 1260) (by decide +kernel)), (mem_at (j := 53) (by decide +kernel))⟩⟩
theorem kX4_56 : mLb RX4 56 mX4_joinCalls 1 0 false = true := mLb_of g0X4_joinCalls (mem_at (j := 1258) (by decide +kernel))
theorem g0X4_joinedPhase : mOk mX4_joinedPhase 1 0 := ⟨(mem_at (j := 1265) (by decide +kernel)), (mem_at (j := 129) (by decide +kernel)), (by decide +kernel), (by decide +kernel), ⟨(mem_at (j := 1264) (by decide +kernel)), (mem_at (j := 54) (by decide +kernel))⟩⟩
theorem kX4_75 : mLb RX4 75 mX4_joinedPhase 1 0 false = true := mLb_of g0X4_joinedPhase (mem_at (j := 1262) (by decide +kernel))
theorem kX4_78 : mLb RX4 78 mX0_callAt 2 0 false = true := mLb_of g0X0_callAt (mem_at (j := 1266) (by decide +kernel))
theorem g0X4_joinedCall : mOk mX4_joinedCall 2 0 := ⟨(mem_at (j := 1270) (by decide +kernel)), (mem_at (j := 129) (by decide +kernel)), (by decide +kernel), (by decide +kernel), ⟨(mem_at (j := 1269) (by decide +kernel)), (mem_at (j := 55) (by decide +kernel))⟩⟩
theorem kX4_81 : mLb RX4 81 mX4_joinedCall 2 0 false = true := mLb_of g0X4_joinedCall (mem_at (j := 1267) (by decide +kernel))
theorem kX4_84 : mLb RX4 84 mX0_setCall 3 0 false = true := mLb_of g0X0_setCall (mem_at (j := 1271) (by decide +kernel))
theorem g0X9_sort : mOk mX9_sort 1 0 := ⟨(mem_at (j := 1279) (by decide +kernel)), (mem_at (j := 122) (by decide +kernel)), (by decide +kernel), (by decide +kernel), ⟨(mem_at (j := 1277) (by decide +kernel)), (mem_at (j := 1278) (by decide +kernel))⟩⟩
theorem kL_51 : mLb RL 51 mX9_sort 1 0 false = true := mLb_of g0X9_sort (mem_at (j := 1276) (by decide +kernel))
theorem g0X9_apply : mOk mX9_apply 4 0 := ⟨(mem_at (j := 1286) (by decide +kernel)), (mem_at (j := 122) (by decide +kernel)), (by decide +kernel), (by decide +kernel), ⟨(mem_at (j := 1284) (by decide +kernel)), (mem_at (j := 1285) (by decide +kernel))⟩⟩
theorem kL_54 : mLb RL 54 mX9_apply 4 0 false = true := mLb_of g0X9_apply (mem_at (j := 1283) (by decide +kernel))
theorem g0X3_choose : mOk mX3_choose 4 0 := ⟨(mem_at (j := 1291) (by decide +kernel)), (mem_at (j := 130) (by decide +kernel)), (by decide +kernel), (by decide +kernel), ⟨(mem_at (j := 1289) (by decide +kernel)), (mem_at (j := 1290) (by decide +kernel))⟩⟩
theorem kX9_239 : mLb RX9 239 mX3_choose 4 0 false = true := mLb_of g0X3_choose (mem_at (j := 1288) (by decide +kernel))
theorem kX3_53 : mLb RX3 53 mX0_callAt 2 0 false = true := mLb_of g0X0_callAt (mem_at (j := 1292) (by decide +kernel))
theorem g0X3_insert : mOk mX3_insert 2 0 := ⟨(mem_at (j := 1296) (by decide +kernel)), (mem_at (j := 130) (by decide +kernel)), (by decide +kernel), (by decide +kernel), ⟨(mem_at (j := 1295) (by decide +kernel)), (mem_at (j := 56) (by decide +kernel))⟩⟩
theorem kX3_57 : mLb RX3 57 mX3_insert 2 0 false = true := mLb_of g0X3_insert (mem_at (j := 1293) (by decide +kernel))
theorem kX3_61 : mLb RX3 61 mX0_standsBehind 1 0 false = true := mLb_of g0X0_standsBehind (mem_at (j := 1297) (by decide +kernel))
theorem g0X3_clashes : mOk mX3_clashes 1 0 := ⟨(mem_at (j := 1301) (by decide +kernel)), (mem_at (j := 130) (by decide +kernel)), (by decide +kernel), (by decide +kernel), ⟨(mem_at (j := 1299) (by decide +kernel)), (mem_at (j := 1300) (by decide +kernel))⟩⟩
theorem kX9_243 : mLb RX9 243 mX3_clashes 1 0 false = true := mLb_of g0X3_clashes (mem_at (j := 1298) (by decide +kernel))
theorem g0X3_putOn : mOk mX3_putOn 6 0 := ⟨(mem_at (j := 1305) (by decide +kernel)), (mem_at (j := 130) (by decide +kernel)), (by decide +kernel), (by decide +kernel), ⟨(mem_at (j := 1303) (by decide +kernel)), (mem_at (j := 1304) (by decide +kernel))⟩⟩
theorem kX9_246 : mLb RX9 246 mX3_putOn 6 0 false = true := mLb_of g0X3_putOn (mem_at (j := 1302) (by decide +kernel))
theorem g0X1_writeLetters : mOk mX1_writeLetters 4 0 := ⟨(mem_at (j := 1309) (by decide +kernel)), (mem_at (j := 124) (by decide +kernel)), (by decide +kernel), (by decide +kernel), ⟨(mem_at (j := 1307) (by decide +kernel)), (mem_at (j := 1308) (by decide +kernel))⟩⟩
theorem kX3_71 : mLb RX3 71 mX1_writeLetters 4 0 false = true := mLb_of g0X1_writeLetters (mem_at (j := 1306) (by decide +kernel))
theorem g0X6_addPart : mOk mX6_addPart 3 0 := ⟨(mem_at (j := 1313) (by decide +kernel)), (mem_at (j := 123) (by decide +kernel)), (by decide +kernel), (by decide +kernel), ⟨(mem_at (j := 1311) (by decide +kernel)), (mem_at (j := 1312) (by decide +kernel))⟩⟩
theorem kX1_53 : mLb RX1 53 mX6_addPart 3 0 false = true := mLb_of g0X6_addPart (mem_at (j := 1310) (by decide +kernel))
theorem kX6_33 : mLb RX6 33 mX6_add 1 0 false = true := mLb_of g0X6_add (mem_at (j := 1314) (by decide +kernel))
theorem g0X0_writeRow : mOk mX0_writeRow 2 0 := ⟨(mem_at (j := 1318) (by decide +kernel)), (mem_at (j := 128) (by decide +kernel)), (by decide +kernel), (by decide +kernel), ⟨(mem_at (j := 1316) (by decide +kernel)), (mem_at (j := 1317) (by decide +kernel))⟩⟩
theorem kX3_80 : mLb RX3 80 mX0_writeRow 2 0 false = true := mLb_of g0X0_writeRow (mem_at (j := 1315) (by decide +kernel))
theorem kX0_161 : mLb RX0 161 mX6_addPart 3 0 false = true := mLb_of g0X6_addPart (mem_at (j := 1319) (by decide +kernel))
theorem kX3_84 : mLb RX3 84 mX1_sizeOf 1 0 false = true := mLb_of g0X1_sizeOf (mem_at (j := 1320) (by decide +kernel))
theorem g0X9_same : mOk mX9_same 4 0 := ⟨(mem_at (j := 1327) (by decide +kernel)), (mem_at (j := 122) (by decide +kernel)), (by decide +kernel), (by decide +kernel), ⟨(mem_at (j := 1325) (by decide +kernel)), (mem_at (j := 1326) (by decide +kernel))⟩⟩
theorem kL_57 : mLb RL 57 mX9_same 4 0 false = true := mLb_of g0X9_same (mem_at (j := 1324) (by decide +kernel))
theorem g0X0_meansSameAs : mOk mX0_meansSameAs 2 0 := ⟨(mem_at (j := 1331) (by decide +kernel)), (mem_at (j := 128) (by decide +kernel)), (by decide +kernel), (by decide +kernel), ⟨(mem_at (j := 1329) (by decide +kernel)), (mem_at (j := 1330) (by decide +kernel))⟩⟩
theorem kX9_256 : mLb RX9 256 mX0_meansSameAs 2 0 false = true := mLb_of g0X0_meansSameAs (mem_at (j := 1328) (by decide +kernel))
theorem g0X0_growth : mOk mX0_growth 0 0 := ⟨(mem_at (j := 1335) (by decide +kernel)), (mem_at (j := 128) (by decide +kernel)), (by decide +kernel), (by decide +kernel), ⟨(mem_at (j := 1334) (by decide +kernel)), (mem_at (j := 57) (by decide +kernel))⟩⟩
theorem kX0_132 : mLb RX0 132 mX0_growth 0 0 false = true := mLb_of g0X0_growth (mem_at (j := 1332) (by decide +kernel))
theorem g0X0_letterAfter : mOk mX0_letterAfter 2 0 := ⟨(mem_at (j := 1340) (by decide +kernel)), (mem_at (j := 128) (by decide +kernel)), (by decide +kernel), (by decide +kernel), ⟨(mem_at (j := 1339) (by decide +kernel)), (mem_at (j := 58) (by decide +kernel))⟩⟩
theorem kX0_138 : mLb RX0 138 mX0_letterAfter 2 0 false = true := mLb_of g0X0_letterAfter (mem_at (j := 1337) (by decide +kernel))
theorem g0X9_write : mOk mX9_write 1 0 := ⟨(mem_at (j := 1347) (by decide +kernel)), (mem_at (j := 122) (by decide +kernel)), (by decide +kernel), (by decide +kernel), ⟨(mem_at (j := 1345) (by decide +kernel)), (mem_at (j := 1346) (by decide +kernel))⟩⟩
theorem kL_61 : mLb RL 61 mX9_write 1 0 false = true := mLb_of g0X9_write (mem_at (j := 1344) (by decide +kernel))
theorem g0X7_writeTo : mOk mX7_writeTo 2 0 := ⟨(mem_at (j := 1351) (by decide +kernel)), (mem_at (j := 127) (by decide +kernel)), (by decide +kernel), (by decide +kernel), ⟨(mem_at (j := 1349) (by decide +kernel)), (mem_at (j := 1350) (by decide +kernel))⟩⟩
theorem kX9_260 : mLb RX9 260 mX7_writeTo 2 0 false = true := mLb_of g0X7_writeTo (mem_at (j := 1348) (by decide +kernel))
theorem g0X6_addText : mOk mX6_addText 1 0 := ⟨(mem_at (j := 1356) (by decide +kernel)), (mem_at (j := 123) (by decide +kernel)), (by decide +kernel), (by decide +kernel), ⟨(mem_at (j := 1354) (by decide +kernel)), (mem_at (j := 1355) (by decide +kernel))⟩⟩
theorem kX7_122 : mLb RX7 122 mX6_addText 1 0 false = true := mLb_of g0X6_addText (mem_at (j := 1353) (by decide +kernel))
theorem kX7_128 : mLb RX7 128 mX6_add 1 0 false = true := mLb_of g0X6_add (mem_at (j := 1357) (by decide +kernel))
theorem g0X5_writeName : mOk mX5_writeName 2 0 := ⟨(mem_at (j := 1363) (by decide +kernel)), (mem_at (j := 125) (by decide +kernel)), (by decide +kernel), (by decide +kernel), ⟨(mem_at (j := 1361) (by decide +kernel)), (mem_at (j := 1362) (by decide +kernel))⟩⟩
theorem kX7_135 : mLb RX7 135 mX5_writeName 2 0 false = true := mLb_of g0X5_writeName (mem_at (j := 1360) (by decide +kernel))
theorem kX5_52 : mLb RX5 52 mX6_addPart 3 0 false = true := mLb_of g0X6_addPart (mem_at (j := 1364) (by decide +kernel))
theorem g0X0_writeTo : mOk mX0_writeTo 3 0 := ⟨(mem_at (j := 1368) (by decide +kernel)), (mem_at (j := 128) (by decide +kernel)), (by decide +kernel), (by decide +kernel), ⟨(mem_at (j := 1366) (by decide +kernel)), (mem_at (j := 1367) (by decide +kernel))⟩⟩
theorem kX7_139 : mLb RX7 139 mX0_writeTo 3 0 false = true := mLb_of g0X0_writeTo (mem_at (j := 1365) (by decide +kernel))
theorem kX0_146 : mLb RX0 146 mX5_writeName 2 0 false = true := mLb_of g0X5_writeName (mem_at (j := 1369) (by decide +kernel))
theorem kX0_152 : mLb RX0 152 mX6_add 1 0 false = true := mLb_of g0X6_add (mem_at (j := 1370) (by decide +kernel))
theorem g0X6_addNumber : mOk mX6_addNumber 1 0 := ⟨(mem_at (j := 1374) (by decide +kernel)), (mem_at (j := 123) (by decide +kernel)), (by decide +kernel), (by decide +kernel), ⟨(mem_at (j := 1372) (by decide +kernel)), (mem_at (j := 1373) (by decide +kernel))⟩⟩
theorem kX0_158 : mLb RX0 158 mX6_addNumber 1 0 false = true := mLb_of g0X6_addNumber (mem_at (j := 1371) (by decide +kernel))
theorem kX0_165 : mLb RX0 165 mX0_writeRow 2 0 false = true := mLb_of g0X0_writeRow (mem_at (j := 1376) (by decide +kernel))
theorem g0X0_writeAlts : mOk mX0_writeAlts 1 0 := ⟨(mem_at (j := 1380) (by decide +kernel)), (mem_at (j := 128) (by decide +kernel)), (by decide +kernel), (by decide +kernel), ⟨(mem_at (j := 1379) (by decide +kernel)), (mem_at (j := 59) (by decide +kernel))⟩⟩
theorem kX0_168 : mLb RX0 168 mX0_writeAlts 1 0 false = true := mLb_of g0X0_writeAlts (mem_at (j := 1377) (by decide +kernel))
theorem g0X6_addNumberOrPoint : mOk mX6_addNumberOrPoint 1 0 := ⟨(mem_at (j := 1384) (by decide +kernel)), (mem_at (j := 123) (by decide +kernel)), (by decide +kernel), (by decide +kernel), ⟨(mem_at (j := 1382) (by decide +kernel)), (mem_at (j := 1383) (by decide +kernel))⟩⟩
theorem kX0_172 : mLb RX0 172 mX6_addNumberOrPoint 1 0 false = true := mLb_of g0X6_addNumberOrPoint (mem_at (j := 1381) (by decide +kernel))
theorem kX6_44 : mLb RX6 44 mX6_addNumber 1 0 false = true := mLb_of g0X6_addNumber (mem_at (j := 1385) (by decide +kernel))
theorem kX0_179 : mLb RX0 179 mX6_addText 1 0 false = true := mLb_of g0X6_addText (mem_at (j := 1388) (by decide +kernel))
theorem g0X0_writeCalls : mOk mX0_writeCalls 2 0 := ⟨(mem_at (j := 1393) (by decide +kernel)), (mem_at (j := 128) (by decide +kernel)), (by decide +kernel), (by decide +kernel), ⟨(mem_at (j := 1392) (by decide +kernel)), (mem_at (j := 60) (by decide +kernel))⟩⟩
theorem kX0_185 : mLb RX0 185 mX0_writeCalls 2 0 false = true := mLb_of g0X0_writeCalls (mem_at (j := 1390) (by decide +kernel))
theorem g2X10_init : mOk mX10_init 0 2 := ⟨(mem_at (j := 1398) (by decide +kernel)), (mem_at (j := 131) (by decide +kernel)), (by decide +kernel), (by decide +kernel), ⟨(by decide +kernel), (mem_at (j := 1397) (by decide +kernel))⟩⟩
theorem kL_67 : mLb RL 67 mX10_init 0 2 false = true := mLb_of g2X10_init (mem_at (j := 1396) (by decide +kernel))
theorem g0X10_thrown : mOk mX10_thrown 0 0 := ⟨(mem_at (j := 1563) (by decide +kernel)), (mem_at (j := 131) (by decide +kernel)), (by decide +kernel), (by decide +kernel), ⟨(mem_at (j := 1561) (by decide +kernel)), (mem_at (j := 1562) (by decide +kernel))⟩⟩
theorem kL_76 : mLb RL 76 mX10_thrown 0 0 false = true := mLb_of g0X10_thrown (mem_at (j := 1560) (by decide +kernel))
theorem g0X10_feed : mOk mX10_feed 2 0 := ⟨(mem_at (j := 1567) (by decide +kernel)), (mem_at (j := 131) (by decide +kernel)), (by decide +kernel), (by decide +kernel), ⟨(mem_at (j := 1565) (by decide +kernel)), (mem_at (j := 1566) (by decide +kernel))⟩⟩
theorem kL_75 : mLb RL 75 mX10_feed 2 0 false = true := mLb_of g0X10_feed (mem_at (j := 1564) (by decide +kernel))
theorem g1X10_in : mOk mX10_in 3 1 := ⟨(mem_at (j := 1570) (by decide +kernel)), (mem_at (j := 131) (by decide +kernel)), (by decide +kernel), (by decide +kernel), (mem_at (j := 1569) (by decide +kernel))⟩
theorem kX10_136 : mLb RX10 136 mX10_in 3 1 false = true := mLb_of g1X10_in (mem_at (j := 1568) (by decide +kernel))
theorem g0X10_goes : mOk mX10_goes 1 0 := ⟨(mem_at (j := 1574) (by decide +kernel)), (mem_at (j := 131) (by decide +kernel)), (by decide +kernel), (by decide +kernel), ⟨(mem_at (j := 1573) (by decide +kernel)), (mem_at (j := 61) (by decide +kernel))⟩⟩
theorem kX10_143 : mLb RX10 143 mX10_goes 1 0 false = true := mLb_of g0X10_goes (mem_at (j := 1571) (by decide +kernel))
theorem g0X10_reference : mOk mX10_reference 0 0 := ⟨(mem_at (j := 1578) (by decide +kernel)), (mem_at (j := 131) (by decide +kernel)), (by decide +kernel), (by decide +kernel), ⟨(mem_at (j := 1576) (by decide +kernel)), (mem_at (j := 1577) (by decide +kernel))⟩⟩
theorem kL_83 : mLb RL 83 mX10_reference 0 0 false = true := mLb_of g0X10_reference (mem_at (j := 1575) (by decide +kernel))
theorem g0X10_readName : mOk mX10_readName 1 0 := ⟨(mem_at (j := 1582) (by decide +kernel)), (mem_at (j := 131) (by decide +kernel)), (by decide +kernel), (by decide +kernel), ⟨(mem_at (j := 1581) (by decide +kernel)), (mem_at (j := 62) (by decide +kernel))⟩⟩
theorem kX10_177 : mLb RX10 177 mX10_readName 1 0 false = true := mLb_of g0X10_readName (mem_at (j := 1579) (by decide +kernel))
theorem g0X10_at : mOk mX10_at 1 0 := ⟨(mem_at (j := 1586) (by decide +kernel)), (mem_at (j := 131) (by decide +kernel)), (by decide +kernel), (by decide +kernel), ⟨(mem_at (j := 1585) (by decide +kernel)), (mem_at (j := 63) (by decide +kernel))⟩⟩
theorem kX10_156 : mLb RX10 156 mX10_at 1 0 false = true := mLb_of g0X10_at (mem_at (j := 1583) (by decide +kernel))
theorem g0X10_bad : mOk mX10_bad 2 0 := ⟨(mem_at (j := 1590) (by decide +kernel)), (mem_at (j := 131) (by decide +kernel)), (by decide +kernel), (by decide +kernel), ⟨(mem_at (j := 1589) (by decide +kernel)), (mem_at (j := 64) (by decide +kernel))⟩⟩
theorem kX10_160 : mLb RX10 160 mX10_bad 2 0 false = true := mLb_of g0X10_bad (mem_at (j := 1587) (by decide +kernel))
theorem g1X10_isNameSign : mOk mX10_isNameSign 1 1 := ⟨(mem_at (j := 1593) (by decide +kernel)), (mem_at (j := 131) (by decide +kernel)), (by decide +kernel), (by decide +kernel), (mem_at (j := 1592) (by decide +kernel))⟩
theorem kX10_164 : mLb RX10 164 mX10_isNameSign 1 1 false = true := mLb_of g1X10_isNameSign (mem_at (j := 1591) (by decide +kernel))
theorem g0X10_isOld : mOk mX10_isOld 1 0 := ⟨(mem_at (j := 1597) (by decide +kernel)), (mem_at (j := 131) (by decide +kernel)), (by decide +kernel), (by decide +kernel), ⟨(mem_at (j := 1596) (by decide +kernel)), (mem_at (j := 65) (by decide +kernel))⟩⟩
theorem kX10_168 : mLb RX10 168 mX10_isOld 1 0 false = true := mLb_of g0X10_isOld (mem_at (j := 1594) (by decide +kernel))
theorem g0X10_readLetters : mOk mX10_readLetters 1 0 := ⟨(mem_at (j := 1601) (by decide +kernel)), (mem_at (j := 131) (by decide +kernel)), (by decide +kernel), (by decide +kernel), ⟨(mem_at (j := 1600) (by decide +kernel)), (mem_at (j := 66) (by decide +kernel))⟩⟩
theorem kX10_180 : mLb RX10 180 mX10_readLetters 1 0 false = true := mLb_of g0X10_readLetters (mem_at (j := 1598) (by decide +kernel))
theorem g1X10_letterOf : mOk mX10_letterOf 1 1 := ⟨(mem_at (j := 1604) (by decide +kernel)), (mem_at (j := 131) (by decide +kernel)), (by decide +kernel), (by decide +kernel), (mem_at (j := 1603) (by decide +kernel))⟩
theorem kX10_174 : mLb RX10 174 mX10_letterOf 1 1 false = true := mLb_of g1X10_letterOf (mem_at (j := 1602) (by decide +kernel))
theorem g0X10_read : mOk mX10_read 1 0 := ⟨(mem_at (j := 1608) (by decide +kernel)), (mem_at (j := 131) (by decide +kernel)), (by decide +kernel), (by decide +kernel), ⟨(mem_at (j := 1606) (by decide +kernel)), (mem_at (j := 1607) (by decide +kernel))⟩⟩
theorem kL_87 : mLb RL 87 mX10_read 1 0 false = true := mLb_of g0X10_read (mem_at (j := 1605) (by decide +kernel))
theorem g0X10_readTable : mOk mX10_readTable 0 0 := ⟨(mem_at (j := 1612) (by decide +kernel)), (mem_at (j := 131) (by decide +kernel)), (by decide +kernel), (by decide +kernel), ⟨(mem_at (j := 1611) (by decide +kernel)), (mem_at (j := 67) (by decide +kernel))⟩⟩
theorem kX10_300 : mLb RX10 300 mX10_readTable 0 0 false = true := mLb_of g0X10_readTable (mem_at (j := 1609) (by decide +kernel))
theorem g0X10_needLine : mOk mX10_needLine 1 0 := ⟨(mem_at (j := 1616) (by decide +kernel)), (mem_at (j := 131) (by decide +kernel)), (by decide +kernel), (by decide +kernel), ⟨(mem_at (j := 1615) (by decide +kernel)), (mem_at (j := 68) (by decide +kernel))⟩⟩
theorem kX10_291 : mLb RX10 291 mX10_needLine 1 0 false = true := mLb_of g0X10_needLine (mem_at (j := 1613) (by decide +kernel))
theorem g0X10_lineEnd : mOk mX10_lineEnd 1 0 := ⟨(mem_at (j := 1620) (by decide +kernel)), (mem_at (j := 131) (by decide +kernel)), (by decide +kernel), (by decide +kernel), ⟨(mem_at (j := 1619) (by decide +kernel)), (mem_at (j := 69) (by decide +kernel))⟩⟩
theorem kX10_288 : mLb RX10 288 mX10_lineEnd 1 0 false = true := mLb_of g0X10_lineEnd (mem_at (j := 1617) (by decide +kernel))
theorem g0X10_isText : mOk mX10_isText 3 0 := ⟨(mem_at (j := 1624) (by decide +kernel)), (mem_at (j := 131) (by decide +kernel)), (by decide +kernel), (by decide +kernel), ⟨(mem_at (j := 1623) (by decide +kernel)), (mem_at (j := 70) (by decide +kernel))⟩⟩
theorem kX10_241 : mLb RX10 241 mX10_isText 3 0 false = true := mLb_of g0X10_isText (mem_at (j := 1621) (by decide +kernel))
theorem g1X10_sizeOf : mOk mX10_sizeOf 1 1 := ⟨(mem_at (j := 1627) (by decide +kernel)), (mem_at (j := 131) (by decide +kernel)), (by decide +kernel), (by decide +kernel), (mem_at (j := 1626) (by decide +kernel))⟩
theorem kX10_228 : mLb RX10 228 mX10_sizeOf 1 1 false = true := mLb_of g1X10_sizeOf (mem_at (j := 1625) (by decide +kernel))
theorem g0X10_begins : mOk mX10_begins 3 0 := ⟨(mem_at (j := 1631) (by decide +kernel)), (mem_at (j := 131) (by decide +kernel)), (by decide +kernel), (by decide +kernel), ⟨(mem_at (j := 1630) (by decide +kernel)), (mem_at (j := 71) (by decide +kernel))⟩⟩
theorem kX10_235 : mLb RX10 235 mX10_begins 3 0 false = true := mLb_of g0X10_begins (mem_at (j := 1628) (by decide +kernel))
theorem g1X10_octetOf : mOk mX10_octetOf 2 1 := ⟨(mem_at (j := 1634) (by decide +kernel)), (mem_at (j := 131) (by decide +kernel)), (by decide +kernel), (by decide +kernel), (mem_at (j := 1633) (by decide +kernel))⟩
theorem kX10_231 : mLb RX10 231 mX10_octetOf 2 1 false = true := mLb_of g1X10_octetOf (mem_at (j := 1632) (by decide +kernel))
theorem g1X10_eightOf : mOk mX10_eightOf 2 1 := ⟨(mem_at (j := 1637) (by decide +kernel)), (mem_at (j := 131) (by decide +kernel)), (by decide +kernel), (by decide +kernel), (mem_at (j := 1636) (by decide +kernel))⟩
theorem kX10_224 : mLb RX10 224 mX10_eightOf 2 1 false = true := mLb_of g1X10_eightOf (mem_at (j := 1635) (by decide +kernel))
theorem g0X10_readHead : mOk mX10_readHead 2 0 := ⟨(mem_at (j := 1653) (by decide +kernel)), (mem_at (j := 131) (by decide +kernel)), (by decide +kernel), (by decide +kernel), ⟨(mem_at (j := 1652) (by decide +kernel)), (mem_at (j := 72) (by decide +kernel))⟩⟩
theorem kX10_294 : mLb RX10 294 mX10_readHead 2 0 false = true := mLb_of g0X10_readHead (mem_at (j := 1650) (by decide +kernel))
theorem g0X10_columnEnd : mOk mX10_columnEnd 2 0 := ⟨(mem_at (j := 1657) (by decide +kernel)), (mem_at (j := 131) (by decide +kernel)), (by decide +kernel), (by decide +kernel), ⟨(mem_at (j := 1656) (by decide +kernel)), (mem_at (j := 73) (by decide +kernel))⟩⟩
theorem kX10_238 : mLb RX10 238 mX10_columnEnd 2 0 false = true := mLb_of g0X10_columnEnd (mem_at (j := 1654) (by decide +kernel))
theorem g0X10_isShown : mOk mX10_isShown 2 0 := ⟨(mem_at (j := 1661) (by decide +kernel)), (mem_at (j := 131) (by decide +kernel)), (by decide +kernel), (by decide +kernel), ⟨(mem_at (j := 1660) (by decide +kernel)), (mem_at (j := 74) (by decide +kernel))⟩⟩
theorem kX10_244 : mLb RX10 244 mX10_isShown 2 0 false = true := mLb_of g0X10_isShown (mem_at (j := 1658) (by decide +kernel))
theorem g0X10_sameName : mOk mX10_sameName 4 0 := ⟨(mem_at (j := 1665) (by decide +kernel)), (mem_at (j := 131) (by decide +kernel)), (by decide +kernel), (by decide +kernel), ⟨(mem_at (j := 1664) (by decide +kernel)), (mem_at (j := 75) (by decide +kernel))⟩⟩
theorem kX10_248 : mLb RX10 248 mX10_sameName 4 0 false = true := mLb_of g0X10_sameName (mem_at (j := 1662) (by decide +kernel))
theorem g0X10_readRecord : mOk mX10_readRecord 2 0 := ⟨(mem_at (j := 1669) (by decide +kernel)), (mem_at (j := 131) (by decide +kernel)), (by decide +kernel), (by decide +kernel), ⟨(mem_at (j := 1668) (by decide +kernel)), (mem_at (j := 76) (by decide +kernel))⟩⟩
theorem kX10_297 : mLb RX10 297 mX10_readRecord 2 0 false = true := mLb_of g0X10_readRecord (mem_at (j := 1666) (by decide +kernel))
theorem g0X10_columns : mOk mX10_columns 2 0 := ⟨(mem_at (j := 1673) (by decide +kernel)), (mem_at (j := 131) (by decide +kernel)), (by decide +kernel), (by decide +kernel), ⟨(mem_at (j := 1672) (by decide +kernel)), (mem_at (j := 77) (by decide +kernel))⟩⟩
theorem kX10_282 : mLb RX10 282 mX10_columns 2 0 false = true := mLb_of g0X10_columns (mem_at (j := 1670) (by decide +kernel))
theorem g0X10_readColumn : mOk mX10_readColumn 4 0 := ⟨(mem_at (j := 1677) (by decide +kernel)), (mem_at (j := 131) (by decide +kernel)), (by decide +kernel), (by decide +kernel), ⟨(mem_at (j := 1676) (by decide +kernel)), (mem_at (j := 78) (by decide +kernel))⟩⟩
theorem kX10_285 : mLb RX10 285 mX10_readColumn 4 0 false = true := mLb_of g0X10_readColumn (mem_at (j := 1674) (by decide +kernel))
theorem g0X10_sequenceNamed : mOk mX10_sequenceNamed 2 0 := ⟨(mem_at (j := 1681) (by decide +kernel)), (mem_at (j := 131) (by decide +kernel)), (by decide +kernel), (by decide +kernel), ⟨(mem_at (j := 1680) (by decide +kernel)), (mem_at (j := 79) (by decide +kernel))⟩⟩
theorem kX10_264 : mLb RX10 264 mX10_sequenceNamed 2 0 false = true := mLb_of g0X10_sequenceNamed (mem_at (j := 1678) (by decide +kernel))
theorem g0X10_numberOf : mOk mX10_numberOf 3 0 := ⟨(mem_at (j := 1685) (by decide +kernel)), (mem_at (j := 131) (by decide +kernel)), (by decide +kernel), (by decide +kernel), ⟨(mem_at (j := 1684) (by decide +kernel)), (mem_at (j := 80) (by decide +kernel))⟩⟩
theorem kX10_267 : mLb RX10 267 mX10_numberOf 3 0 false = true := mLb_of g0X10_numberOf (mem_at (j := 1682) (by decide +kernel))
theorem g0X10_readRef : mOk mX10_readRef 3 0 := ⟨(mem_at (j := 1689) (by decide +kernel)), (mem_at (j := 131) (by decide +kernel)), (by decide +kernel), (by decide +kernel), ⟨(mem_at (j := 1688) (by decide +kernel)), (mem_at (j := 81) (by decide +kernel))⟩⟩
theorem kX10_271 : mLb RX10 271 mX10_readRef 3 0 false = true := mLb_of g0X10_readRef (mem_at (j := 1686) (by decide +kernel))
theorem g0X10_readRow : mOk mX10_readRow 4 0 := ⟨(mem_at (j := 1693) (by decide +kernel)), (mem_at (j := 131) (by decide +kernel)), (by decide +kernel), (by decide +kernel), ⟨(mem_at (j := 1692) (by decide +kernel)), (mem_at (j := 82) (by decide +kernel))⟩⟩
theorem kX10_252 : mLb RX10 252 mX10_readRow 4 0 false = true := mLb_of g0X10_readRow (mem_at (j := 1690) (by decide +kernel))
theorem g0X10_refAt : mOk mX10_refAt 2 0 := ⟨(mem_at (j := 1697) (by decide +kernel)), (mem_at (j := 131) (by decide +kernel)), (by decide +kernel), (by decide +kernel), ⟨(mem_at (j := 1696) (by decide +kernel)), (mem_at (j := 83) (by decide +kernel))⟩⟩
theorem kX10_255 : mLb RX10 255 mX10_refAt 2 0 false = true := mLb_of g0X10_refAt (mem_at (j := 1694) (by decide +kernel))
theorem g0X10_readAlts : mOk mX10_readAlts 3 0 := ⟨(mem_at (j := 1701) (by decide +kernel)), (mem_at (j := 131) (by decide +kernel)), (by decide +kernel), (by decide +kernel), ⟨(mem_at (j := 1700) (by decide +kernel)), (mem_at (j := 84) (by decide +kernel))⟩⟩
theorem kX10_275 : mLb RX10 275 mX10_readAlts 3 0 false = true := mLb_of g0X10_readAlts (mem_at (j := 1698) (by decide +kernel))
theorem g0X10_sameRow : mOk mX10_sameRow 4 0 := ⟨(mem_at (j := 1705) (by decide +kernel)), (mem_at (j := 131) (by decide +kernel)), (by decide +kernel), (by decide +kernel), ⟨(mem_at (j := 1704) (by decide +kernel)), (mem_at (j := 85) (by decide +kernel))⟩⟩
theorem kX10_258 : mLb RX10 258 mX10_sameRow 4 0 false = true := mLb_of g0X10_sameRow (mem_at (j := 1702) (by decide +kernel))
theorem g0X10_readCalls : mOk mX10_readCalls 4 0 := ⟨(mem_at (j := 1710) (by decide +kernel)), (mem_at (j := 131) (by decide +kernel)), (by decide +kernel), (by decide +kernel), ⟨(mem_at (j := 1709) (by decide +kernel)), (mem_at (j := 86) (by decide +kernel))⟩⟩
theorem kX10_279 : mLb RX10 279 mX10_readCalls 4 0 false = true := mLb_of g0X10_readCalls (mem_at (j := 1707) (by decide +kernel))
theorem g0X10_callOf : mOk mX10_callOf 2 0 := ⟨(mem_at (j := 1714) (by decide +kernel)), (mem_at (j := 131) (by decide +kernel)), (by decide +kernel), (by decide +kernel), ⟨(mem_at (j := 1713) (by decide +kernel)), (mem_at (j := 87) (by decide +kernel))⟩⟩
theorem kX10_261 : mLb RX10 261 mX10_callOf 2 0 false = true := mLb_of g0X10_callOf (mem_at (j := 1711) (by decide +kernel))
theorem g0X10_copyTable : mOk mX10_copyTable 2 0 := ⟨(mem_at (j := 1718) (by decide +kernel)), (mem_at (j := 131) (by decide +kernel)), (by decide +kernel), (by decide +kernel), ⟨(mem_at (j := 1717) (by decide +kernel)), (mem_at (j := 88) (by decide +kernel))⟩⟩
theorem kX10_303 : mLb RX10 303 mX10_copyTable 2 0 false = true := mLb_of g0X10_copyTable (mem_at (j := 1715) (by decide +kernel))
theorem g0X10_copySample : mOk mX10_copySample 4 0 := ⟨(mem_at (j := 1722) (by decide +kernel)), (mem_at (j := 131) (by decide +kernel)), (by decide +kernel), (by decide +kernel), ⟨(mem_at (j := 1721) (by decide +kernel)), (mem_at (j := 89) (by decide +kernel))⟩⟩
theorem kX10_194 : mLb RX10 194 mX10_copySample 4 0 false = true := mLb_of g0X10_copySample (mem_at (j := 1719) (by decide +kernel))
theorem g0X10_copy : mOk mX10_copy 2 0 := ⟨(mem_at (j := 1726) (by decide +kernel)), (mem_at (j := 131) (by decide +kernel)), (by decide +kernel), (by decide +kernel), ⟨(mem_at (j := 1725) (by decide +kernel)), (mem_at (j := 90) (by decide +kernel))⟩⟩
theorem kX10_197 : mLb RX10 197 mX10_copy 2 0 false = true := mLb_of g0X10_copy (mem_at (j := 1723) (by decide +kernel))
theorem g0X10_copyCalls : mOk mX10_copyCalls 4 0 := ⟨(mem_at (j := 1730) (by decide +kernel)), (mem_at (j := 131) (by decide +kernel)), (by decide +kernel), (by decide +kernel), ⟨(mem_at (j := 1729) (by decide +kernel)), (mem_at (j := 91) (by decide +kernel))⟩⟩
theorem kX10_190 : mLb RX10 190 mX10_copyCalls 4 0 false = true := mLb_of g0X10_copyCalls (mem_at (j := 1727) (by decide +kernel))
theorem g0X10_place : mOk mX10_place 0 0 := ⟨(mem_at (j := 1734) (by decide +kernel)), (mem_at (j := 131) (by decide +kernel)), (by decide +kernel), (by decide +kernel), ⟨(mem_at (j := 1732) (by decide +kernel)), (mem_at (j := 1733) (by decide +kernel))⟩⟩
theorem kL_91 : mLb RL 91 mX10_place 0 0 false = true := mLb_of g0X10_place (mem_at (j := 1731) (by decide +kernel))
theorem g0X10_sequence : mOk mX10_sequence 2 0 := ⟨(mem_at (j := 1738) (by decide +kernel)), (mem_at (j := 131) (by decide +kernel)), (by decide +kernel), (by decide +kernel), ⟨(mem_at (j := 1736) (by decide +kernel)), (mem_at (j := 1737) (by decide +kernel))⟩⟩
theorem kL_95 : mLb RL 95 mX10_sequence 2 0 false = true := mLb_of g0X10_sequence (mem_at (j := 1735) (by decide +kernel))
theorem g0X10_letter : mOk mX10_letter 2 0 := ⟨(mem_at (j := 1742) (by decide +kernel)), (mem_at (j := 131) (by decide +kernel)), (by decide +kernel), (by decide +kernel), ⟨(mem_at (j := 1740) (by decide +kernel)), (mem_at (j := 1741) (by decide +kernel))⟩⟩
theorem kL_98 : mLb RL 98 mX10_letter 2 0 false = true := mLb_of g0X10_letter (mem_at (j := 1739) (by decide +kernel))
theorem g0X10_table : mOk mX10_table 2 0 := ⟨(mem_at (j := 1746) (by decide +kernel)), (mem_at (j := 131) (by decide +kernel)), (by decide +kernel), (by decide +kernel), ⟨(mem_at (j := 1744) (by decide +kernel)), (mem_at (j := 1745) (by decide +kernel))⟩⟩
theorem kL_101 : mLb RL 101 mX10_table 2 0 false = true := mLb_of g0X10_table (mem_at (j := 1743) (by decide +kernel))
theorem g0X10_record : mOk mX10_record 3 0 := ⟨(mem_at (j := 1750) (by decide +kernel)), (mem_at (j := 131) (by decide +kernel)), (by decide +kernel), (by decide +kernel), ⟨(mem_at (j := 1748) (by decide +kernel)), (mem_at (j := 1749) (by decide +kernel))⟩⟩
theorem kL_105 : mLb RL 105 mX10_record 3 0 false = true := mLb_of g0X10_record (mem_at (j := 1747) (by decide +kernel))
theorem g0X10_isRecord : mOk mX10_isRecord 2 0 := ⟨(mem_at (j := 1754) (by decide +kernel)), (mem_at (j := 131) (by decide +kernel)), (by decide +kernel), (by decide +kernel), ⟨(mem_at (j := 1753) (by decide +kernel)), (mem_at (j := 92) (by decide +kernel))⟩⟩
theorem kX10_306 : mLb RX10 306 mX10_isRecord 2 0 false = true := mLb_of g0X10_isRecord (mem_at (j := 1751) (by decide +kernel))
theorem g0X10_row : mOk mX10_row 4 0 := ⟨(mem_at (j := 1758) (by decide +kernel)), (mem_at (j := 131) (by decide +kernel)), (by decide +kernel), (by decide +kernel), ⟨(mem_at (j := 1756) (by decide +kernel)), (mem_at (j := 1757) (by decide +kernel))⟩⟩
theorem kL_109 : mLb RL 109 mX10_row 4 0 false = true := mLb_of g0X10_row (mem_at (j := 1755) (by decide +kernel))
theorem g0X10_call : mOk mX10_call 4 0 := ⟨(mem_at (j := 1762) (by decide +kernel)), (mem_at (j := 131) (by decide +kernel)), (by decide +kernel), (by decide +kernel), ⟨(mem_at (j := 1760) (by decide +kernel)), (mem_at (j := 1761) (by decide +kernel))⟩⟩
theorem kL_112 : mLb RL 112 mX10_call 4 0 false = true := mLb_of g0X10_call (mem_at (j := 1759) (by decide +kernel))
theorem g0X10_normalise : mOk mX10_normalise 1 0 := ⟨(mem_at (j := 1766) (by decide +kernel)), (mem_at (j := 131) (by decide +kernel)), (by decide +kernel), (by decide +kernel), ⟨(mem_at (j := 1764) (by decide +kernel)), (mem_at (j := 1765) (by decide +kernel))⟩⟩
theorem kL_115 : mLb RL 115 mX10_normalise 1 0 false = true := mLb_of g0X10_normalise (mem_at (j := 1763) (by decide +kernel))
theorem g0X10_makeNormal : mOk mX10_makeNormal 1 0 := ⟨(mem_at (j := 1770) (by decide +kernel)), (mem_at (j := 131) (by decide +kernel)), (by decide +kernel), (by decide +kernel), ⟨(mem_at (j := 1769) (by decide +kernel)), (mem_at (j := 93) (by decide +kernel))⟩⟩
theorem kX10_328 : mLb RX10 328 mX10_makeNormal 1 0 false = true := mLb_of g0X10_makeNormal (mem_at (j := 1767) (by decide +kernel))
theorem g0X10_endAlike : mOk mX10_endAlike 1 0 := ⟨(mem_at (j := 1774) (by decide +kernel)), (mem_at (j := 131) (by decide +kernel)), (by decide +kernel), (by decide +kernel), ⟨(mem_at (j := 1773) (by decide +kernel)), (mem_at (j := 94) (by decide +kernel))⟩⟩
theorem kX10_312 : mLb RX10 312 mX10_endAlike 1 0 false = true := mLb_of g0X10_endAlike (mem_at (j := 1771) (by decide +kernel))
theorem g0X10_lastOf : mOk mX10_lastOf 2 0 := ⟨(mem_at (j := 1778) (by decide +kernel)), (mem_at (j := 131) (by decide +kernel)), (by decide +kernel), (by decide +kernel), ⟨(mem_at (j := 1777) (by decide +kernel)), (mem_at (j := 95) (by decide +kernel))⟩⟩
theorem kX10_309 : mLb RX10 309 mX10_lastOf 2 0 false = true := mLb_of g0X10_lastOf (mem_at (j := 1775) (by decide +kernel))
theorem g0X10_allLong : mOk mX10_allLong 1 0 := ⟨(mem_at (j := 1782) (by decide +kernel)), (mem_at (j := 131) (by decide +kernel)), (by decide +kernel), (by decide +kernel), ⟨(mem_at (j := 1781) (by decide +kernel)), (mem_at (j := 96) (by decide +kernel))⟩⟩
theorem kX10_315 : mLb RX10 315 mX10_allLong 1 0 false = true := mLb_of g0X10_allLong (mem_at (j := 1779) (by decide +kernel))
theorem g0X10_toFront : mOk mX10_toFront 2 0 := ⟨(mem_at (j := 1786) (by decide +kernel)), (mem_at (j := 131) (by decide +kernel)), (by decide +kernel), (by decide +kernel), ⟨(mem_at (j := 1785) (by decide +kernel)), (mem_at (j := 97) (by decide +kernel))⟩⟩
theorem kX10_318 : mLb RX10 318 mX10_toFront 2 0 false = true := mLb_of g0X10_toFront (mem_at (j := 1783) (by decide +kernel))
theorem g0X10_beginAlike : mOk mX10_beginAlike 1 0 := ⟨(mem_at (j := 1790) (by decide +kernel)), (mem_at (j := 131) (by decide +kernel)), (by decide +kernel), (by decide +kernel), ⟨(mem_at (j := 1789) (by decide +kernel)), (mem_at (j := 98) (by decide +kernel))⟩⟩
theorem kX10_321 : mLb RX10 321 mX10_beginAlike 1 0 false = true := mLb_of g0X10_beginAlike (mem_at (j := 1787) (by decide +kernel))
theorem g0X10_fromFront : mOk mX10_fromFront 1 0 := ⟨(mem_at (j := 1794) (by decide +kernel)), (mem_at (j := 131) (by decide +kernel)), (by decide +kernel), (by decide +kernel), ⟨(mem_at (j := 1793) (by decide +kernel)), (mem_at (j := 99) (by decide +kernel))⟩⟩
theorem kX10_324 : mLb RX10 324 mX10_fromFront 1 0 false = true := mLb_of g0X10_fromFront (mem_at (j := 1791) (by decide +kernel))
theorem g0X10_split : mOk mX10_split 1 0 := ⟨(mem_at (j := 1798) (by decide +kernel)), (mem_at (j := 131) (by decide +kernel)), (by decide +kernel), (by decide +kernel), ⟨(mem_at (j := 1796) (by decide +kernel)), (mem_at (j := 1797) (by decide +kernel))⟩⟩
theorem kL_118 : mLb RL 118 mX10_split 1 0 false = true := mLb_of g0X10_split (mem_at (j := 1795) (by decide +kernel))
theorem g0X10_join : mOk mX10_join 1 0 := ⟨(mem_at (j := 1802) (by decide +kernel)), (mem_at (j := 131) (by decide +kernel)), (by decide +kernel), (by decide +kernel), ⟨(mem_at (j := 1800) (by decide +kernel)), (mem_at (j := 1801) (by decide +kernel))⟩⟩
theorem kL_121 : mLb RL 121 mX10_join 1 0 false = true := mLb_of g0X10_join (mem_at (j := 1799) (by decide +kernel))
theorem g0X10_tryJoin : mOk mX10_tryJoin 3 0 := ⟨(mem_at (j := 1806) (by decide +kernel)), (mem_at (j := 131) (by decide +kernel)), (by decide +kernel), (by decide +kernel), ⟨(mem_at (j := 1805) (by decide +kernel)), (mem_at (j := 100) (by decide +kernel))⟩⟩
theorem kX10_341 : mLb RX10 341 mX10_tryJoin 3 0 false = true := mLb_of g0X10_tryJoin (mem_at (j := 1803) (by decide +kernel))
theorem g0X10_longer : mOk mX10_longer 5 0 := ⟨(mem_at (j := 1810) (by decide +kernel)), (mem_at (j := 131) (by decide +kernel)), (by decide +kernel), (by decide +kernel), ⟨(mem_at (j := 1809) (by decide +kernel)), (mem_at (j := 101) (by decide +kernel))⟩⟩
theorem kX10_331 : mLb RX10 331 mX10_longer 5 0 false = true := mLb_of g0X10_longer (mem_at (j := 1807) (by decide +kernel))
theorem g0X10_joinCalls : mOk mX10_joinCalls 4 0 := ⟨(mem_at (j := 1814) (by decide +kernel)), (mem_at (j := 131) (by decide +kernel)), (by decide +kernel), (by decide +kernel), ⟨(mem_at (j := 1813) (by decide +kernel)), (mem_at (j := 102) (by decide +kernel))⟩⟩
theorem kX10_335 : mLb RX10 335 mX10_joinCalls 4 0 false = true := mLb_of g0X10_joinCalls (mem_at (j := 1811) (by decide +kernel))
theorem g0X10_callAt : mOk mX10_callAt 3 0 := ⟨(mem_at (j := 1818) (by decide +kernel)), (mem_at (j := 131) (by decide +kernel)), (by decide +kernel), (by decide +kernel), ⟨(mem_at (j := 1817) (by decide +kernel)), (mem_at (j := 103) (by decide +kernel))⟩⟩
theorem kX10_338 : mLb RX10 338 mX10_callAt 3 0 false = true := mLb_of g0X10_callAt (mem_at (j := 1815) (by decide +kernel))
theorem g0X10_sort : mOk mX10_sort 1 0 := ⟨(mem_at (j := 1822) (by decide +kernel)), (mem_at (j := 131) (by decide +kernel)), (by decide +kernel), (by decide +kernel), ⟨(mem_at (j := 1820) (by decide +kernel)), (mem_at (j := 1821) (by decide +kernel))⟩⟩
theorem kL_124 : mLb RL 124 mX10_sort 1 0 false = true := mLb_of g0X10_sort (mem_at (j := 1819) (by decide +kernel))
theorem g0X10_sortInto : mOk mX10_sortInto 2 0 := ⟨(mem_at (j := 1826) (by decide +kernel)), (mem_at (j := 131) (by decide +kernel)), (by decide +kernel), (by decide +kernel), ⟨(mem_at (j := 1825) (by decide +kernel)), (mem_at (j := 104) (by decide +kernel))⟩⟩
theorem kX10_350 : mLb RX10 350 mX10_sortInto 2 0 false = true := mLb_of g0X10_sortInto (mem_at (j := 1823) (by decide +kernel))
theorem g0X10_rank : mOk mX10_rank 2 0 := ⟨(mem_at (j := 1830) (by decide +kernel)), (mem_at (j := 131) (by decide +kernel)), (by decide +kernel), (by decide +kernel), ⟨(mem_at (j := 1829) (by decide +kernel)), (mem_at (j := 105) (by decide +kernel))⟩⟩
theorem kX10_347 : mLb RX10 347 mX10_rank 2 0 false = true := mLb_of g0X10_rank (mem_at (j := 1827) (by decide +kernel))
theorem g0X10_isBefore : mOk mX10_isBefore 2 0 := ⟨(mem_at (j := 1834) (by decide +kernel)), (mem_at (j := 131) (by decide +kernel)), (by decide +kernel), (by decide +kernel), ⟨(mem_at (j := 1833) (by decide +kernel)), (mem_at (j := 106) (by decide +kernel))⟩⟩
theorem kX10_344 : mLb RX10 344 mX10_isBefore 2 0 false = true := mLb_of g0X10_isBefore (mem_at (j := 1831) (by decide +kernel))
theorem g0X10_merge : mOk mX10_merge 0 0 := ⟨(mem_at (j := 1838) (by decide +kernel)), (mem_at (j := 131) (by decide +kernel)), (by decide +kernel), (by decide +kernel), ⟨(mem_at (j := 1836) (by decide +kernel)), (mem_at (j := 1837) (by decide +kernel))⟩⟩
theorem kL_128 : mLb RL 128 mX10_merge 0 0 false = true := mLb_of g0X10_merge (mem_at (j := 1835) (by decide +kernel))
theorem g0X10_sameRecord : mOk mX10_sameRecord 2 0 := ⟨(mem_at (j := 1842) (by decide +kernel)), (mem_at (j := 131) (by decide +kernel)), (by decide +kernel), (by decide +kernel), ⟨(mem_at (j := 1841) (by decide +kernel)), (mem_at (j := 107) (by decide +kernel))⟩⟩
theorem kX10_353 : mLb RX10 353 mX10_sameRecord 2 0 false = true := mLb_of g0X10_sameRecord (mem_at (j := 1839) (by decide +kernel))
theorem g0X10_noCalls : mOk mX10_noCalls 2 0 := ⟨(mem_at (j := 1846) (by decide +kernel)), (mem_at (j := 131) (by decide +kernel)), (by decide +kernel), (by decide +kernel), ⟨(mem_at (j := 1845) (by decide +kernel)), (mem_at (j := 108) (by decide +kernel))⟩⟩
theorem kX10_356 : mLb RX10 356 mX10_noCalls 2 0 false = true := mLb_of g0X10_noCalls (mem_at (j := 1843) (by decide +kernel))
theorem g0X10_apply : mOk mX10_apply 4 0 := ⟨(mem_at (j := 1850) (by decide +kernel)), (mem_at (j := 131) (by decide +kernel)), (by decide +kernel), (by decide +kernel), ⟨(mem_at (j := 1848) (by decide +kernel)), (mem_at (j := 1849) (by decide +kernel))⟩⟩
theorem kL_131 : mLb RL 131 mX10_apply 4 0 false = true := mLb_of g0X10_apply (mem_at (j := 1847) (by decide +kernel))
theorem g0X10_nextCalled : mOk mX10_nextCalled 5 0 := ⟨(mem_at (j := 1854) (by decide +kernel)), (mem_at (j := 131) (by decide +kernel)), (by decide +kernel), (by decide +kernel), ⟨(mem_at (j := 1853) (by decide +kernel)), (mem_at (j := 109) (by decide +kernel))⟩⟩
theorem kX10_365 : mLb RX10 365 mX10_nextCalled 5 0 false = true := mLb_of g0X10_nextCalled (mem_at (j := 1851) (by decide +kernel))
theorem g0X10_add : mOk mX10_add 2 0 := ⟨(mem_at (j := 1858) (by decide +kernel)), (mem_at (j := 131) (by decide +kernel)), (by decide +kernel), (by decide +kernel), ⟨(mem_at (j := 1857) (by decide +kernel)), (mem_at (j := 110) (by decide +kernel))⟩⟩
theorem kX10_362 : mLb RX10 362 mX10_add 2 0 false = true := mLb_of g0X10_add (mem_at (j := 1855) (by decide +kernel))
theorem g0X10_addRow : mOk mX10_addRow 2 0 := ⟨(mem_at (j := 1862) (by decide +kernel)), (mem_at (j := 131) (by decide +kernel)), (by decide +kernel), (by decide +kernel), ⟨(mem_at (j := 1861) (by decide +kernel)), (mem_at (j := 111) (by decide +kernel))⟩⟩
theorem kX10_369 : mLb RX10 369 mX10_addRow 2 0 false = true := mLb_of g0X10_addRow (mem_at (j := 1859) (by decide +kernel))
theorem g0X10_calledMany : mOk mX10_calledMany 4 0 := ⟨(mem_at (j := 1866) (by decide +kernel)), (mem_at (j := 131) (by decide +kernel)), (by decide +kernel), (by decide +kernel), ⟨(mem_at (j := 1865) (by decide +kernel)), (mem_at (j := 112) (by decide +kernel))⟩⟩
theorem kX10_372 : mLb RX10 372 mX10_calledMany 4 0 false = true := mLb_of g0X10_calledMany (mem_at (j := 1863) (by decide +kernel))
theorem g0X10_carried : mOk mX10_carried 1 0 := ⟨(mem_at (j := 1870) (by decide +kernel)), (mem_at (j := 131) (by decide +kernel)), (by decide +kernel), (by decide +kernel), ⟨(mem_at (j := 1868) (by decide +kernel)), (mem_at (j := 1869) (by decide +kernel))⟩⟩
theorem kL_135 : mLb RL 135 mX10_carried 1 0 false = true := mLb_of g0X10_carried (mem_at (j := 1867) (by decide +kernel))
theorem g0X10_back : mOk mX10_back 1 0 := ⟨(mem_at (j := 1874) (by decide +kernel)), (mem_at (j := 131) (by decide +kernel)), (by decide +kernel), (by decide +kernel), ⟨(mem_at (j := 1872) (by decide +kernel)), (mem_at (j := 1873) (by decide +kernel))⟩⟩
theorem kL_139 : mLb RL 139 mX10_back 1 0 false = true := mLb_of g0X10_back (mem_at (j := 1871) (by decide +kernel))
theorem g0X10_same : mOk mX10_same 4 0 := ⟨(mem_at (j := 1878) (by decide +kernel)), (mem_at (j := 131) (by decide +kernel)), (by decide +kernel), (by decide +kernel), ⟨(mem_at (j := 1876) (by decide +kernel)), (mem_at (j := 1877) (by decide +kernel))⟩⟩
theorem kL_142 : mLb RL 142 mX10_same 4 0 false = true := mLb_of g0X10_same (mem_at (j := 1875) (by decide +kernel))
theorem g0X10_lengthWith : mOk mX10_lengthWith 1 0 := ⟨(mem_at (j := 1882) (by decide +kernel)), (mem_at (j := 131) (by decide +kernel)), (by decide +kernel), (by decide +kernel), ⟨(mem_at (j := 1881) (by decide +kernel)), (mem_at (j := 113) (by decide +kernel))⟩⟩
theorem kX10_385 : mLb RX10 385 mX10_lengthWith 1 0 false = true := mLb_of g0X10_lengthWith (mem_at (j := 1879) (by decide +kernel))
theorem g0X10_letterWith : mOk mX10_letterWith 2 0 := ⟨(mem_at (j := 1886) (by decide +kernel)), (mem_at (j := 131) (by decide +kernel)), (by decide +kernel), (by decide +kernel), ⟨(mem_at (j := 1885) (by decide +kernel)), (mem_at (j := 114) (by decide +kernel))⟩⟩
theorem kX10_388 : mLb RX10 388 mX10_letterWith 2 0 false = true := mLb_of g0X10_letterWith (mem_at (j := 1883) (by decide +kernel))
theorem g0X10_write : mOk mX10_write 1 0 := ⟨(mem_at (j := 1890) (by decide +kernel)), (mem_at (j := 131) (by decide +kernel)), (by decide +kernel), (by decide +kernel), ⟨(mem_at (j := 1888) (by decide +kernel)), (mem_at (j := 1889) (by decide +kernel))⟩⟩
theorem kL_145 : mLb RL 145 mX10_write 1 0 false = true := mLb_of g0X10_write (mem_at (j := 1887) (by decide +kernel))
theorem g0X10_putText : mOk mX10_putText 1 0 := ⟨(mem_at (j := 1894) (by decide +kernel)), (mem_at (j := 131) (by decide +kernel)), (by decide +kernel), (by decide +kernel), ⟨(mem_at (j := 1893) (by decide +kernel)), (mem_at (j := 115) (by decide +kernel))⟩⟩
theorem kX10_403 : mLb RX10 403 mX10_putText 1 0 false = true := mLb_of g0X10_putText (mem_at (j := 1891) (by decide +kernel))
theorem g0X10_put : mOk mX10_put 1 0 := ⟨(mem_at (j := 1898) (by decide +kernel)), (mem_at (j := 131) (by decide +kernel)), (by decide +kernel), (by decide +kernel), ⟨(mem_at (j := 1897) (by decide +kernel)), (mem_at (j := 116) (by decide +kernel))⟩⟩
theorem kX10_394 : mLb RX10 394 mX10_put 1 0 false = true := mLb_of g0X10_put (mem_at (j := 1895) (by decide +kernel))
theorem g0X10_putRecord : mOk mX10_putRecord 2 0 := ⟨(mem_at (j := 1902) (by decide +kernel)), (mem_at (j := 131) (by decide +kernel)), (by decide +kernel), (by decide +kernel), ⟨(mem_at (j := 1901) (by decide +kernel)), (mem_at (j := 117) (by decide +kernel))⟩⟩
theorem kX10_409 : mLb RX10 409 mX10_putRecord 2 0 false = true := mLb_of g0X10_putRecord (mem_at (j := 1899) (by decide +kernel))
theorem g0X10_putNumber : mOk mX10_putNumber 1 0 := ⟨(mem_at (j := 1906) (by decide +kernel)), (mem_at (j := 131) (by decide +kernel)), (by decide +kernel), (by decide +kernel), ⟨(mem_at (j := 1905) (by decide +kernel)), (mem_at (j := 118) (by decide +kernel))⟩⟩
theorem kX10_397 : mLb RX10 397 mX10_putNumber 1 0 false = true := mLb_of g0X10_putNumber (mem_at (j := 1903) (by decide +kernel))
theorem g0X10_putRow : mOk mX10_putRow 2 0 := ⟨(mem_at (j := 1910) (by decide +kernel)), (mem_at (j := 131) (by decide +kernel)), (by decide +kernel), (by decide +kernel), ⟨(mem_at (j := 1909) (by decide +kernel)), (mem_at (j := 119) (by decide +kernel))⟩⟩
theorem kX10_400 : mLb RX10 400 mX10_putRow 2 0 false = true := mLb_of g0X10_putRow (mem_at (j := 1907) (by decide +kernel))
theorem g0X10_putCall : mOk mX10_putCall 1 0 := ⟨(mem_at (j := 1914) (by decide +kernel)), (mem_at (j := 131) (by decide +kernel)), (by decide +kernel), (by decide +kernel), ⟨(mem_at (j := 1913) (by decide +kernel)), (mem_at (j := 120) (by decide +kernel))⟩⟩
theorem kX10_406 : mLb RX10 406 mX10_putCall 1 0 false = true := mLb_of g0X10_putCall (mem_at (j := 1911) (by decide +kernel))
theorem g0X10_out : mOk mX10_out 1 0 := ⟨(mem_at (j := 1918) (by decide +kernel)), (mem_at (j := 131) (by decide +kernel)), (by decide +kernel), (by decide +kernel), ⟨(mem_at (j := 1916) (by decide +kernel)), (mem_at (j := 1917) (by decide +kernel))⟩⟩
theorem kL_149 : mLb RL 149 mX10_out 1 0 false = true := mLb_of g0X10_out (mem_at (j := 1915) (by decide +kernel))
theorem g0X10_again : mOk mX10_again 0 0 := ⟨(mem_at (j := 1922) (by decide +kernel)), (mem_at (j := 131) (by decide +kernel)), (by decide +kernel), (by decide +kernel), ⟨(mem_at (j := 1920) (by decide +kernel)), (mem_at (j := 1921) (by decide +kernel))⟩⟩
theorem kL_153 : mLb RL 153 mX10_again 0 0 false = true := mLb_of g0X10_again (mem_at (j := 1919) (by decide +kernel))
theorem g2X6_init : mOk mX6_init 0 2 := ⟨(mem_at (j := 156) (by decide +kernel)), (mem_at (j := 123) (by decide +kernel)), (by decide +kernel), (by decide +kernel), ⟨(by decide +kernel), (mem_at (j := 155) (by decide +kernel))⟩⟩
theorem kX9_9 : mLb RX9 9 mX6_init 0 2 true = true := mLb_of g2X6_init (mem_at (j := 154) (by decide +kernel))
theorem g2X1_init : mOk mX1_init 0 2 := ⟨(mem_at (j := 178) (by decide +kernel)), (mem_at (j := 124) (by decide +kernel)), (by decide +kernel), (by decide +kernel), ⟨(by decide +kernel), (mem_at (j := 177) (by decide +kernel))⟩⟩
theorem kX9_24 : mLb RX9 24 mX1_init 0 2 true = true := mLb_of g2X1_init (mem_at (j := 176) (by decide +kernel))
theorem g2X0_init : mOk mX0_init 0 2 := ⟨(mem_at (j := 254) (by decide +kernel)), (mem_at (j := 128) (by decide +kernel)), (by decide +kernel), (by decide +kernel), ⟨(by decide +kernel), (mem_at (j := 253) (by decide +kernel))⟩⟩
theorem kX7_26 : mLb RX7 26 mX0_init 0 2 true = true := mLb_of g2X0_init (mem_at (j := 252) (by decide +kernel))
theorem g2X4_init : mOk mX4_init 0 2 := ⟨(mem_at (j := 348) (by decide +kernel)), (mem_at (j := 129) (by decide +kernel)), (by decide +kernel), (by decide +kernel), ⟨(by decide +kernel), (mem_at (j := 347) (by decide +kernel))⟩⟩
theorem kX9_45 : mLb RX9 45 mX4_init 0 2 true = true := mLb_of g2X4_init (mem_at (j := 346) (by decide +kernel))
theorem kX4_11 : mLb RX4 11 mX0_init 0 2 true = true := mLb_of g2X0_init (mem_at (j := 351) (by decide +kernel))
theorem g2X3_init : mOk mX3_init 0 2 := ⟨(mem_at (j := 366) (by decide +kernel)), (mem_at (j := 130) (by decide +kernel)), (by decide +kernel), (by decide +kernel), ⟨(by decide +kernel), (mem_at (j := 365) (by decide +kernel))⟩⟩
theorem kX9_52 : mLb RX9 52 mX3_init 0 2 true = true := mLb_of g2X3_init (mem_at (j := 364) (by decide +kernel))
theorem g1X9_letterOf : mOk mX9_letterOf 1 1 := ⟨(mem_at (j := 538) (by decide +kernel)), (mem_at (j := 122) (by decide +kernel)), (by decide +kernel), (by decide +kernel), (mem_at (j := 537) (by decide +kernel))⟩
theorem kX2_68 : mLb RX2 68 mX9_letterOf 1 1 true = true := mLb_of g1X9_letterOf (mem_at (j := 536) (by decide +kernel))
theorem kX8_201 : mLb RX8 201 mX9_letterOf 1 1 true = true := mLb_of g1X9_letterOf (mem_at (j := 999) (by decide +kernel))
end
