section
-- ===== PART A: goes FIRST, ahead of the names: the tables' words, and 'selects' of the private methods out of them =====
/-- a private method of a class that the tables say can be made, by its rows of tables_1 -/
def lw_okq (q : MethodName × Nat) : Prop := (q.1.cls ≠ "java/lang/invoke/MethodHandle" ∧ q.1.cls ≠ "java/lang/invoke/VarHandle") ∧ Cond.instantiable q.1.cls q.2 ∈ tables_1 ∧ Cond.privateMethod q.1 ∈ tables_1 ∧ Cond.instanceMethod q.1 ∈ tables_1
theorem lw_p0 : lw_okq (⟨"ChainLoader$Volume", "isSigned", "(I)Z"⟩, 9) := ⟨⟨by decide +kernel, by decide +kernel⟩, List.mem_of_getElem? (i := 33) (by decide +kernel), List.mem_of_getElem? (i := 271) (by decide +kernel), List.mem_of_getElem? (i := 272) (by decide +kernel)⟩
theorem lw_p1 : lw_okq (⟨"ChainLoader$Volume", "choosePartition", "()I"⟩, 9) := ⟨⟨by decide +kernel, by decide +kernel⟩, List.mem_of_getElem? (i := 33) (by decide +kernel), List.mem_of_getElem? (i := 276) (by decide +kernel), List.mem_of_getElem? (i := 277) (by decide +kernel)⟩
theorem lw_p2 : lw_okq (⟨"ChainLoader$Volume", "isUsable", "(I)Z"⟩, 9) := ⟨⟨by decide +kernel, by decide +kernel⟩, List.mem_of_getElem? (i := 33) (by decide +kernel), List.mem_of_getElem? (i := 280) (by decide +kernel), List.mem_of_getElem? (i := 281) (by decide +kernel)⟩
theorem lw_p3 : lw_okq (⟨"ChainLoader$Volume", "placeOfRecord", "(I)I"⟩, 9) := ⟨⟨by decide +kernel, by decide +kernel⟩, List.mem_of_getElem? (i := 33) (by decide +kernel), List.mem_of_getElem? (i := 284) (by decide +kernel), List.mem_of_getElem? (i := 285) (by decide +kernel)⟩
theorem lw_p4 : lw_okq (⟨"ChainLoader$Volume", "takeGeometry", "(II)Z"⟩, 9) := ⟨⟨by decide +kernel, by decide +kernel⟩, List.mem_of_getElem? (i := 33) (by decide +kernel), List.mem_of_getElem? (i := 288) (by decide +kernel), List.mem_of_getElem? (i := 289) (by decide +kernel)⟩
theorem lw_p5 : lw_okq (⟨"ChainLoader", "findTypedFile", "()I"⟩, 11) := ⟨⟨by decide +kernel, by decide +kernel⟩, List.mem_of_getElem? (i := 14) (by decide +kernel), List.mem_of_getElem? (i := 308) (by decide +kernel), List.mem_of_getElem? (i := 309) (by decide +kernel)⟩
theorem lw_p6 : lw_okq (⟨"ChainLoader$Path", "isLetter", "(I)Z"⟩, 2) := ⟨⟨by decide +kernel, by decide +kernel⟩, List.mem_of_getElem? (i := 73) (by decide +kernel), List.mem_of_getElem? (i := 319) (by decide +kernel), List.mem_of_getElem? (i := 320) (by decide +kernel)⟩
theorem lw_p7 : lw_okq (⟨"ChainLoader$Files", "findName", "(LChainLoader$Path;I)I"⟩, 4) := ⟨⟨by decide +kernel, by decide +kernel⟩, List.mem_of_getElem? (i := 88) (by decide +kernel), List.mem_of_getElem? (i := 361) (by decide +kernel), List.mem_of_getElem? (i := 362) (by decide +kernel)⟩
theorem lw_p8 : lw_okq (⟨"ChainLoader", "findTypedDirectory", "()I"⟩, 11) := ⟨⟨by decide +kernel, by decide +kernel⟩, List.mem_of_getElem? (i := 14) (by decide +kernel), List.mem_of_getElem? (i := 405) (by decide +kernel), List.mem_of_getElem? (i := 406) (by decide +kernel)⟩
theorem lw_p9 : lw_okq (⟨"ChainLoader$Census", "countDirectory", "(II)I"⟩, 4) := ⟨⟨by decide +kernel, by decide +kernel⟩, List.mem_of_getElem? (i := 130) (by decide +kernel), List.mem_of_getElem? (i := 427) (by decide +kernel), List.mem_of_getElem? (i := 428) (by decide +kernel)⟩
theorem lw_p10 : lw_okq (⟨"ChainLoader$Census", "countEntry", "(II)I"⟩, 4) := ⟨⟨by decide +kernel, by decide +kernel⟩, List.mem_of_getElem? (i := 130) (by decide +kernel), List.mem_of_getElem? (i := 433) (by decide +kernel), List.mem_of_getElem? (i := 434) (by decide +kernel)⟩
theorem lw_p11 : lw_okq (⟨"ChainLoader", "takeSettings", "()I"⟩, 11) := ⟨⟨by decide +kernel, by decide +kernel⟩, List.mem_of_getElem? (i := 14) (by decide +kernel), List.mem_of_getElem? (i := 443) (by decide +kernel), List.mem_of_getElem? (i := 444) (by decide +kernel)⟩
theorem lw_p12 : lw_okq (⟨"ChainLoader$Settings", "takeLine", "(II)Z"⟩, 4) := ⟨⟨by decide +kernel, by decide +kernel⟩, List.mem_of_getElem? (i := 152) (by decide +kernel), List.mem_of_getElem? (i := 458) (by decide +kernel), List.mem_of_getElem? (i := 459) (by decide +kernel)⟩
theorem lw_p13 : lw_okq (⟨"ChainLoader", "load", "(LChainLoader$Value;)I"⟩, 11) := ⟨⟨by decide +kernel, by decide +kernel⟩, List.mem_of_getElem? (i := 14) (by decide +kernel), List.mem_of_getElem? (i := 466) (by decide +kernel), List.mem_of_getElem? (i := 467) (by decide +kernel)⟩
theorem lw_p14 : lw_okq (⟨"ChainLoader$Kernel", "findHeader", "(LChainLoader$Chain;I)I"⟩, 3) := ⟨⟨by decide +kernel, by decide +kernel⟩, List.mem_of_getElem? (i := 195) (by decide +kernel), List.mem_of_getElem? (i := 474) (by decide +kernel), List.mem_of_getElem? (i := 475) (by decide +kernel)⟩
theorem lw_p15 : lw_okq (⟨"ChainLoader", "copyKernel", "(I)V"⟩, 11) := ⟨⟨by decide +kernel, by decide +kernel⟩, List.mem_of_getElem? (i := 14) (by decide +kernel), List.mem_of_getElem? (i := 495) (by decide +kernel), List.mem_of_getElem? (i := 496) (by decide +kernel)⟩
def lw_privs_1 : List (MethodName × Nat) := [(⟨"ChainLoader$Volume", "isSigned", "(I)Z"⟩, 9), (⟨"ChainLoader$Volume", "choosePartition", "()I"⟩, 9), (⟨"ChainLoader$Volume", "isUsable", "(I)Z"⟩, 9), (⟨"ChainLoader$Volume", "placeOfRecord", "(I)I"⟩, 9), (⟨"ChainLoader$Volume", "takeGeometry", "(II)Z"⟩, 9), (⟨"ChainLoader", "findTypedFile", "()I"⟩, 11), (⟨"ChainLoader$Path", "isLetter", "(I)Z"⟩, 2), (⟨"ChainLoader$Files", "findName", "(LChainLoader$Path;I)I"⟩, 4), (⟨"ChainLoader", "findTypedDirectory", "()I"⟩, 11), (⟨"ChainLoader$Census", "countDirectory", "(II)I"⟩, 4), (⟨"ChainLoader$Census", "countEntry", "(II)I"⟩, 4), (⟨"ChainLoader", "takeSettings", "()I"⟩, 11), (⟨"ChainLoader$Settings", "takeLine", "(II)Z"⟩, 4), (⟨"ChainLoader", "load", "(LChainLoader$Value;)I"⟩, 11), (⟨"ChainLoader$Kernel", "findHeader", "(LChainLoader$Chain;I)I"⟩, 3), (⟨"ChainLoader", "copyKernel", "(I)V"⟩, 11)]
theorem lw_r1 : ∀ q ∈ lw_privs_1, lw_okq q := List.forall_mem_cons.mpr ⟨lw_p0, List.forall_mem_cons.mpr ⟨lw_p1, List.forall_mem_cons.mpr ⟨lw_p2, List.forall_mem_cons.mpr ⟨lw_p3, List.forall_mem_cons.mpr ⟨lw_p4, List.forall_mem_cons.mpr ⟨lw_p5, List.forall_mem_cons.mpr ⟨lw_p6, List.forall_mem_cons.mpr ⟨lw_p7, List.forall_mem_cons.mpr ⟨lw_p8, List.forall_mem_cons.mpr ⟨lw_p9, List.forall_mem_cons.mpr ⟨lw_p10, List.forall_mem_cons.mpr ⟨lw_p11, List.forall_mem_cons.mpr ⟨lw_p12, List.forall_mem_cons.mpr ⟨lw_p13, List.forall_mem_cons.mpr ⟨lw_p14, List.forall_mem_cons.mpr ⟨lw_p15, fun _ h => absurd h List.not_mem_nil⟩⟩⟩⟩⟩⟩⟩⟩⟩⟩⟩⟩⟩⟩⟩⟩
theorem lw_p16 : lw_okq (⟨"ChainLoader", "writeInformation", "(I)V"⟩, 11) := ⟨⟨by decide +kernel, by decide +kernel⟩, List.mem_of_getElem? (i := 14) (by decide +kernel), List.mem_of_getElem? (i := 499) (by decide +kernel), List.mem_of_getElem? (i := 500) (by decide +kernel)⟩
theorem lw_p17 : lw_okq (⟨"ChainLoader", "copyArguments", "()V"⟩, 11) := ⟨⟨by decide +kernel, by decide +kernel⟩, List.mem_of_getElem? (i := 14) (by decide +kernel), List.mem_of_getElem? (i := 509) (by decide +kernel), List.mem_of_getElem? (i := 510) (by decide +kernel)⟩
theorem lw_p18 : lw_okq (⟨"ChainLoaderModel", "choose", "()I"⟩, 26) := ⟨⟨by decide +kernel, by decide +kernel⟩, List.mem_of_getElem? (i := 521) (by decide +kernel), List.mem_of_getElem? (i := 618) (by decide +kernel), List.mem_of_getElem? (i := 619) (by decide +kernel)⟩
theorem lw_p19 : lw_okq (⟨"ChainLoaderModel", "isUsable", "(I)Z"⟩, 26) := ⟨⟨by decide +kernel, by decide +kernel⟩, List.mem_of_getElem? (i := 521) (by decide +kernel), List.mem_of_getElem? (i := 622) (by decide +kernel), List.mem_of_getElem? (i := 623) (by decide +kernel)⟩
theorem lw_p20 : lw_okq (⟨"ChainLoaderModel", "fileOfText", "()I"⟩, 26) := ⟨⟨by decide +kernel, by decide +kernel⟩, List.mem_of_getElem? (i := 521) (by decide +kernel), List.mem_of_getElem? (i := 638) (by decide +kernel), List.mem_of_getElem? (i := 639) (by decide +kernel)⟩
theorem lw_p21 : lw_okq (⟨"ChainLoaderModel", "take", "([II)V"⟩, 26) := ⟨⟨by decide +kernel, by decide +kernel⟩, List.mem_of_getElem? (i := 521) (by decide +kernel), List.mem_of_getElem? (i := 643) (by decide +kernel), List.mem_of_getElem? (i := 644) (by decide +kernel)⟩
theorem lw_p22 : lw_okq (⟨"ChainLoaderModel", "find", "()I"⟩, 26) := ⟨⟨by decide +kernel, by decide +kernel⟩, List.mem_of_getElem? (i := 521) (by decide +kernel), List.mem_of_getElem? (i := 647) (by decide +kernel), List.mem_of_getElem? (i := 648) (by decide +kernel)⟩
theorem lw_p23 : lw_okq (⟨"ChainLoaderModel", "parse", "()Z"⟩, 26) := ⟨⟨by decide +kernel, by decide +kernel⟩, List.mem_of_getElem? (i := 521) (by decide +kernel), List.mem_of_getElem? (i := 651) (by decide +kernel), List.mem_of_getElem? (i := 652) (by decide +kernel)⟩
theorem lw_p24 : lw_okq (⟨"ChainLoaderModel", "isLetter", "(I)Z"⟩, 26) := ⟨⟨by decide +kernel, by decide +kernel⟩, List.mem_of_getElem? (i := 521) (by decide +kernel), List.mem_of_getElem? (i := 655) (by decide +kernel), List.mem_of_getElem? (i := 656) (by decide +kernel)⟩
theorem lw_p25 : lw_okq (⟨"ChainLoaderModel", "lookUp", "(II)I"⟩, 26) := ⟨⟨by decide +kernel, by decide +kernel⟩, List.mem_of_getElem? (i := 521) (by decide +kernel), List.mem_of_getElem? (i := 659) (by decide +kernel), List.mem_of_getElem? (i := 660) (by decide +kernel)⟩
theorem lw_p26 : lw_okq (⟨"ChainLoaderModel", "chain", "(I)I"⟩, 26) := ⟨⟨by decide +kernel, by decide +kernel⟩, List.mem_of_getElem? (i := 521) (by decide +kernel), List.mem_of_getElem? (i := 663) (by decide +kernel), List.mem_of_getElem? (i := 664) (by decide +kernel)⟩
theorem lw_p27 : lw_okq (⟨"ChainLoaderModel", "isCluster", "(I)Z"⟩, 26) := ⟨⟨by decide +kernel, by decide +kernel⟩, List.mem_of_getElem? (i := 521) (by decide +kernel), List.mem_of_getElem? (i := 667) (by decide +kernel), List.mem_of_getElem? (i := 668) (by decide +kernel)⟩
theorem lw_p28 : lw_okq (⟨"ChainLoaderModel", "behind", "(I)I"⟩, 26) := ⟨⟨by decide +kernel, by decide +kernel⟩, List.mem_of_getElem? (i := 521) (by decide +kernel), List.mem_of_getElem? (i := 671) (by decide +kernel), List.mem_of_getElem? (i := 672) (by decide +kernel)⟩
theorem lw_p29 : lw_okq (⟨"ChainLoaderModel", "word", "(I)I"⟩, 26) := ⟨⟨by decide +kernel, by decide +kernel⟩, List.mem_of_getElem? (i := 521) (by decide +kernel), List.mem_of_getElem? (i := 675) (by decide +kernel), List.mem_of_getElem? (i := 676) (by decide +kernel)⟩
theorem lw_p30 : lw_okq (⟨"ChainLoaderModel", "nth", "(III)I"⟩, 26) := ⟨⟨by decide +kernel, by decide +kernel⟩, List.mem_of_getElem? (i := 521) (by decide +kernel), List.mem_of_getElem? (i := 679) (by decide +kernel), List.mem_of_getElem? (i := 680) (by decide +kernel)⟩
theorem lw_p31 : lw_okq (⟨"ChainLoaderModel", "place", "(II)I"⟩, 26) := ⟨⟨by decide +kernel, by decide +kernel⟩, List.mem_of_getElem? (i := 521) (by decide +kernel), List.mem_of_getElem? (i := 683) (by decide +kernel), List.mem_of_getElem? (i := 684) (by decide +kernel)⟩
def lw_privs_2 : List (MethodName × Nat) := [(⟨"ChainLoader", "writeInformation", "(I)V"⟩, 11), (⟨"ChainLoader", "copyArguments", "()V"⟩, 11), (⟨"ChainLoaderModel", "choose", "()I"⟩, 26), (⟨"ChainLoaderModel", "isUsable", "(I)Z"⟩, 26), (⟨"ChainLoaderModel", "fileOfText", "()I"⟩, 26), (⟨"ChainLoaderModel", "take", "([II)V"⟩, 26), (⟨"ChainLoaderModel", "find", "()I"⟩, 26), (⟨"ChainLoaderModel", "parse", "()Z"⟩, 26), (⟨"ChainLoaderModel", "isLetter", "(I)Z"⟩, 26), (⟨"ChainLoaderModel", "lookUp", "(II)I"⟩, 26), (⟨"ChainLoaderModel", "chain", "(I)I"⟩, 26), (⟨"ChainLoaderModel", "isCluster", "(I)Z"⟩, 26), (⟨"ChainLoaderModel", "behind", "(I)I"⟩, 26), (⟨"ChainLoaderModel", "word", "(I)I"⟩, 26), (⟨"ChainLoaderModel", "nth", "(III)I"⟩, 26), (⟨"ChainLoaderModel", "place", "(II)I"⟩, 26)]
theorem lw_r2 : ∀ q ∈ lw_privs_2, lw_okq q := List.forall_mem_cons.mpr ⟨lw_p16, List.forall_mem_cons.mpr ⟨lw_p17, List.forall_mem_cons.mpr ⟨lw_p18, List.forall_mem_cons.mpr ⟨lw_p19, List.forall_mem_cons.mpr ⟨lw_p20, List.forall_mem_cons.mpr ⟨lw_p21, List.forall_mem_cons.mpr ⟨lw_p22, List.forall_mem_cons.mpr ⟨lw_p23, List.forall_mem_cons.mpr ⟨lw_p24, List.forall_mem_cons.mpr ⟨lw_p25, List.forall_mem_cons.mpr ⟨lw_p26, List.forall_mem_cons.mpr ⟨lw_p27, List.forall_mem_cons.mpr ⟨lw_p28, List.forall_mem_cons.mpr ⟨lw_p29, List.forall_mem_cons.mpr ⟨lw_p30, List.forall_mem_cons.mpr ⟨lw_p31, fun _ h => absurd h List.not_mem_nil⟩⟩⟩⟩⟩⟩⟩⟩⟩⟩⟩⟩⟩⟩⟩⟩
theorem lw_p32 : lw_okq (⟨"ChainLoaderModel", "isPassed", "(I)Z"⟩, 26) := ⟨⟨by decide +kernel, by decide +kernel⟩, List.mem_of_getElem? (i := 521) (by decide +kernel), List.mem_of_getElem? (i := 687) (by decide +kernel), List.mem_of_getElem? (i := 688) (by decide +kernel)⟩
theorem lw_p33 : lw_okq (⟨"ChainLoaderModel", "four", "(I)I"⟩, 26) := ⟨⟨by decide +kernel, by decide +kernel⟩, List.mem_of_getElem? (i := 521) (by decide +kernel), List.mem_of_getElem? (i := 691) (by decide +kernel), List.mem_of_getElem? (i := 692) (by decide +kernel)⟩
theorem lw_p34 : lw_okq (⟨"ChainLoaderModel", "isDirectory", "(I)Z"⟩, 26) := ⟨⟨by decide +kernel, by decide +kernel⟩, List.mem_of_getElem? (i := 521) (by decide +kernel), List.mem_of_getElem? (i := 696) (by decide +kernel), List.mem_of_getElem? (i := 697) (by decide +kernel)⟩
theorem lw_p35 : lw_okq (⟨"ChainLoaderModel", "sizeAt", "(I)I"⟩, 26) := ⟨⟨by decide +kernel, by decide +kernel⟩, List.mem_of_getElem? (i := 521) (by decide +kernel), List.mem_of_getElem? (i := 700) (by decide +kernel), List.mem_of_getElem? (i := 701) (by decide +kernel)⟩
theorem lw_p36 : lw_okq (⟨"ChainLoaderModel", "isBroken", "(I)Z"⟩, 26) := ⟨⟨by decide +kernel, by decide +kernel⟩, List.mem_of_getElem? (i := 521) (by decide +kernel), List.mem_of_getElem? (i := 708) (by decide +kernel), List.mem_of_getElem? (i := 709) (by decide +kernel)⟩
theorem lw_p37 : lw_okq (⟨"ChainLoaderModel", "byteOf", "(II)I"⟩, 26) := ⟨⟨by decide +kernel, by decide +kernel⟩, List.mem_of_getElem? (i := 521) (by decide +kernel), List.mem_of_getElem? (i := 712) (by decide +kernel), List.mem_of_getElem? (i := 713) (by decide +kernel)⟩
theorem lw_p38 : lw_okq (⟨"ChainLoaderModel", "settings", "()I"⟩, 26) := ⟨⟨by decide +kernel, by decide +kernel⟩, List.mem_of_getElem? (i := 521) (by decide +kernel), List.mem_of_getElem? (i := 732) (by decide +kernel), List.mem_of_getElem? (i := 733) (by decide +kernel)⟩
theorem lw_p39 : lw_okq (⟨"ChainLoaderModel", "line", "(III)Z"⟩, 26) := ⟨⟨by decide +kernel, by decide +kernel⟩, List.mem_of_getElem? (i := 521) (by decide +kernel), List.mem_of_getElem? (i := 736) (by decide +kernel), List.mem_of_getElem? (i := 737) (by decide +kernel)⟩
theorem lw_p40 : lw_okq (⟨"ChainLoaderModel", "load", "()I"⟩, 26) := ⟨⟨by decide +kernel, by decide +kernel⟩, List.mem_of_getElem? (i := 521) (by decide +kernel), List.mem_of_getElem? (i := 740) (by decide +kernel), List.mem_of_getElem? (i := 741) (by decide +kernel)⟩
theorem lw_p41 : lw_okq (⟨"ChainLoaderModel", "intOf", "(II)I"⟩, 26) := ⟨⟨by decide +kernel, by decide +kernel⟩, List.mem_of_getElem? (i := 521) (by decide +kernel), List.mem_of_getElem? (i := 744) (by decide +kernel), List.mem_of_getElem? (i := 745) (by decide +kernel)⟩
theorem lw_p42 : lw_okq (⟨"ChainLoaderModel", "fill", "(III)V"⟩, 26) := ⟨⟨by decide +kernel, by decide +kernel⟩, List.mem_of_getElem? (i := 521) (by decide +kernel), List.mem_of_getElem? (i := 749) (by decide +kernel), List.mem_of_getElem? (i := 750) (by decide +kernel)⟩
theorem lw_p43 : lw_okq (⟨"ChainLoaderModel", "put", "(II)V"⟩, 26) := ⟨⟨by decide +kernel, by decide +kernel⟩, List.mem_of_getElem? (i := 521) (by decide +kernel), List.mem_of_getElem? (i := 754) (by decide +kernel), List.mem_of_getElem? (i := 755) (by decide +kernel)⟩
def lw_privs_3 : List (MethodName × Nat) := [(⟨"ChainLoaderModel", "isPassed", "(I)Z"⟩, 26), (⟨"ChainLoaderModel", "four", "(I)I"⟩, 26), (⟨"ChainLoaderModel", "isDirectory", "(I)Z"⟩, 26), (⟨"ChainLoaderModel", "sizeAt", "(I)I"⟩, 26), (⟨"ChainLoaderModel", "isBroken", "(I)Z"⟩, 26), (⟨"ChainLoaderModel", "byteOf", "(II)I"⟩, 26), (⟨"ChainLoaderModel", "settings", "()I"⟩, 26), (⟨"ChainLoaderModel", "line", "(III)Z"⟩, 26), (⟨"ChainLoaderModel", "load", "()I"⟩, 26), (⟨"ChainLoaderModel", "intOf", "(II)I"⟩, 26), (⟨"ChainLoaderModel", "fill", "(III)V"⟩, 26), (⟨"ChainLoaderModel", "put", "(II)V"⟩, 26)]
theorem lw_r3 : ∀ q ∈ lw_privs_3, lw_okq q := List.forall_mem_cons.mpr ⟨lw_p32, List.forall_mem_cons.mpr ⟨lw_p33, List.forall_mem_cons.mpr ⟨lw_p34, List.forall_mem_cons.mpr ⟨lw_p35, List.forall_mem_cons.mpr ⟨lw_p36, List.forall_mem_cons.mpr ⟨lw_p37, List.forall_mem_cons.mpr ⟨lw_p38, List.forall_mem_cons.mpr ⟨lw_p39, List.forall_mem_cons.mpr ⟨lw_p40, List.forall_mem_cons.mpr ⟨lw_p41, List.forall_mem_cons.mpr ⟨lw_p42, List.forall_mem_cons.mpr ⟨lw_p43, fun _ h => absurd h List.not_mem_nil⟩⟩⟩⟩⟩⟩⟩⟩⟩⟩⟩⟩
def lw_privs : List (MethodName × Nat) := lw_privs_1 ++ (lw_privs_2 ++ (lw_privs_3))
def lw_tbl : List Cond := k2_sels lw_privs ++ tables_1
theorem lw_privs_ok : ∀ q ∈ lw_privs, lw_okq q := by
  show ∀ q ∈ lw_privs_1 ++ (lw_privs_2 ++ (lw_privs_3)), lw_okq q
  exact List.forall_mem_append.mpr ⟨lw_r1, List.forall_mem_append.mpr ⟨lw_r2, lw_r3⟩⟩
end
section
/-! ===== BEGIN words of one list among another's, by their places ===== -/
theorem goodIn_r {big : List Cond} (ws : List Cond) (ps : List Nat) (hp : ws = ps.filterMap (fun i => big[i]?)) (h : ws.all goodWord = true) : GoodIn big ws := by
  intro w hw
  have h1 := List.all_eq_true.mp h w hw
  rw [hp] at hw
  obtain ⟨i, -, hi⟩ := List.mem_filterMap.mp hw
  have hm : w ∈ big := by first | exact List.mem_of_getElem? hi | exact List.getElem?_mem hi
  exact ⟨hm, good_of_word h1⟩
theorem goodIn_app {big a b : List Cond} (ha : GoodIn big a) (hb : GoodIn big b) : GoodIn big (a ++ b) := fun w h => (List.mem_append.mp h).elim (ha w) (hb w)
theorem goodIn_ca {big a b : List Cond} {c : Cond} (ha : GoodIn big (c :: a)) (hb : GoodIn big b) : GoodIn big (c :: (a ++ b)) := fun w h => (List.mem_cons.mp h).elim (fun e => ha w (List.mem_cons.mpr (Or.inl e))) (fun h => (List.mem_append.mp h).elim (fun h => ha w (List.mem_cons.mpr (Or.inr h))) (hb w))
theorem goodIn_sub {big ws : List Cond} (hm : ∀ w ∈ ws, w ∈ big) (h : ws.all goodWord = true) : GoodIn big ws := fun w hw => ⟨hm w hw, good_of_word (List.all_eq_true.mp h w hw)⟩
/-! ===== END ===== -/

/-! ===== BEGIN printed: names, fields, word lists, decode rows ===== -/
def RX0 : String := "ChainLoader$Bytes"
def TX0 : u_T := fun k => match k with
  | _ => ("ChainLoader$Bytes", "cells", "[B", true)
def tyX0 : Nat → FieldType := fun k => match k with
  | _ => .array .byte
abbrev wsX00 : List Cond := u_ws RX0 TX0 1
theorem nmX0 : ∀ a, a < 1 → ∀ b, b < 1 → a ≠ b → (TX0 a).2.1 ≠ (TX0 b).2.1 := by decide +kernel
theorem tyX0_ok : ∀ k, k < 1 → parseFieldDescriptor (TX0 k).2.2.1 = some (tyX0 k) := by decide +kernel
abbrev cX0_init : ByteArray := prog_2_method_1_code
def yX0_init : MethodName := ⟨RX0, "<init>", "(I)V"⟩
abbrev cX0_byteAt : ByteArray := prog_2_method_2_code
def yX0_byteAt : MethodName := ⟨RX0, "byteAt", "(I)I"⟩
abbrev cX0_wordAt : ByteArray := prog_2_method_3_code
def yX0_wordAt : MethodName := ⟨RX0, "wordAt", "(I)I"⟩
abbrev cX0_put : ByteArray := prog_2_method_4_code
def yX0_put : MethodName := ⟨RX0, "put", "(IJI)Z"⟩
abbrev cX0_clear : ByteArray := prog_2_method_5_code
def yX0_clear : MethodName := ⟨RX0, "clear", "()V"⟩
def RX1 : String := "ChainLoader$Census"
def TX1 : u_T := fun k => match k with
  | 0 => ("ChainLoader$Census", "mounted", "LChainLoader$Volume;", true)
  | 1 => ("ChainLoader$Census", "levels", "[LChainLoader$Chain;", true)
  | 2 => ("ChainLoader$Census", "met", "I", false)
  | _ => ("ChainLoader$Census", "directories", "I", false)
def tyX1 : Nat → FieldType := fun k => match k with
  | 0 => .object "ChainLoader$Volume"
  | 1 => .array (.object "ChainLoader$Chain")
  | 2 => .int
  | _ => .int
abbrev wsX10 : List Cond := u_ws RX1 TX1 4
theorem nmX1 : ∀ a, a < 4 → ∀ b, b < 4 → a ≠ b → (TX1 a).2.1 ≠ (TX1 b).2.1 := by decide +kernel
theorem tyX1_ok : ∀ k, k < 4 → parseFieldDescriptor (TX1 k).2.2.1 = some (tyX1 k) := by decide +kernel
abbrev cX1_init : ByteArray := prog_3_method_1_code
def yX1_init : MethodName := ⟨RX1, "<init>", "(LChainLoader$Bytes;LChainLoader$Volume;)V"⟩
abbrev cX1_countAll : ByteArray := prog_3_method_2_code
def yX1_countAll : MethodName := ⟨RX1, "countAll", "()I"⟩
abbrev cX1_countDirectory : ByteArray := prog_3_method_3_code
def yX1_countDirectory : MethodName := ⟨RX1, "countDirectory", "(II)I"⟩
abbrev cX1_countEntry : ByteArray := prog_3_method_4_code
def yX1_countEntry : MethodName := ⟨RX1, "countEntry", "(II)I"⟩
def RX2 : String := "ChainLoader$Chain"
def TX2 : u_T := fun k => match k with
  | 0 => ("ChainLoader$Chain", "disk", "LChainLoader$Bytes;", true)
  | 1 => ("ChainLoader$Chain", "mounted", "LChainLoader$Volume;", true)
  | 2 => ("ChainLoader$Chain", "places", "[I", true)
  | 3 => ("ChainLoader$Chain", "count", "I", false)
  | _ => ("ChainLoader$Chain", "nextSlot", "I", false)
def tyX2 : Nat → FieldType := fun k => match k with
  | 0 => .object "ChainLoader$Bytes"
  | 1 => .object "ChainLoader$Volume"
  | 2 => .array .int
  | 3 => .int
  | _ => .int
abbrev wsX20 : List Cond := u_ws RX2 TX2 5
theorem nmX2 : ∀ a, a < 5 → ∀ b, b < 5 → a ≠ b → (TX2 a).2.1 ≠ (TX2 b).2.1 := by decide +kernel
theorem tyX2_ok : ∀ k, k < 5 → parseFieldDescriptor (TX2 k).2.2.1 = some (tyX2 k) := by decide +kernel
abbrev cX2_init : ByteArray := prog_4_method_1_code
def yX2_init : MethodName := ⟨RX2, "<init>", "(LChainLoader$Bytes;LChainLoader$Volume;)V"⟩
abbrev cX2_trace : ByteArray := prog_4_method_2_code
def yX2_trace : MethodName := ⟨RX2, "trace", "(I)Z"⟩
abbrev cX2_bytes : ByteArray := prog_4_method_3_code
def yX2_bytes : MethodName := ⟨RX2, "bytes", "()I"⟩
abbrev cX2_placeOf : ByteArray := prog_4_method_4_code
def yX2_placeOf : MethodName := ⟨RX2, "placeOf", "(I)I"⟩
abbrev cX2_byteAt : ByteArray := prog_4_method_5_code
def yX2_byteAt : MethodName := ⟨RX2, "byteAt", "(I)I"⟩
abbrev cX2_intAt : ByteArray := prog_4_method_6_code
def yX2_intAt : MethodName := ⟨RX2, "intAt", "(I)I"⟩
abbrev cX2_nextEntry : ByteArray := prog_4_method_7_code
def yX2_nextEntry : MethodName := ⟨RX2, "nextEntry", "()I"⟩
def RX3 : String := "ChainLoader$Files"
def TX3 : u_T := fun k => match k with
  | 0 => ("ChainLoader$Files", "disk", "LChainLoader$Bytes;", true)
  | 1 => ("ChainLoader$Files", "mounted", "LChainLoader$Volume;", true)
  | 2 => ("ChainLoader$Files", "directory", "LChainLoader$Chain;", true)
  | _ => ("ChainLoader$Files", "content", "LChainLoader$Chain;", true)
def tyX3 : Nat → FieldType := fun k => match k with
  | 0 => .object "ChainLoader$Bytes"
  | 1 => .object "ChainLoader$Volume"
  | 2 => .object "ChainLoader$Chain"
  | _ => .object "ChainLoader$Chain"
abbrev wsX30 : List Cond := u_ws RX3 TX3 4
theorem nmX3 : ∀ a, a < 4 → ∀ b, b < 4 → a ≠ b → (TX3 a).2.1 ≠ (TX3 b).2.1 := by decide +kernel
theorem tyX3_ok : ∀ k, k < 4 → parseFieldDescriptor (TX3 k).2.2.1 = some (tyX3 k) := by decide +kernel
abbrev cX3_init : ByteArray := prog_5_method_1_code
def yX3_init : MethodName := ⟨RX3, "<init>", "(LChainLoader$Bytes;LChainLoader$Volume;)V"⟩
abbrev cX3_find : ByteArray := prog_5_method_2_code
def yX3_find : MethodName := ⟨RX3, "find", "(LChainLoader$Path;)I"⟩
abbrev cX3_findName : ByteArray := prog_5_method_3_code
def yX3_findName : MethodName := ⟨RX3, "findName", "(LChainLoader$Path;I)I"⟩
abbrev cX3_findFile : ByteArray := prog_5_method_4_code
def yX3_findFile : MethodName := ⟨RX3, "findFile", "(LChainLoader$Path;)I"⟩
abbrev cX3_open : ByteArray := prog_5_method_5_code
def yX3_open : MethodName := ⟨RX3, "open", "(I)I"⟩
abbrev cX3_nameNumbered : ByteArray := prog_5_method_6_code
def yX3_nameNumbered : MethodName := ⟨RX3, "nameNumbered", "(II)J"⟩
def RX4 : String := "ChainLoader$Kernel"
def TX4 : u_T := fun k => match k with
  | 0 => ("ChainLoader$Kernel", "flags", "I", false)
  | 1 => ("ChainLoader$Kernel", "address", "I", false)
  | _ => ("ChainLoader$Kernel", "start", "I", false)
def tyX4 : Nat → FieldType := fun k => match k with
  | 0 => .int
  | 1 => .int
  | _ => .int
abbrev wsX40 : List Cond := u_ws RX4 TX4 3
theorem nmX4 : ∀ a, a < 3 → ∀ b, b < 3 → a ≠ b → (TX4 a).2.1 ≠ (TX4 b).2.1 := by decide +kernel
theorem tyX4_ok : ∀ k, k < 3 → parseFieldDescriptor (TX4 k).2.2.1 = some (tyX4 k) := by decide +kernel
abbrev cX4_init : ByteArray := prog_6_method_1_code
def yX4_init : MethodName := ⟨RX4, "<init>", "()V"⟩
abbrev cX4_takeHeader : ByteArray := prog_6_method_2_code
def yX4_takeHeader : MethodName := ⟨RX4, "takeHeader", "(LChainLoader$Chain;I)Z"⟩
abbrev cX4_findHeader : ByteArray := prog_6_method_3_code
def yX4_findHeader : MethodName := ⟨RX4, "findHeader", "(LChainLoader$Chain;I)I"⟩
abbrev cX4_fits : ByteArray := prog_6_method_4_code
def yX4_fits : MethodName := ⟨RX4, "fits", "(I)Z"⟩
abbrev cX4_wantsMemoryBytes : ByteArray := prog_6_method_5_code
def yX4_wantsMemoryBytes : MethodName := ⟨RX4, "wantsMemoryBytes", "()Z"⟩
def RX5 : String := "ChainLoader$Path"
def TX5 : u_T := fun k => match k with
  | 0 => ("ChainLoader$Path", "letters", "[I", true)
  | _ => ("ChainLoader$Path", "count", "I", false)
def tyX5 : Nat → FieldType := fun k => match k with
  | 0 => .array .int
  | _ => .int
abbrev wsX50 : List Cond := u_ws RX5 TX5 2
theorem nmX5 : ∀ a, a < 2 → ∀ b, b < 2 → a ≠ b → (TX5 a).2.1 ≠ (TX5 b).2.1 := by decide +kernel
theorem tyX5_ok : ∀ k, k < 2 → parseFieldDescriptor (TX5 k).2.2.1 = some (tyX5 k) := by decide +kernel
abbrev cX5_init : ByteArray := prog_7_method_1_code
def yX5_init : MethodName := ⟨RX5, "<init>", "()V"⟩
abbrev cX5_parse : ByteArray := prog_7_method_2_code
def yX5_parse : MethodName := ⟨RX5, "parse", "([III)Z"⟩
abbrev cX5_isLetter : ByteArray := prog_7_method_3_code
def yX5_isLetter : MethodName := ⟨RX5, "isLetter", "(I)Z"⟩
abbrev cX5_isNameAt : ByteArray := prog_7_method_4_code
def yX5_isNameAt : MethodName := ⟨RX5, "isNameAt", "(ILChainLoader$Bytes;I)Z"⟩
def RX6 : String := "ChainLoader$Settings"
def TX6 : u_T := fun k => match k with
  | 0 => ("ChainLoader$Settings", "text", "[I", true)
  | 1 => ("ChainLoader$Settings", "kernelPath", "LChainLoader$Value;", true)
  | 2 => ("ChainLoader$Settings", "otherPath", "LChainLoader$Value;", true)
  | _ => ("ChainLoader$Settings", "arguments", "LChainLoader$Value;", true)
def tyX6 : Nat → FieldType := fun k => match k with
  | 0 => .array .int
  | 1 => .object "ChainLoader$Value"
  | 2 => .object "ChainLoader$Value"
  | _ => .object "ChainLoader$Value"
abbrev wsX60 : List Cond := u_ws RX6 TX6 4
theorem nmX6 : ∀ a, a < 4 → ∀ b, b < 4 → a ≠ b → (TX6 a).2.1 ≠ (TX6 b).2.1 := by decide +kernel
theorem tyX6_ok : ∀ k, k < 4 → parseFieldDescriptor (TX6 k).2.2.1 = some (tyX6 k) := by decide +kernel
abbrev cX6_init : ByteArray := prog_8_method_1_code
def yX6_init : MethodName := ⟨RX6, "<init>", "()V"⟩
abbrev cX6_take : ByteArray := prog_8_method_2_code
def yX6_take : MethodName := ⟨RX6, "take", "(LChainLoader$Chain;I)Z"⟩
abbrev cX6_takeLine : ByteArray := prog_8_method_3_code
def yX6_takeLine : MethodName := ⟨RX6, "takeLine", "(II)Z"⟩
def RX7 : String := "ChainLoader$Value"
def TX7 : u_T := fun k => match k with
  | 0 => ("ChainLoader$Value", "given", "Z", false)
  | 1 => ("ChainLoader$Value", "from", "I", false)
  | _ => ("ChainLoader$Value", "to", "I", false)
def tyX7 : Nat → FieldType := fun k => match k with
  | 0 => .boolean
  | 1 => .int
  | _ => .int
abbrev wsX70 : List Cond := u_ws RX7 TX7 3
theorem nmX7 : ∀ a, a < 3 → ∀ b, b < 3 → a ≠ b → (TX7 a).2.1 ≠ (TX7 b).2.1 := by decide +kernel
theorem tyX7_ok : ∀ k, k < 3 → parseFieldDescriptor (TX7 k).2.2.1 = some (tyX7 k) := by decide +kernel
abbrev cX7_init : ByteArray := prog_9_method_1_code
def yX7_init : MethodName := ⟨RX7, "<init>", "()V"⟩
abbrev cX7_forget : ByteArray := prog_9_method_2_code
def yX7_forget : MethodName := ⟨RX7, "forget", "()V"⟩
abbrev cX7_set : ByteArray := prog_9_method_3_code
def yX7_set : MethodName := ⟨RX7, "set", "(II)V"⟩
def RX8 : String := "ChainLoader$Volume"
def TX8 : u_T := fun k => match k with
  | 0 => ("ChainLoader$Volume", "disk", "LChainLoader$Bytes;", true)
  | 1 => ("ChainLoader$Volume", "record", "I", false)
  | 2 => ("ChainLoader$Volume", "root", "I", false)
  | 3 => ("ChainLoader$Volume", "clusters", "I", false)
  | 4 => ("ChainLoader$Volume", "clusterBytes", "I", false)
  | 5 => ("ChainLoader$Volume", "tables", "I", false)
  | 6 => ("ChainLoader$Volume", "tableBytes", "I", false)
  | 7 => ("ChainLoader$Volume", "tablesPlace", "I", false)
  | _ => ("ChainLoader$Volume", "clustersPlace", "I", false)
def tyX8 : Nat → FieldType := fun k => match k with
  | 0 => .object "ChainLoader$Bytes"
  | 1 => .int
  | 2 => .int
  | 3 => .int
  | 4 => .int
  | 5 => .int
  | 6 => .int
  | 7 => .int
  | _ => .int
abbrev wsX80 : List Cond := u_ws RX8 TX8 9
theorem nmX8 : ∀ a, a < 9 → ∀ b, b < 9 → a ≠ b → (TX8 a).2.1 ≠ (TX8 b).2.1 := by decide +kernel
theorem tyX8_ok : ∀ k, k < 9 → parseFieldDescriptor (TX8 k).2.2.1 = some (tyX8 k) := by decide +kernel
abbrev cX8_init : ByteArray := prog_10_method_1_code
def yX8_init : MethodName := ⟨RX8, "<init>", "(LChainLoader$Bytes;)V"⟩
abbrev cX8_mount : ByteArray := prog_10_method_2_code
def yX8_mount : MethodName := ⟨RX8, "mount", "()I"⟩
abbrev cX8_isSigned : ByteArray := prog_10_method_3_code
def yX8_isSigned : MethodName := ⟨RX8, "isSigned", "(I)Z"⟩
abbrev cX8_placeOfRecord : ByteArray := prog_10_method_4_code
def yX8_placeOfRecord : MethodName := ⟨RX8, "placeOfRecord", "(I)I"⟩
abbrev cX8_choosePartition : ByteArray := prog_10_method_5_code
def yX8_choosePartition : MethodName := ⟨RX8, "choosePartition", "()I"⟩
abbrev cX8_isUsable : ByteArray := prog_10_method_6_code
def yX8_isUsable : MethodName := ⟨RX8, "isUsable", "(I)Z"⟩
abbrev cX8_takeGeometry : ByteArray := prog_10_method_7_code
def yX8_takeGeometry : MethodName := ⟨RX8, "takeGeometry", "(II)Z"⟩
abbrev cX8_isCluster : ByteArray := prog_10_method_8_code
def yX8_isCluster : MethodName := ⟨RX8, "isCluster", "(I)Z"⟩
abbrev cX8_isEnd : ByteArray := prog_10_method_9_code
def yX8_isEnd : MethodName := ⟨RX8, "isEnd", "(I)Z"⟩
abbrev cX8_behind : ByteArray := prog_10_method_10_code
def yX8_behind : MethodName := ⟨RX8, "behind", "(I)I"⟩
abbrev cX8_placeOfCluster : ByteArray := prog_10_method_11_code
def yX8_placeOfCluster : MethodName := ⟨RX8, "placeOfCluster", "(I)I"⟩
abbrev cX8_isDirectory : ByteArray := prog_10_method_12_code
def yX8_isDirectory : MethodName := ⟨RX8, "isDirectory", "(I)Z"⟩
abbrev cX8_firstClusterOf : ByteArray := prog_10_method_13_code
def yX8_firstClusterOf : MethodName := ⟨RX8, "firstClusterOf", "(I)I"⟩
abbrev cX8_sizeOf : ByteArray := prog_10_method_14_code
def yX8_sizeOf : MethodName := ⟨RX8, "sizeOf", "(I)I"⟩
def RX9 : String := "ChainLoader"
def TX9 : u_T := fun k => match k with
  | 0 => ("ChainLoader", "disk", "LChainLoader$Bytes;", true)
  | 1 => ("ChainLoader", "ram", "LChainLoader$Bytes;", true)
  | 2 => ("ChainLoader", "mounted", "LChainLoader$Volume;", true)
  | 3 => ("ChainLoader", "path", "LChainLoader$Path;", true)
  | 4 => ("ChainLoader", "files", "LChainLoader$Files;", true)
  | 5 => ("ChainLoader", "census", "LChainLoader$Census;", true)
  | 6 => ("ChainLoader", "settings", "LChainLoader$Settings;", true)
  | 7 => ("ChainLoader", "kernel", "LChainLoader$Kernel;", true)
  | 8 => ("ChainLoader", "typed", "[I", true)
  | 9 => ("ChainLoader", "typedCount", "I", false)
  | _ => ("ChainLoader", "loadedEntry", "I", false)
def tyX9 : Nat → FieldType := fun k => match k with
  | 0 => .object "ChainLoader$Bytes"
  | 1 => .object "ChainLoader$Bytes"
  | 2 => .object "ChainLoader$Volume"
  | 3 => .object "ChainLoader$Path"
  | 4 => .object "ChainLoader$Files"
  | 5 => .object "ChainLoader$Census"
  | 6 => .object "ChainLoader$Settings"
  | 7 => .object "ChainLoader$Kernel"
  | 8 => .array .int
  | 9 => .int
  | _ => .int
abbrev wsX90 : List Cond := u_ws RX9 TX9 11
theorem nmX9 : ∀ a, a < 11 → ∀ b, b < 11 → a ≠ b → (TX9 a).2.1 ≠ (TX9 b).2.1 := by decide +kernel
theorem tyX9_ok : ∀ k, k < 11 → parseFieldDescriptor (TX9 k).2.2.1 = some (tyX9 k) := by decide +kernel
abbrev cX9_init : ByteArray := prog_1_method_1_code
def yX9_init : MethodName := ⟨RX9, "<init>", "()V"⟩
abbrev cX9_poke : ByteArray := prog_1_method_2_code
def yX9_poke : MethodName := ⟨RX9, "poke", "(IJI)Z"⟩
abbrev cX9_peek : ByteArray := prog_1_method_3_code
def yX9_peek : MethodName := ⟨RX9, "peek", "(I)I"⟩
abbrev cX9_volume : ByteArray := prog_1_method_4_code
def yX9_volume : MethodName := ⟨RX9, "volume", "()I"⟩
abbrev cX9_type : ByteArray := prog_1_method_5_code
def yX9_type : MethodName := ⟨RX9, "type", "(C)Z"⟩
abbrev cX9_scrap : ByteArray := prog_1_method_6_code
def yX9_scrap : MethodName := ⟨RX9, "scrap", "()I"⟩
abbrev cX9_size : ByteArray := prog_1_method_7_code
def yX9_size : MethodName := ⟨RX9, "size", "()I"⟩
abbrev cX9_read : ByteArray := prog_1_method_8_code
def yX9_read : MethodName := ⟨RX9, "read", "(I)I"⟩
abbrev cX9_list : ByteArray := prog_1_method_9_code
def yX9_list : MethodName := ⟨RX9, "list", "(I)J"⟩
abbrev cX9_survey : ByteArray := prog_1_method_10_code
def yX9_survey : MethodName := ⟨RX9, "survey", "()I"⟩
abbrev cX9_boot : ByteArray := prog_1_method_11_code
def yX9_boot : MethodName := ⟨RX9, "boot", "()I"⟩
abbrev cX9_memory : ByteArray := prog_1_method_12_code
def yX9_memory : MethodName := ⟨RX9, "memory", "(I)I"⟩
abbrev cX9_entry : ByteArray := prog_1_method_13_code
def yX9_entry : MethodName := ⟨RX9, "entry", "()I"⟩
abbrev cX9_findTypedFile : ByteArray := prog_1_method_14_code
def yX9_findTypedFile : MethodName := ⟨RX9, "findTypedFile", "()I"⟩
abbrev cX9_findTypedDirectory : ByteArray := prog_1_method_15_code
def yX9_findTypedDirectory : MethodName := ⟨RX9, "findTypedDirectory", "()I"⟩
abbrev cX9_takeSettings : ByteArray := prog_1_method_16_code
def yX9_takeSettings : MethodName := ⟨RX9, "takeSettings", "()I"⟩
abbrev cX9_load : ByteArray := prog_1_method_17_code
def yX9_load : MethodName := ⟨RX9, "load", "(LChainLoader$Value;)I"⟩
abbrev cX9_copyKernel : ByteArray := prog_1_method_18_code
def yX9_copyKernel : MethodName := ⟨RX9, "copyKernel", "(I)V"⟩
abbrev cX9_writeInformation : ByteArray := prog_1_method_19_code
def yX9_writeInformation : MethodName := ⟨RX9, "writeInformation", "(I)V"⟩
abbrev cX9_copyArguments : ByteArray := prog_1_method_20_code
def yX9_copyArguments : MethodName := ⟨RX9, "copyArguments", "()V"⟩
def RX10 : String := "ChainLoaderModel"
def TX10 : u_T := fun k => match k with
  | 0 => ("ChainLoaderModel", "disk", "[I", true)
  | 1 => ("ChainLoaderModel", "ram", "[I", true)
  | 2 => ("ChainLoaderModel", "start", "I", false)
  | 3 => ("ChainLoaderModel", "record", "I", false)
  | 4 => ("ChainLoaderModel", "tablesAt", "I", false)
  | 5 => ("ChainLoaderModel", "tables", "I", false)
  | 6 => ("ChainLoaderModel", "tableSectors", "I", false)
  | 7 => ("ChainLoaderModel", "clusterSectors", "I", false)
  | 8 => ("ChainLoaderModel", "clustersAt", "I", false)
  | 9 => ("ChainLoaderModel", "clusters", "I", false)
  | 10 => ("ChainLoaderModel", "root", "I", false)
  | 11 => ("ChainLoaderModel", "text", "[I", true)
  | 12 => ("ChainLoaderModel", "textLength", "I", false)
  | 13 => ("ChainLoaderModel", "path", "[I", true)
  | 14 => ("ChainLoaderModel", "pathLength", "I", false)
  | 15 => ("ChainLoaderModel", "names", "[I", true)
  | 16 => ("ChainLoaderModel", "nameCount", "I", false)
  | 17 => ("ChainLoaderModel", "kernel", "[I", true)
  | 18 => ("ChainLoaderModel", "other", "[I", true)
  | 19 => ("ChainLoaderModel", "arguments", "[I", true)
  | 20 => ("ChainLoaderModel", "kernelLength", "I", false)
  | 21 => ("ChainLoaderModel", "otherLength", "I", false)
  | 22 => ("ChainLoaderModel", "argumentLength", "I", false)
  | 23 => ("ChainLoaderModel", "openAt", "[I", true)
  | 24 => ("ChainLoaderModel", "openLength", "[I", true)
  | _ => ("ChainLoaderModel", "openNext", "[I", true)
def tyX10 : Nat → FieldType := fun k => match k with
  | 0 => .array .int
  | 1 => .array .int
  | 2 => .int
  | 3 => .int
  | 4 => .int
  | 5 => .int
  | 6 => .int
  | 7 => .int
  | 8 => .int
  | 9 => .int
  | 10 => .int
  | 11 => .array .int
  | 12 => .int
  | 13 => .array .int
  | 14 => .int
  | 15 => .array .int
  | 16 => .int
  | 17 => .array .int
  | 18 => .array .int
  | 19 => .array .int
  | 20 => .int
  | 21 => .int
  | 22 => .int
  | 23 => .array .int
  | 24 => .array .int
  | _ => .array .int
abbrev wsX100 : List Cond := u_ws RX10 TX10 26
theorem nmX10 : ∀ a, a < 26 → ∀ b, b < 26 → a ≠ b → (TX10 a).2.1 ≠ (TX10 b).2.1 := by decide +kernel
theorem tyX10_ok : ∀ k, k < 26 → parseFieldDescriptor (TX10 k).2.2.1 = some (tyX10 k) := by decide +kernel
abbrev cX10_init : ByteArray := prog_12_method_1_code
def yX10_init : MethodName := ⟨RX10, "<init>", "()V"⟩
abbrev cX10_poke : ByteArray := prog_12_method_2_code
def yX10_poke : MethodName := ⟨RX10, "poke", "(IJI)Z"⟩
abbrev cX10_peek : ByteArray := prog_12_method_3_code
def yX10_peek : MethodName := ⟨RX10, "peek", "(I)I"⟩
abbrev cX10_word : ByteArray := prog_12_method_4_code
def yX10_word : MethodName := ⟨RX10, "word", "(I)I"⟩
abbrev cX10_four : ByteArray := prog_12_method_5_code
def yX10_four : MethodName := ⟨RX10, "four", "(I)I"⟩
abbrev cX10_isUsable : ByteArray := prog_12_method_6_code
def yX10_isUsable : MethodName := ⟨RX10, "isUsable", "(I)Z"⟩
abbrev cX10_choose : ByteArray := prog_12_method_7_code
def yX10_choose : MethodName := ⟨RX10, "choose", "()I"⟩
abbrev cX10_volume : ByteArray := prog_12_method_8_code
def yX10_volume : MethodName := ⟨RX10, "volume", "()I"⟩
abbrev cX10_isCluster : ByteArray := prog_12_method_9_code
def yX10_isCluster : MethodName := ⟨RX10, "isCluster", "(I)Z"⟩
abbrev cX10_behind : ByteArray := prog_12_method_10_code
def yX10_behind : MethodName := ⟨RX10, "behind", "(I)I"⟩
abbrev cX10_chain : ByteArray := prog_12_method_11_code
def yX10_chain : MethodName := ⟨RX10, "chain", "(I)I"⟩
abbrev cX10_place : ByteArray := prog_12_method_12_code
def yX10_place : MethodName := ⟨RX10, "place", "(II)I"⟩
abbrev cX10_isPassed : ByteArray := prog_12_method_13_code
def yX10_isPassed : MethodName := ⟨RX10, "isPassed", "(I)Z"⟩
abbrev cX10_isDirectory : ByteArray := prog_12_method_14_code
def yX10_isDirectory : MethodName := ⟨RX10, "isDirectory", "(I)Z"⟩
abbrev cX10_sizeAt : ByteArray := prog_12_method_15_code
def yX10_sizeAt : MethodName := ⟨RX10, "sizeAt", "(I)I"⟩
abbrev cX10_nth : ByteArray := prog_12_method_16_code
def yX10_nth : MethodName := ⟨RX10, "nth", "(III)I"⟩
abbrev cX10_lookUp : ByteArray := prog_12_method_17_code
def yX10_lookUp : MethodName := ⟨RX10, "lookUp", "(II)I"⟩
abbrev cX10_isLetter : ByteArray := prog_12_method_18_code
def yX10_isLetter : MethodName := ⟨RX10, "isLetter", "(I)Z"⟩
abbrev cX10_parse : ByteArray := prog_12_method_19_code
def yX10_parse : MethodName := ⟨RX10, "parse", "()Z"⟩
abbrev cX10_find : ByteArray := prog_12_method_20_code
def yX10_find : MethodName := ⟨RX10, "find", "()I"⟩
abbrev cX10_take : ByteArray := prog_12_method_21_code
def yX10_take : MethodName := ⟨RX10, "take", "([II)V"⟩
abbrev cX10_isBroken : ByteArray := prog_12_method_22_code
def yX10_isBroken : MethodName := ⟨RX10, "isBroken", "(I)Z"⟩
abbrev cX10_byteOf : ByteArray := prog_12_method_23_code
def yX10_byteOf : MethodName := ⟨RX10, "byteOf", "(II)I"⟩
abbrev cX10_type : ByteArray := prog_12_method_24_code
def yX10_type : MethodName := ⟨RX10, "type", "(C)Z"⟩
abbrev cX10_scrap : ByteArray := prog_12_method_25_code
def yX10_scrap : MethodName := ⟨RX10, "scrap", "()I"⟩
abbrev cX10_fileOfText : ByteArray := prog_12_method_26_code
def yX10_fileOfText : MethodName := ⟨RX10, "fileOfText", "()I"⟩
abbrev cX10_size : ByteArray := prog_12_method_27_code
def yX10_size : MethodName := ⟨RX10, "size", "()I"⟩
abbrev cX10_read : ByteArray := prog_12_method_28_code
def yX10_read : MethodName := ⟨RX10, "read", "(I)I"⟩
abbrev cX10_list : ByteArray := prog_12_method_29_code
def yX10_list : MethodName := ⟨RX10, "list", "(I)J"⟩
abbrev cX10_survey : ByteArray := prog_12_method_30_code
def yX10_survey : MethodName := ⟨RX10, "survey", "()I"⟩
abbrev cX10_line : ByteArray := prog_12_method_31_code
def yX10_line : MethodName := ⟨RX10, "line", "(III)Z"⟩
abbrev cX10_settings : ByteArray := prog_12_method_32_code
def yX10_settings : MethodName := ⟨RX10, "settings", "()I"⟩
abbrev cX10_intOf : ByteArray := prog_12_method_33_code
def yX10_intOf : MethodName := ⟨RX10, "intOf", "(II)I"⟩
abbrev cX10_put : ByteArray := prog_12_method_34_code
def yX10_put : MethodName := ⟨RX10, "put", "(II)V"⟩
abbrev cX10_fill : ByteArray := prog_12_method_35_code
def yX10_fill : MethodName := ⟨RX10, "fill", "(III)V"⟩
abbrev cX10_load : ByteArray := prog_12_method_36_code
def yX10_load : MethodName := ⟨RX10, "load", "()I"⟩
abbrev cX10_boot : ByteArray := prog_12_method_37_code
def yX10_boot : MethodName := ⟨RX10, "boot", "()I"⟩
abbrev cX10_memory : ByteArray := prog_12_method_38_code
def yX10_memory : MethodName := ⟨RX10, "memory", "(I)I"⟩
abbrev cX10_entry : ByteArray := prog_12_method_39_code
def yX10_entry : MethodName := ⟨RX10, "entry", "()I"⟩
def RJ7 : String := "java/util/Arrays"
def TJ7 : u_T := fun k => match k with
  | _ => ("", "", "", false)
def tyJ7 : Nat → FieldType := fun k => match k with
  | _ => .int
abbrev wsJ70 : List Cond := u_ws RJ7 TJ7 0
theorem nmJ7 : ∀ a, a < 0 → ∀ b, b < 0 → a ≠ b → (TJ7 a).2.1 ≠ (TJ7 b).2.1 := by decide +kernel
theorem tyJ7_ok : ∀ k, k < 0 → parseFieldDescriptor (TJ7 k).2.2.1 = some (tyJ7 k) := by decide +kernel
abbrev cJ7_fill_53178 : ByteArray := prog_13_method_103_code
def yJ7_fill_53178 : MethodName := ⟨RJ7, "fill", "([II)V"⟩
abbrev cJ7_fill_031fb : ByteArray := prog_13_method_109_code
def yJ7_fill_031fb : MethodName := ⟨RJ7, "fill", "([BB)V"⟩
def RL : String := "ChainLoaderLaw"
abbrev cL_law : ByteArray := code
def yL_law : MethodName := ⟨RL, "law", "([I)Z"⟩
def wsX0_init : List Cond := .code yX0_init cX0_init 2 none :: ([.methodLink RX0 3 objectInit, .instanceMethod objectInit, .code objectInit ⟨#[0xb1]⟩ 1 none, .arrayClass .byte, .fieldLink RX0 9 "ChainLoader$Bytes" "cells" "[B"] ++ wsX00)
def wsX0_byteAt : List Cond := .code yX0_byteAt cX0_byteAt 2 (some .int) :: ([.fieldLink RX0 9 "ChainLoader$Bytes" "cells" "[B"] ++ wsX00)
def wsX0_wordAt : List Cond := .code yX0_wordAt cX0_wordAt 2 (some .int) :: ([.fieldLink RX0 9 "ChainLoader$Bytes" "cells" "[B"] ++ wsX00)
def wsX0_put : List Cond := .code yX0_put cX0_put 6 (some .boolean) :: ([.fieldLink RX0 9 "ChainLoader$Bytes" "cells" "[B"] ++ wsX00)
def wsJ7_fill_031fb : List Cond := .code yJ7_fill_031fb cJ7_fill_031fb 4 none :: ([])
def wsX0_clear : List Cond := .code yX0_clear cX0_clear 1 none :: ([.fieldLink RX0 9 "ChainLoader$Bytes" "cells" "[B", .methodLink RX0 15 yJ7_fill_031fb, .static yJ7_fill_031fb, .initialized RJ7, .code yJ7_fill_031fb cJ7_fill_031fb 4 none] ++ wsX00)
def wsX2_init : List Cond := .code yX2_init cX2_init 3 none :: ([.methodLink RX2 5 objectInit, .instanceMethod objectInit, .code objectInit ⟨#[0xb1]⟩ 1 none, .fieldLink RX2 11 "ChainLoader$Chain" "disk" "LChainLoader$Bytes;", .fieldLink RX2 15 "ChainLoader$Chain" "mounted" "LChainLoader$Volume;", .arrayClass .int, .fieldLink RX2 19 "ChainLoader$Chain" "places" "[I"] ++ wsX20)
def wsX1_init : List Cond := .code yX1_init cX1_init 4 none :: ([.methodLink RX1 3 objectInit, .instanceMethod objectInit, .code objectInit ⟨#[0xb1]⟩ 1 none, .fieldLink RX1 9 "ChainLoader$Census" "mounted" "LChainLoader$Volume;", .classLink RX1 15 RX2, .fieldLink RX1 17 "ChainLoader$Census" "levels" "[LChainLoader$Chain;", .instantiable RX2 5, .initialized RX2, .methodLink RX1 21 yX2_init, .instanceMethod yX2_init, .code yX2_init cX2_init 3 none, .methodLink RX2 5 objectInit, .fieldLink RX2 11 "ChainLoader$Chain" "disk" "LChainLoader$Bytes;", .fieldLink RX2 15 "ChainLoader$Chain" "mounted" "LChainLoader$Volume;", .arrayClass .int, .fieldLink RX2 19 "ChainLoader$Chain" "places" "[I"] ++ wsX10 ++ wsX20)
def wsX8_isCluster : List Cond := .code yX8_isCluster cX8_isCluster 2 (some .boolean) :: ([.fieldLink RX8 40 "ChainLoader$Volume" "clusters" "I"] ++ wsX80)
def wsX8_placeOfCluster : List Cond := .code yX8_placeOfCluster cX8_placeOfCluster 2 (some .int) :: ([.fieldLink RX8 61 "ChainLoader$Volume" "clustersPlace" "I", .fieldLink RX8 52 "ChainLoader$Volume" "clusterBytes" "I"] ++ wsX80)
def wsX8_isEnd : List Cond := .code yX8_isEnd cX8_isEnd 2 (some .boolean) :: ([])
def wsX8_behind : List Cond := .code yX8_behind cX8_behind 4 (some .int) :: ([.fieldLink RX8 58 "ChainLoader$Volume" "tablesPlace" "I", .fieldLink RX8 9 "ChainLoader$Volume" "disk" "LChainLoader$Bytes;", .fieldLink RX8 46 "ChainLoader$Volume" "tables" "I", .fieldLink RX8 55 "ChainLoader$Volume" "tableBytes" "I", .methodLink RX8 67 yX0_wordAt, .instanceMethod yX0_wordAt, .selects RX0 yX0_wordAt yX0_wordAt, .initialized RX0, .code yX0_wordAt cX0_wordAt 2 (some .int), .fieldLink RX0 9 "ChainLoader$Bytes" "cells" "[B", .methodLink RX8 64 yX8_isCluster, .instanceMethod yX8_isCluster, .selects RX8 yX8_isCluster yX8_isCluster, .initialized RX8, .code yX8_isCluster cX8_isCluster 2 (some .boolean), .fieldLink RX8 40 "ChainLoader$Volume" "clusters" "I", .methodLink RX8 70 yX8_isEnd, .instanceMethod yX8_isEnd, .selects RX8 yX8_isEnd yX8_isEnd, .code yX8_isEnd cX8_isEnd 2 (some .boolean)] ++ wsX80 ++ wsX00)
def wsX2_trace_r1 : List Cond := [Cond.fieldLink RX2 23 "ChainLoader$Chain" "count" "I", Cond.fieldLink RX2 27 "ChainLoader$Chain" "nextSlot" "I", Cond.fieldLink RX2 15 "ChainLoader$Chain" "mounted" "LChainLoader$Volume;", Cond.fieldLink RX2 30 "ChainLoader$Volume" "clusters" "I", Cond.fieldLink RX2 19 "ChainLoader$Chain" "places" "[I", Cond.methodLink RX2 35 yX8_isCluster, Cond.instanceMethod yX8_isCluster, Cond.selects RX8 yX8_isCluster yX8_isCluster, Cond.initialized RX8, Cond.code yX8_isCluster cX8_isCluster 2 (some .boolean), Cond.fieldLink RX8 40 "ChainLoader$Volume" "clusters" "I", Cond.methodLink RX2 39 yX8_placeOfCluster, Cond.instanceMethod yX8_placeOfCluster, Cond.selects RX8 yX8_placeOfCluster yX8_placeOfCluster, Cond.code yX8_placeOfCluster cX8_placeOfCluster 2 (some .int), Cond.fieldLink RX8 61 "ChainLoader$Volume" "clustersPlace" "I", Cond.fieldLink RX8 52 "ChainLoader$Volume" "clusterBytes" "I", Cond.methodLink RX2 43 yX8_behind, Cond.instanceMethod yX8_behind, Cond.selects RX8 yX8_behind yX8_behind, Cond.code yX8_behind cX8_behind 4 (some .int), Cond.fieldLink RX8 58 "ChainLoader$Volume" "tablesPlace" "I", Cond.fieldLink RX8 9 "ChainLoader$Volume" "disk" "LChainLoader$Bytes;", Cond.fieldLink RX8 46 "ChainLoader$Volume" "tables" "I"]
def wsX2_trace_r2 : List Cond := [Cond.fieldLink RX8 55 "ChainLoader$Volume" "tableBytes" "I", Cond.methodLink RX8 67 yX0_wordAt, Cond.instanceMethod yX0_wordAt, Cond.selects RX0 yX0_wordAt yX0_wordAt, Cond.initialized RX0, Cond.code yX0_wordAt cX0_wordAt 2 (some .int), Cond.fieldLink RX0 9 "ChainLoader$Bytes" "cells" "[B", Cond.methodLink RX8 64 yX8_isCluster, Cond.methodLink RX8 70 yX8_isEnd, Cond.instanceMethod yX8_isEnd, Cond.selects RX8 yX8_isEnd yX8_isEnd, Cond.code yX8_isEnd cX8_isEnd 2 (some .boolean), Cond.methodLink RX2 46 yX8_isEnd]
def wsX2_trace : List Cond := .code yX2_trace cX2_trace 3 (some .boolean) :: ((wsX2_trace_r1 ++ wsX2_trace_r2) ++ wsX20 ++ wsX80 ++ wsX00)
def wsX2_bytes : List Cond := .code yX2_bytes cX2_bytes 1 (some .int) :: ([.fieldLink RX2 23 "ChainLoader$Chain" "count" "I", .fieldLink RX2 15 "ChainLoader$Chain" "mounted" "LChainLoader$Volume;", .fieldLink RX2 49 "ChainLoader$Volume" "clusterBytes" "I"] ++ wsX20 ++ wsX80)
def wsX2_placeOf : List Cond := .code yX2_placeOf cX2_placeOf 3 (some .int) :: ([.fieldLink RX2 15 "ChainLoader$Chain" "mounted" "LChainLoader$Volume;", .fieldLink RX2 49 "ChainLoader$Volume" "clusterBytes" "I", .fieldLink RX2 23 "ChainLoader$Chain" "count" "I", .fieldLink RX2 19 "ChainLoader$Chain" "places" "[I"] ++ wsX20 ++ wsX80)
def wsX2_nextEntry : List Cond := .code yX2_nextEntry cX2_nextEntry 4 (some .int) :: ([.fieldLink RX2 27 "ChainLoader$Chain" "nextSlot" "I", .fieldLink RX2 11 "ChainLoader$Chain" "disk" "LChainLoader$Bytes;", .methodLink RX2 61 yX2_bytes, .instanceMethod yX2_bytes, .selects RX2 yX2_bytes yX2_bytes, .initialized RX2, .code yX2_bytes cX2_bytes 1 (some .int), .fieldLink RX2 23 "ChainLoader$Chain" "count" "I", .fieldLink RX2 15 "ChainLoader$Chain" "mounted" "LChainLoader$Volume;", .fieldLink RX2 49 "ChainLoader$Volume" "clusterBytes" "I", .methodLink RX2 52 yX2_placeOf, .instanceMethod yX2_placeOf, .selects RX2 yX2_placeOf yX2_placeOf, .code yX2_placeOf cX2_placeOf 3 (some .int), .fieldLink RX2 19 "ChainLoader$Chain" "places" "[I", .methodLink RX2 55 yX0_byteAt, .instanceMethod yX0_byteAt, .selects RX0 yX0_byteAt yX0_byteAt, .initialized RX0, .code yX0_byteAt cX0_byteAt 2 (some .int), .fieldLink RX0 9 "ChainLoader$Bytes" "cells" "[B"] ++ wsX20 ++ wsX80 ++ wsX00)
def wsX8_isDirectory : List Cond := .code yX8_isDirectory cX8_isDirectory 2 (some .boolean) :: ([.fieldLink RX8 9 "ChainLoader$Volume" "disk" "LChainLoader$Bytes;", .methodLink RX8 31 yX0_byteAt, .instanceMethod yX0_byteAt, .selects RX0 yX0_byteAt yX0_byteAt, .initialized RX0, .code yX0_byteAt cX0_byteAt 2 (some .int), .fieldLink RX0 9 "ChainLoader$Bytes" "cells" "[B"] ++ wsX80 ++ wsX00)
def wsX8_firstClusterOf : List Cond := .code yX8_firstClusterOf cX8_firstClusterOf 2 (some .int) :: ([.fieldLink RX8 9 "ChainLoader$Volume" "disk" "LChainLoader$Bytes;", .methodLink RX8 31 yX0_byteAt, .instanceMethod yX0_byteAt, .selects RX0 yX0_byteAt yX0_byteAt, .initialized RX0, .code yX0_byteAt cX0_byteAt 2 (some .int), .fieldLink RX0 9 "ChainLoader$Bytes" "cells" "[B"] ++ wsX80 ++ wsX00)
def wsX1_countDirectory_r1 : List Cond := [Cond.fieldLink RX1 17 "ChainLoader$Census" "levels" "[LChainLoader$Chain;", Cond.methodLink RX1 40 yX2_trace, Cond.instanceMethod yX2_trace, Cond.selects RX2 yX2_trace yX2_trace, Cond.initialized RX2, Cond.code yX2_trace cX2_trace 3 (some .boolean), Cond.fieldLink RX2 23 "ChainLoader$Chain" "count" "I", Cond.fieldLink RX2 27 "ChainLoader$Chain" "nextSlot" "I", Cond.fieldLink RX2 15 "ChainLoader$Chain" "mounted" "LChainLoader$Volume;", Cond.fieldLink RX2 30 "ChainLoader$Volume" "clusters" "I", Cond.fieldLink RX2 19 "ChainLoader$Chain" "places" "[I", Cond.methodLink RX2 35 yX8_isCluster, Cond.instanceMethod yX8_isCluster, Cond.selects RX8 yX8_isCluster yX8_isCluster, Cond.initialized RX8, Cond.code yX8_isCluster cX8_isCluster 2 (some .boolean), Cond.fieldLink RX8 40 "ChainLoader$Volume" "clusters" "I", Cond.methodLink RX2 39 yX8_placeOfCluster, Cond.instanceMethod yX8_placeOfCluster, Cond.selects RX8 yX8_placeOfCluster yX8_placeOfCluster, Cond.code yX8_placeOfCluster cX8_placeOfCluster 2 (some .int), Cond.fieldLink RX8 61 "ChainLoader$Volume" "clustersPlace" "I", Cond.fieldLink RX8 52 "ChainLoader$Volume" "clusterBytes" "I", Cond.methodLink RX2 43 yX8_behind]
def wsX1_countDirectory_r2 : List Cond := [Cond.instanceMethod yX8_behind, Cond.selects RX8 yX8_behind yX8_behind, Cond.code yX8_behind cX8_behind 4 (some .int), Cond.fieldLink RX8 58 "ChainLoader$Volume" "tablesPlace" "I", Cond.fieldLink RX8 9 "ChainLoader$Volume" "disk" "LChainLoader$Bytes;", Cond.fieldLink RX8 46 "ChainLoader$Volume" "tables" "I", Cond.fieldLink RX8 55 "ChainLoader$Volume" "tableBytes" "I", Cond.methodLink RX8 67 yX0_wordAt, Cond.instanceMethod yX0_wordAt, Cond.selects RX0 yX0_wordAt yX0_wordAt, Cond.initialized RX0, Cond.code yX0_wordAt cX0_wordAt 2 (some .int), Cond.fieldLink RX0 9 "ChainLoader$Bytes" "cells" "[B", Cond.methodLink RX8 64 yX8_isCluster, Cond.methodLink RX8 70 yX8_isEnd, Cond.instanceMethod yX8_isEnd, Cond.selects RX8 yX8_isEnd yX8_isEnd, Cond.code yX8_isEnd cX8_isEnd 2 (some .boolean), Cond.methodLink RX2 46 yX8_isEnd, Cond.methodLink RX1 44 yX2_nextEntry, Cond.instanceMethod yX2_nextEntry, Cond.selects RX2 yX2_nextEntry yX2_nextEntry, Cond.code yX2_nextEntry cX2_nextEntry 4 (some .int), Cond.fieldLink RX2 11 "ChainLoader$Chain" "disk" "LChainLoader$Bytes;"]
def wsX1_countDirectory_r3 : List Cond := [Cond.methodLink RX2 61 yX2_bytes, Cond.instanceMethod yX2_bytes, Cond.selects RX2 yX2_bytes yX2_bytes, Cond.code yX2_bytes cX2_bytes 1 (some .int), Cond.fieldLink RX2 49 "ChainLoader$Volume" "clusterBytes" "I", Cond.methodLink RX2 52 yX2_placeOf, Cond.instanceMethod yX2_placeOf, Cond.selects RX2 yX2_placeOf yX2_placeOf, Cond.code yX2_placeOf cX2_placeOf 3 (some .int), Cond.methodLink RX2 55 yX0_byteAt, Cond.instanceMethod yX0_byteAt, Cond.selects RX0 yX0_byteAt yX0_byteAt, Cond.code yX0_byteAt cX0_byteAt 2 (some .int), Cond.methodLink RX1 48 yX1_countEntry, Cond.instanceMethod yX1_countEntry, Cond.selects RX1 yX1_countEntry yX1_countEntry, Cond.initialized RX1, Cond.code yX1_countEntry cX1_countEntry 3 (some .int), Cond.fieldLink RX1 24 "ChainLoader$Census" "met" "I", Cond.fieldLink RX1 9 "ChainLoader$Census" "mounted" "LChainLoader$Volume;", Cond.fieldLink RX1 28 "ChainLoader$Census" "directories" "I", Cond.methodLink RX1 51 yX8_isDirectory, Cond.instanceMethod yX8_isDirectory, Cond.selects RX8 yX8_isDirectory yX8_isDirectory]
def wsX1_countDirectory_r4 : List Cond := [Cond.code yX8_isDirectory cX8_isDirectory 2 (some .boolean), Cond.methodLink RX8 31 yX0_byteAt, Cond.methodLink RX1 54 yX8_firstClusterOf, Cond.instanceMethod yX8_firstClusterOf, Cond.selects RX8 yX8_firstClusterOf yX8_firstClusterOf, Cond.code yX8_firstClusterOf cX8_firstClusterOf 2 (some .int), Cond.methodLink RX1 36 yX1_countDirectory, Cond.instanceMethod yX1_countDirectory, Cond.selects RX1 yX1_countDirectory yX1_countDirectory]
def wsX1_countDirectory : List Cond := .code yX1_countDirectory cX1_countDirectory 7 (some .int) :: ((wsX1_countDirectory_r1 ++ (wsX1_countDirectory_r2 ++ (wsX1_countDirectory_r3 ++ wsX1_countDirectory_r4))) ++ wsX10 ++ wsX20 ++ wsX80 ++ wsX00)
def wsX1_countEntry_r1 : List Cond := [Cond.fieldLink RX1 24 "ChainLoader$Census" "met" "I", Cond.fieldLink RX1 9 "ChainLoader$Census" "mounted" "LChainLoader$Volume;", Cond.fieldLink RX1 28 "ChainLoader$Census" "directories" "I", Cond.methodLink RX1 51 yX8_isDirectory, Cond.instanceMethod yX8_isDirectory, Cond.selects RX8 yX8_isDirectory yX8_isDirectory, Cond.initialized RX8, Cond.code yX8_isDirectory cX8_isDirectory 2 (some .boolean), Cond.fieldLink RX8 9 "ChainLoader$Volume" "disk" "LChainLoader$Bytes;", Cond.methodLink RX8 31 yX0_byteAt, Cond.instanceMethod yX0_byteAt, Cond.selects RX0 yX0_byteAt yX0_byteAt, Cond.initialized RX0, Cond.code yX0_byteAt cX0_byteAt 2 (some .int), Cond.fieldLink RX0 9 "ChainLoader$Bytes" "cells" "[B", Cond.methodLink RX1 54 yX8_firstClusterOf, Cond.instanceMethod yX8_firstClusterOf, Cond.selects RX8 yX8_firstClusterOf yX8_firstClusterOf, Cond.code yX8_firstClusterOf cX8_firstClusterOf 2 (some .int), Cond.methodLink RX1 36 yX1_countDirectory, Cond.instanceMethod yX1_countDirectory, Cond.selects RX1 yX1_countDirectory yX1_countDirectory, Cond.initialized RX1, Cond.code yX1_countDirectory cX1_countDirectory 7 (some .int)]
def wsX1_countEntry_r2 : List Cond := [Cond.fieldLink RX1 17 "ChainLoader$Census" "levels" "[LChainLoader$Chain;", Cond.methodLink RX1 40 yX2_trace, Cond.instanceMethod yX2_trace, Cond.selects RX2 yX2_trace yX2_trace, Cond.initialized RX2, Cond.code yX2_trace cX2_trace 3 (some .boolean), Cond.fieldLink RX2 23 "ChainLoader$Chain" "count" "I", Cond.fieldLink RX2 27 "ChainLoader$Chain" "nextSlot" "I", Cond.fieldLink RX2 15 "ChainLoader$Chain" "mounted" "LChainLoader$Volume;", Cond.fieldLink RX2 30 "ChainLoader$Volume" "clusters" "I", Cond.fieldLink RX2 19 "ChainLoader$Chain" "places" "[I", Cond.methodLink RX2 35 yX8_isCluster, Cond.instanceMethod yX8_isCluster, Cond.selects RX8 yX8_isCluster yX8_isCluster, Cond.code yX8_isCluster cX8_isCluster 2 (some .boolean), Cond.fieldLink RX8 40 "ChainLoader$Volume" "clusters" "I", Cond.methodLink RX2 39 yX8_placeOfCluster, Cond.instanceMethod yX8_placeOfCluster, Cond.selects RX8 yX8_placeOfCluster yX8_placeOfCluster, Cond.code yX8_placeOfCluster cX8_placeOfCluster 2 (some .int), Cond.fieldLink RX8 61 "ChainLoader$Volume" "clustersPlace" "I", Cond.fieldLink RX8 52 "ChainLoader$Volume" "clusterBytes" "I", Cond.methodLink RX2 43 yX8_behind, Cond.instanceMethod yX8_behind]
def wsX1_countEntry_r3 : List Cond := [Cond.selects RX8 yX8_behind yX8_behind, Cond.code yX8_behind cX8_behind 4 (some .int), Cond.fieldLink RX8 58 "ChainLoader$Volume" "tablesPlace" "I", Cond.fieldLink RX8 46 "ChainLoader$Volume" "tables" "I", Cond.fieldLink RX8 55 "ChainLoader$Volume" "tableBytes" "I", Cond.methodLink RX8 67 yX0_wordAt, Cond.instanceMethod yX0_wordAt, Cond.selects RX0 yX0_wordAt yX0_wordAt, Cond.code yX0_wordAt cX0_wordAt 2 (some .int), Cond.methodLink RX8 64 yX8_isCluster, Cond.methodLink RX8 70 yX8_isEnd, Cond.instanceMethod yX8_isEnd, Cond.selects RX8 yX8_isEnd yX8_isEnd, Cond.code yX8_isEnd cX8_isEnd 2 (some .boolean), Cond.methodLink RX2 46 yX8_isEnd, Cond.methodLink RX1 44 yX2_nextEntry, Cond.instanceMethod yX2_nextEntry, Cond.selects RX2 yX2_nextEntry yX2_nextEntry, Cond.code yX2_nextEntry cX2_nextEntry 4 (some .int), Cond.fieldLink RX2 11 "ChainLoader$Chain" "disk" "LChainLoader$Bytes;", Cond.methodLink RX2 61 yX2_bytes, Cond.instanceMethod yX2_bytes, Cond.selects RX2 yX2_bytes yX2_bytes, Cond.code yX2_bytes cX2_bytes 1 (some .int)]
def wsX1_countEntry_r4 : List Cond := [Cond.fieldLink RX2 49 "ChainLoader$Volume" "clusterBytes" "I", Cond.methodLink RX2 52 yX2_placeOf, Cond.instanceMethod yX2_placeOf, Cond.selects RX2 yX2_placeOf yX2_placeOf, Cond.code yX2_placeOf cX2_placeOf 3 (some .int), Cond.methodLink RX2 55 yX0_byteAt, Cond.methodLink RX1 48 yX1_countEntry, Cond.instanceMethod yX1_countEntry, Cond.selects RX1 yX1_countEntry yX1_countEntry]
def wsX1_countEntry : List Cond := .code yX1_countEntry cX1_countEntry 3 (some .int) :: ((wsX1_countEntry_r1 ++ (wsX1_countEntry_r2 ++ (wsX1_countEntry_r3 ++ wsX1_countEntry_r4))) ++ wsX10 ++ wsX20 ++ wsX80 ++ wsX00)
def wsX1_countAll_r1 : List Cond := [Cond.fieldLink RX1 24 "ChainLoader$Census" "met" "I", Cond.fieldLink RX1 28 "ChainLoader$Census" "directories" "I", Cond.fieldLink RX1 9 "ChainLoader$Census" "mounted" "LChainLoader$Volume;", Cond.fieldLink RX1 31 "ChainLoader$Volume" "root" "I", Cond.methodLink RX1 36 yX1_countDirectory, Cond.instanceMethod yX1_countDirectory, Cond.selects RX1 yX1_countDirectory yX1_countDirectory, Cond.initialized RX1, Cond.code yX1_countDirectory cX1_countDirectory 7 (some .int), Cond.fieldLink RX1 17 "ChainLoader$Census" "levels" "[LChainLoader$Chain;", Cond.methodLink RX1 40 yX2_trace, Cond.instanceMethod yX2_trace, Cond.selects RX2 yX2_trace yX2_trace, Cond.initialized RX2, Cond.code yX2_trace cX2_trace 3 (some .boolean), Cond.fieldLink RX2 23 "ChainLoader$Chain" "count" "I", Cond.fieldLink RX2 27 "ChainLoader$Chain" "nextSlot" "I", Cond.fieldLink RX2 15 "ChainLoader$Chain" "mounted" "LChainLoader$Volume;", Cond.fieldLink RX2 30 "ChainLoader$Volume" "clusters" "I", Cond.fieldLink RX2 19 "ChainLoader$Chain" "places" "[I", Cond.methodLink RX2 35 yX8_isCluster, Cond.instanceMethod yX8_isCluster, Cond.selects RX8 yX8_isCluster yX8_isCluster, Cond.initialized RX8]
def wsX1_countAll_r2 : List Cond := [Cond.code yX8_isCluster cX8_isCluster 2 (some .boolean), Cond.fieldLink RX8 40 "ChainLoader$Volume" "clusters" "I", Cond.methodLink RX2 39 yX8_placeOfCluster, Cond.instanceMethod yX8_placeOfCluster, Cond.selects RX8 yX8_placeOfCluster yX8_placeOfCluster, Cond.code yX8_placeOfCluster cX8_placeOfCluster 2 (some .int), Cond.fieldLink RX8 61 "ChainLoader$Volume" "clustersPlace" "I", Cond.fieldLink RX8 52 "ChainLoader$Volume" "clusterBytes" "I", Cond.methodLink RX2 43 yX8_behind, Cond.instanceMethod yX8_behind, Cond.selects RX8 yX8_behind yX8_behind, Cond.code yX8_behind cX8_behind 4 (some .int), Cond.fieldLink RX8 58 "ChainLoader$Volume" "tablesPlace" "I", Cond.fieldLink RX8 9 "ChainLoader$Volume" "disk" "LChainLoader$Bytes;", Cond.fieldLink RX8 46 "ChainLoader$Volume" "tables" "I", Cond.fieldLink RX8 55 "ChainLoader$Volume" "tableBytes" "I", Cond.methodLink RX8 67 yX0_wordAt, Cond.instanceMethod yX0_wordAt, Cond.selects RX0 yX0_wordAt yX0_wordAt, Cond.initialized RX0, Cond.code yX0_wordAt cX0_wordAt 2 (some .int), Cond.fieldLink RX0 9 "ChainLoader$Bytes" "cells" "[B", Cond.methodLink RX8 64 yX8_isCluster, Cond.methodLink RX8 70 yX8_isEnd]
def wsX1_countAll_r3 : List Cond := [Cond.instanceMethod yX8_isEnd, Cond.selects RX8 yX8_isEnd yX8_isEnd, Cond.code yX8_isEnd cX8_isEnd 2 (some .boolean), Cond.methodLink RX2 46 yX8_isEnd, Cond.methodLink RX1 44 yX2_nextEntry, Cond.instanceMethod yX2_nextEntry, Cond.selects RX2 yX2_nextEntry yX2_nextEntry, Cond.code yX2_nextEntry cX2_nextEntry 4 (some .int), Cond.fieldLink RX2 11 "ChainLoader$Chain" "disk" "LChainLoader$Bytes;", Cond.methodLink RX2 61 yX2_bytes, Cond.instanceMethod yX2_bytes, Cond.selects RX2 yX2_bytes yX2_bytes, Cond.code yX2_bytes cX2_bytes 1 (some .int), Cond.fieldLink RX2 49 "ChainLoader$Volume" "clusterBytes" "I", Cond.methodLink RX2 52 yX2_placeOf, Cond.instanceMethod yX2_placeOf, Cond.selects RX2 yX2_placeOf yX2_placeOf, Cond.code yX2_placeOf cX2_placeOf 3 (some .int), Cond.methodLink RX2 55 yX0_byteAt, Cond.instanceMethod yX0_byteAt, Cond.selects RX0 yX0_byteAt yX0_byteAt, Cond.code yX0_byteAt cX0_byteAt 2 (some .int), Cond.methodLink RX1 48 yX1_countEntry, Cond.instanceMethod yX1_countEntry]
def wsX1_countAll_r4 : List Cond := [Cond.selects RX1 yX1_countEntry yX1_countEntry, Cond.code yX1_countEntry cX1_countEntry 3 (some .int), Cond.methodLink RX1 51 yX8_isDirectory, Cond.instanceMethod yX8_isDirectory, Cond.selects RX8 yX8_isDirectory yX8_isDirectory, Cond.code yX8_isDirectory cX8_isDirectory 2 (some .boolean), Cond.methodLink RX8 31 yX0_byteAt, Cond.methodLink RX1 54 yX8_firstClusterOf, Cond.instanceMethod yX8_firstClusterOf, Cond.selects RX8 yX8_firstClusterOf yX8_firstClusterOf, Cond.code yX8_firstClusterOf cX8_firstClusterOf 2 (some .int)]
def wsX1_countAll : List Cond := .code yX1_countAll cX1_countAll 2 (some .int) :: ((wsX1_countAll_r1 ++ (wsX1_countAll_r2 ++ (wsX1_countAll_r3 ++ wsX1_countAll_r4))) ++ wsX10 ++ wsX80 ++ wsX20 ++ wsX00)
def wsX2_byteAt : List Cond := .code yX2_byteAt cX2_byteAt 2 (some .int) :: ([.fieldLink RX2 11 "ChainLoader$Chain" "disk" "LChainLoader$Bytes;", .methodLink RX2 52 yX2_placeOf, .instanceMethod yX2_placeOf, .selects RX2 yX2_placeOf yX2_placeOf, .initialized RX2, .code yX2_placeOf cX2_placeOf 3 (some .int), .fieldLink RX2 15 "ChainLoader$Chain" "mounted" "LChainLoader$Volume;", .fieldLink RX2 49 "ChainLoader$Volume" "clusterBytes" "I", .fieldLink RX2 23 "ChainLoader$Chain" "count" "I", .fieldLink RX2 19 "ChainLoader$Chain" "places" "[I", .methodLink RX2 55 yX0_byteAt, .instanceMethod yX0_byteAt, .selects RX0 yX0_byteAt yX0_byteAt, .initialized RX0, .code yX0_byteAt cX0_byteAt 2 (some .int), .fieldLink RX0 9 "ChainLoader$Bytes" "cells" "[B"] ++ wsX20 ++ wsX80 ++ wsX00)
def wsX2_intAt : List Cond := .code yX2_intAt cX2_intAt 2 (some .int) :: ([.methodLink RX2 60 yX2_byteAt, .instanceMethod yX2_byteAt, .selects RX2 yX2_byteAt yX2_byteAt, .initialized RX2, .code yX2_byteAt cX2_byteAt 2 (some .int), .fieldLink RX2 11 "ChainLoader$Chain" "disk" "LChainLoader$Bytes;", .methodLink RX2 52 yX2_placeOf, .instanceMethod yX2_placeOf, .selects RX2 yX2_placeOf yX2_placeOf, .code yX2_placeOf cX2_placeOf 3 (some .int), .fieldLink RX2 15 "ChainLoader$Chain" "mounted" "LChainLoader$Volume;", .fieldLink RX2 49 "ChainLoader$Volume" "clusterBytes" "I", .fieldLink RX2 23 "ChainLoader$Chain" "count" "I", .fieldLink RX2 19 "ChainLoader$Chain" "places" "[I", .methodLink RX2 55 yX0_byteAt, .instanceMethod yX0_byteAt, .selects RX0 yX0_byteAt yX0_byteAt, .initialized RX0, .code yX0_byteAt cX0_byteAt 2 (some .int), .fieldLink RX0 9 "ChainLoader$Bytes" "cells" "[B"] ++ wsX20 ++ wsX80 ++ wsX00)
def wsX3_init : List Cond := .code yX3_init cX3_init 3 none :: ([.methodLink RX3 3 objectInit, .instanceMethod objectInit, .code objectInit ⟨#[0xb1]⟩ 1 none, .fieldLink RX3 9 "ChainLoader$Files" "disk" "LChainLoader$Bytes;", .fieldLink RX3 15 "ChainLoader$Files" "mounted" "LChainLoader$Volume;", .classLink RX3 19 RX2, .instantiable RX2 5, .initialized RX2, .fieldLink RX3 24 "ChainLoader$Files" "directory" "LChainLoader$Chain;", .fieldLink RX3 28 "ChainLoader$Files" "content" "LChainLoader$Chain;", .methodLink RX3 21 yX2_init, .instanceMethod yX2_init, .code yX2_init cX2_init 3 none, .methodLink RX2 5 objectInit, .fieldLink RX2 11 "ChainLoader$Chain" "disk" "LChainLoader$Bytes;", .fieldLink RX2 15 "ChainLoader$Chain" "mounted" "LChainLoader$Volume;", .arrayClass .int, .fieldLink RX2 19 "ChainLoader$Chain" "places" "[I"] ++ wsX30 ++ wsX20)
def wsX5_isNameAt : List Cond := .code yX5_isNameAt cX5_isNameAt 5 (some .boolean) :: ([.fieldLink RX5 9 "ChainLoader$Path" "letters" "[I", .methodLink RX5 27 yX0_byteAt, .instanceMethod yX0_byteAt, .selects RX0 yX0_byteAt yX0_byteAt, .initialized RX0, .code yX0_byteAt cX0_byteAt 2 (some .int), .fieldLink RX0 9 "ChainLoader$Bytes" "cells" "[B"] ++ wsX50 ++ wsX00)
def wsX3_findName_r1 : List Cond := [Cond.fieldLink RX3 24 "ChainLoader$Files" "directory" "LChainLoader$Chain;", Cond.fieldLink RX3 9 "ChainLoader$Files" "disk" "LChainLoader$Bytes;", Cond.methodLink RX3 57 yX2_nextEntry, Cond.instanceMethod yX2_nextEntry, Cond.selects RX2 yX2_nextEntry yX2_nextEntry, Cond.initialized RX2, Cond.code yX2_nextEntry cX2_nextEntry 4 (some .int), Cond.fieldLink RX2 27 "ChainLoader$Chain" "nextSlot" "I", Cond.fieldLink RX2 11 "ChainLoader$Chain" "disk" "LChainLoader$Bytes;", Cond.methodLink RX2 61 yX2_bytes, Cond.instanceMethod yX2_bytes, Cond.selects RX2 yX2_bytes yX2_bytes, Cond.code yX2_bytes cX2_bytes 1 (some .int), Cond.fieldLink RX2 23 "ChainLoader$Chain" "count" "I", Cond.fieldLink RX2 15 "ChainLoader$Chain" "mounted" "LChainLoader$Volume;", Cond.fieldLink RX2 49 "ChainLoader$Volume" "clusterBytes" "I", Cond.methodLink RX2 52 yX2_placeOf, Cond.instanceMethod yX2_placeOf, Cond.selects RX2 yX2_placeOf yX2_placeOf, Cond.code yX2_placeOf cX2_placeOf 3 (some .int), Cond.fieldLink RX2 19 "ChainLoader$Chain" "places" "[I", Cond.methodLink RX2 55 yX0_byteAt, Cond.instanceMethod yX0_byteAt, Cond.selects RX0 yX0_byteAt yX0_byteAt]
def wsX3_findName_r2 : List Cond := [Cond.initialized RX0, Cond.code yX0_byteAt cX0_byteAt 2 (some .int), Cond.fieldLink RX0 9 "ChainLoader$Bytes" "cells" "[B", Cond.methodLink RX3 61 yX5_isNameAt, Cond.instanceMethod yX5_isNameAt, Cond.selects RX5 yX5_isNameAt yX5_isNameAt, Cond.initialized RX5, Cond.code yX5_isNameAt cX5_isNameAt 5 (some .boolean), Cond.fieldLink RX5 9 "ChainLoader$Path" "letters" "[I", Cond.methodLink RX5 27 yX0_byteAt]
def wsX3_findName : List Cond := .code yX3_findName cX3_findName 5 (some .int) :: ((wsX3_findName_r1 ++ wsX3_findName_r2) ++ wsX30 ++ wsX20 ++ wsX80 ++ wsX00 ++ wsX50)
def wsX3_find_r1 : List Cond := [Cond.fieldLink RX3 15 "ChainLoader$Files" "mounted" "LChainLoader$Volume;", Cond.fieldLink RX3 31 "ChainLoader$Volume" "root" "I", Cond.fieldLink RX3 37 "ChainLoader$Path" "count" "I", Cond.fieldLink RX3 24 "ChainLoader$Files" "directory" "LChainLoader$Chain;", Cond.methodLink RX3 42 yX8_isDirectory, Cond.instanceMethod yX8_isDirectory, Cond.selects RX8 yX8_isDirectory yX8_isDirectory, Cond.initialized RX8, Cond.code yX8_isDirectory cX8_isDirectory 2 (some .boolean), Cond.fieldLink RX8 9 "ChainLoader$Volume" "disk" "LChainLoader$Bytes;", Cond.methodLink RX8 31 yX0_byteAt, Cond.instanceMethod yX0_byteAt, Cond.selects RX0 yX0_byteAt yX0_byteAt, Cond.initialized RX0, Cond.code yX0_byteAt cX0_byteAt 2 (some .int), Cond.fieldLink RX0 9 "ChainLoader$Bytes" "cells" "[B", Cond.methodLink RX3 46 yX8_firstClusterOf, Cond.instanceMethod yX8_firstClusterOf, Cond.selects RX8 yX8_firstClusterOf yX8_firstClusterOf, Cond.code yX8_firstClusterOf cX8_firstClusterOf 2 (some .int), Cond.methodLink RX3 50 yX2_trace, Cond.instanceMethod yX2_trace, Cond.selects RX2 yX2_trace yX2_trace, Cond.initialized RX2]
def wsX3_find_r2 : List Cond := [Cond.code yX2_trace cX2_trace 3 (some .boolean), Cond.fieldLink RX2 23 "ChainLoader$Chain" "count" "I", Cond.fieldLink RX2 27 "ChainLoader$Chain" "nextSlot" "I", Cond.fieldLink RX2 15 "ChainLoader$Chain" "mounted" "LChainLoader$Volume;", Cond.fieldLink RX2 30 "ChainLoader$Volume" "clusters" "I", Cond.fieldLink RX2 19 "ChainLoader$Chain" "places" "[I", Cond.methodLink RX2 35 yX8_isCluster, Cond.instanceMethod yX8_isCluster, Cond.selects RX8 yX8_isCluster yX8_isCluster, Cond.code yX8_isCluster cX8_isCluster 2 (some .boolean), Cond.fieldLink RX8 40 "ChainLoader$Volume" "clusters" "I", Cond.methodLink RX2 39 yX8_placeOfCluster, Cond.instanceMethod yX8_placeOfCluster, Cond.selects RX8 yX8_placeOfCluster yX8_placeOfCluster, Cond.code yX8_placeOfCluster cX8_placeOfCluster 2 (some .int), Cond.fieldLink RX8 61 "ChainLoader$Volume" "clustersPlace" "I", Cond.fieldLink RX8 52 "ChainLoader$Volume" "clusterBytes" "I", Cond.methodLink RX2 43 yX8_behind, Cond.instanceMethod yX8_behind, Cond.selects RX8 yX8_behind yX8_behind, Cond.code yX8_behind cX8_behind 4 (some .int), Cond.fieldLink RX8 58 "ChainLoader$Volume" "tablesPlace" "I", Cond.fieldLink RX8 46 "ChainLoader$Volume" "tables" "I", Cond.fieldLink RX8 55 "ChainLoader$Volume" "tableBytes" "I"]
def wsX3_find_r3 : List Cond := [Cond.methodLink RX8 67 yX0_wordAt, Cond.instanceMethod yX0_wordAt, Cond.selects RX0 yX0_wordAt yX0_wordAt, Cond.code yX0_wordAt cX0_wordAt 2 (some .int), Cond.methodLink RX8 64 yX8_isCluster, Cond.methodLink RX8 70 yX8_isEnd, Cond.instanceMethod yX8_isEnd, Cond.selects RX8 yX8_isEnd yX8_isEnd, Cond.code yX8_isEnd cX8_isEnd 2 (some .boolean), Cond.methodLink RX2 46 yX8_isEnd, Cond.methodLink RX3 53 yX3_findName, Cond.instanceMethod yX3_findName, Cond.selects RX3 yX3_findName yX3_findName, Cond.initialized RX3, Cond.code yX3_findName cX3_findName 5 (some .int), Cond.fieldLink RX3 9 "ChainLoader$Files" "disk" "LChainLoader$Bytes;", Cond.methodLink RX3 57 yX2_nextEntry, Cond.instanceMethod yX2_nextEntry, Cond.selects RX2 yX2_nextEntry yX2_nextEntry, Cond.code yX2_nextEntry cX2_nextEntry 4 (some .int), Cond.fieldLink RX2 11 "ChainLoader$Chain" "disk" "LChainLoader$Bytes;", Cond.methodLink RX2 61 yX2_bytes, Cond.instanceMethod yX2_bytes, Cond.selects RX2 yX2_bytes yX2_bytes]
def wsX3_find_r4 : List Cond := [Cond.code yX2_bytes cX2_bytes 1 (some .int), Cond.fieldLink RX2 49 "ChainLoader$Volume" "clusterBytes" "I", Cond.methodLink RX2 52 yX2_placeOf, Cond.instanceMethod yX2_placeOf, Cond.selects RX2 yX2_placeOf yX2_placeOf, Cond.code yX2_placeOf cX2_placeOf 3 (some .int), Cond.methodLink RX2 55 yX0_byteAt, Cond.methodLink RX3 61 yX5_isNameAt, Cond.instanceMethod yX5_isNameAt, Cond.selects RX5 yX5_isNameAt yX5_isNameAt, Cond.initialized RX5, Cond.code yX5_isNameAt cX5_isNameAt 5 (some .boolean), Cond.fieldLink RX5 9 "ChainLoader$Path" "letters" "[I", Cond.methodLink RX5 27 yX0_byteAt]
def wsX3_find : List Cond := .code yX3_find cX3_find 5 (some .int) :: ((wsX3_find_r1 ++ (wsX3_find_r2 ++ (wsX3_find_r3 ++ wsX3_find_r4))) ++ wsX30 ++ wsX80 ++ wsX50 ++ wsX00 ++ wsX20)
def wsX3_findFile_r1 : List Cond := [Cond.fieldLink RX3 15 "ChainLoader$Files" "mounted" "LChainLoader$Volume;", Cond.methodLink RX3 65 yX3_find, Cond.instanceMethod yX3_find, Cond.selects RX3 yX3_find yX3_find, Cond.initialized RX3, Cond.code yX3_find cX3_find 5 (some .int), Cond.fieldLink RX3 31 "ChainLoader$Volume" "root" "I", Cond.fieldLink RX3 37 "ChainLoader$Path" "count" "I", Cond.fieldLink RX3 24 "ChainLoader$Files" "directory" "LChainLoader$Chain;", Cond.methodLink RX3 42 yX8_isDirectory, Cond.instanceMethod yX8_isDirectory, Cond.selects RX8 yX8_isDirectory yX8_isDirectory, Cond.initialized RX8, Cond.code yX8_isDirectory cX8_isDirectory 2 (some .boolean), Cond.fieldLink RX8 9 "ChainLoader$Volume" "disk" "LChainLoader$Bytes;", Cond.methodLink RX8 31 yX0_byteAt, Cond.instanceMethod yX0_byteAt, Cond.selects RX0 yX0_byteAt yX0_byteAt, Cond.initialized RX0, Cond.code yX0_byteAt cX0_byteAt 2 (some .int), Cond.fieldLink RX0 9 "ChainLoader$Bytes" "cells" "[B", Cond.methodLink RX3 46 yX8_firstClusterOf, Cond.instanceMethod yX8_firstClusterOf, Cond.selects RX8 yX8_firstClusterOf yX8_firstClusterOf]
def wsX3_findFile_r2 : List Cond := [Cond.code yX8_firstClusterOf cX8_firstClusterOf 2 (some .int), Cond.methodLink RX3 50 yX2_trace, Cond.instanceMethod yX2_trace, Cond.selects RX2 yX2_trace yX2_trace, Cond.initialized RX2, Cond.code yX2_trace cX2_trace 3 (some .boolean), Cond.fieldLink RX2 23 "ChainLoader$Chain" "count" "I", Cond.fieldLink RX2 27 "ChainLoader$Chain" "nextSlot" "I", Cond.fieldLink RX2 15 "ChainLoader$Chain" "mounted" "LChainLoader$Volume;", Cond.fieldLink RX2 30 "ChainLoader$Volume" "clusters" "I", Cond.fieldLink RX2 19 "ChainLoader$Chain" "places" "[I", Cond.methodLink RX2 35 yX8_isCluster, Cond.instanceMethod yX8_isCluster, Cond.selects RX8 yX8_isCluster yX8_isCluster, Cond.code yX8_isCluster cX8_isCluster 2 (some .boolean), Cond.fieldLink RX8 40 "ChainLoader$Volume" "clusters" "I", Cond.methodLink RX2 39 yX8_placeOfCluster, Cond.instanceMethod yX8_placeOfCluster, Cond.selects RX8 yX8_placeOfCluster yX8_placeOfCluster, Cond.code yX8_placeOfCluster cX8_placeOfCluster 2 (some .int), Cond.fieldLink RX8 61 "ChainLoader$Volume" "clustersPlace" "I", Cond.fieldLink RX8 52 "ChainLoader$Volume" "clusterBytes" "I", Cond.methodLink RX2 43 yX8_behind, Cond.instanceMethod yX8_behind]
def wsX3_findFile_r3 : List Cond := [Cond.selects RX8 yX8_behind yX8_behind, Cond.code yX8_behind cX8_behind 4 (some .int), Cond.fieldLink RX8 58 "ChainLoader$Volume" "tablesPlace" "I", Cond.fieldLink RX8 46 "ChainLoader$Volume" "tables" "I", Cond.fieldLink RX8 55 "ChainLoader$Volume" "tableBytes" "I", Cond.methodLink RX8 67 yX0_wordAt, Cond.instanceMethod yX0_wordAt, Cond.selects RX0 yX0_wordAt yX0_wordAt, Cond.code yX0_wordAt cX0_wordAt 2 (some .int), Cond.methodLink RX8 64 yX8_isCluster, Cond.methodLink RX8 70 yX8_isEnd, Cond.instanceMethod yX8_isEnd, Cond.selects RX8 yX8_isEnd yX8_isEnd, Cond.code yX8_isEnd cX8_isEnd 2 (some .boolean), Cond.methodLink RX2 46 yX8_isEnd, Cond.methodLink RX3 53 yX3_findName, Cond.instanceMethod yX3_findName, Cond.selects RX3 yX3_findName yX3_findName, Cond.code yX3_findName cX3_findName 5 (some .int), Cond.fieldLink RX3 9 "ChainLoader$Files" "disk" "LChainLoader$Bytes;", Cond.methodLink RX3 57 yX2_nextEntry, Cond.instanceMethod yX2_nextEntry, Cond.selects RX2 yX2_nextEntry yX2_nextEntry, Cond.code yX2_nextEntry cX2_nextEntry 4 (some .int)]
def wsX3_findFile_r4 : List Cond := [Cond.fieldLink RX2 11 "ChainLoader$Chain" "disk" "LChainLoader$Bytes;", Cond.methodLink RX2 61 yX2_bytes, Cond.instanceMethod yX2_bytes, Cond.selects RX2 yX2_bytes yX2_bytes, Cond.code yX2_bytes cX2_bytes 1 (some .int), Cond.fieldLink RX2 49 "ChainLoader$Volume" "clusterBytes" "I", Cond.methodLink RX2 52 yX2_placeOf, Cond.instanceMethod yX2_placeOf, Cond.selects RX2 yX2_placeOf yX2_placeOf, Cond.code yX2_placeOf cX2_placeOf 3 (some .int), Cond.methodLink RX2 55 yX0_byteAt, Cond.methodLink RX3 61 yX5_isNameAt, Cond.instanceMethod yX5_isNameAt, Cond.selects RX5 yX5_isNameAt yX5_isNameAt, Cond.initialized RX5, Cond.code yX5_isNameAt cX5_isNameAt 5 (some .boolean), Cond.fieldLink RX5 9 "ChainLoader$Path" "letters" "[I", Cond.methodLink RX5 27 yX0_byteAt]
def wsX3_findFile : List Cond := .code yX3_findFile cX3_findFile 3 (some .int) :: ((wsX3_findFile_r1 ++ (wsX3_findFile_r2 ++ (wsX3_findFile_r3 ++ wsX3_findFile_r4))) ++ wsX30 ++ wsX80 ++ wsX50 ++ wsX00 ++ wsX20)
def wsX8_sizeOf : List Cond := .code yX8_sizeOf cX8_sizeOf 2 (some .int) :: ([.fieldLink RX8 9 "ChainLoader$Volume" "disk" "LChainLoader$Bytes;", .methodLink RX8 67 yX0_wordAt, .instanceMethod yX0_wordAt, .selects RX0 yX0_wordAt yX0_wordAt, .initialized RX0, .code yX0_wordAt cX0_wordAt 2 (some .int), .fieldLink RX0 9 "ChainLoader$Bytes" "cells" "[B"] ++ wsX80 ++ wsX00)
def wsX3_open_r1 : List Cond := [Cond.fieldLink RX3 15 "ChainLoader$Files" "mounted" "LChainLoader$Volume;", Cond.fieldLink RX3 28 "ChainLoader$Files" "content" "LChainLoader$Chain;", Cond.methodLink RX3 69 yX8_sizeOf, Cond.instanceMethod yX8_sizeOf, Cond.selects RX8 yX8_sizeOf yX8_sizeOf, Cond.initialized RX8, Cond.code yX8_sizeOf cX8_sizeOf 2 (some .int), Cond.fieldLink RX8 9 "ChainLoader$Volume" "disk" "LChainLoader$Bytes;", Cond.methodLink RX8 67 yX0_wordAt, Cond.instanceMethod yX0_wordAt, Cond.selects RX0 yX0_wordAt yX0_wordAt, Cond.initialized RX0, Cond.code yX0_wordAt cX0_wordAt 2 (some .int), Cond.fieldLink RX0 9 "ChainLoader$Bytes" "cells" "[B", Cond.methodLink RX3 46 yX8_firstClusterOf, Cond.instanceMethod yX8_firstClusterOf, Cond.selects RX8 yX8_firstClusterOf yX8_firstClusterOf, Cond.code yX8_firstClusterOf cX8_firstClusterOf 2 (some .int), Cond.methodLink RX8 31 yX0_byteAt, Cond.instanceMethod yX0_byteAt, Cond.selects RX0 yX0_byteAt yX0_byteAt, Cond.code yX0_byteAt cX0_byteAt 2 (some .int), Cond.methodLink RX3 50 yX2_trace, Cond.instanceMethod yX2_trace]
def wsX3_open_r2 : List Cond := [Cond.selects RX2 yX2_trace yX2_trace, Cond.initialized RX2, Cond.code yX2_trace cX2_trace 3 (some .boolean), Cond.fieldLink RX2 23 "ChainLoader$Chain" "count" "I", Cond.fieldLink RX2 27 "ChainLoader$Chain" "nextSlot" "I", Cond.fieldLink RX2 15 "ChainLoader$Chain" "mounted" "LChainLoader$Volume;", Cond.fieldLink RX2 30 "ChainLoader$Volume" "clusters" "I", Cond.fieldLink RX2 19 "ChainLoader$Chain" "places" "[I", Cond.methodLink RX2 35 yX8_isCluster, Cond.instanceMethod yX8_isCluster, Cond.selects RX8 yX8_isCluster yX8_isCluster, Cond.code yX8_isCluster cX8_isCluster 2 (some .boolean), Cond.fieldLink RX8 40 "ChainLoader$Volume" "clusters" "I", Cond.methodLink RX2 39 yX8_placeOfCluster, Cond.instanceMethod yX8_placeOfCluster, Cond.selects RX8 yX8_placeOfCluster yX8_placeOfCluster, Cond.code yX8_placeOfCluster cX8_placeOfCluster 2 (some .int), Cond.fieldLink RX8 61 "ChainLoader$Volume" "clustersPlace" "I", Cond.fieldLink RX8 52 "ChainLoader$Volume" "clusterBytes" "I", Cond.methodLink RX2 43 yX8_behind, Cond.instanceMethod yX8_behind, Cond.selects RX8 yX8_behind yX8_behind, Cond.code yX8_behind cX8_behind 4 (some .int), Cond.fieldLink RX8 58 "ChainLoader$Volume" "tablesPlace" "I"]
def wsX3_open_r3 : List Cond := [Cond.fieldLink RX8 46 "ChainLoader$Volume" "tables" "I", Cond.fieldLink RX8 55 "ChainLoader$Volume" "tableBytes" "I", Cond.methodLink RX8 64 yX8_isCluster, Cond.methodLink RX8 70 yX8_isEnd, Cond.instanceMethod yX8_isEnd, Cond.selects RX8 yX8_isEnd yX8_isEnd, Cond.code yX8_isEnd cX8_isEnd 2 (some .boolean), Cond.methodLink RX2 46 yX8_isEnd, Cond.methodLink RX3 72 yX2_bytes, Cond.instanceMethod yX2_bytes, Cond.selects RX2 yX2_bytes yX2_bytes, Cond.code yX2_bytes cX2_bytes 1 (some .int), Cond.fieldLink RX2 49 "ChainLoader$Volume" "clusterBytes" "I"]
def wsX3_open : List Cond := .code yX3_open cX3_open 4 (some .int) :: ((wsX3_open_r1 ++ (wsX3_open_r2 ++ wsX3_open_r3)) ++ wsX30 ++ wsX80 ++ wsX00 ++ wsX20)
def wsX3_nameNumbered_r1 : List Cond := [Cond.fieldLink RX3 24 "ChainLoader$Files" "directory" "LChainLoader$Chain;", Cond.constantLong RX3 75 (-9), Cond.constantLong RX3 77 (-1), Cond.fieldLink RX3 9 "ChainLoader$Files" "disk" "LChainLoader$Bytes;", Cond.methodLink RX3 50 yX2_trace, Cond.instanceMethod yX2_trace, Cond.selects RX2 yX2_trace yX2_trace, Cond.initialized RX2, Cond.code yX2_trace cX2_trace 3 (some .boolean), Cond.fieldLink RX2 23 "ChainLoader$Chain" "count" "I", Cond.fieldLink RX2 27 "ChainLoader$Chain" "nextSlot" "I", Cond.fieldLink RX2 15 "ChainLoader$Chain" "mounted" "LChainLoader$Volume;", Cond.fieldLink RX2 30 "ChainLoader$Volume" "clusters" "I", Cond.fieldLink RX2 19 "ChainLoader$Chain" "places" "[I", Cond.methodLink RX2 35 yX8_isCluster, Cond.instanceMethod yX8_isCluster, Cond.selects RX8 yX8_isCluster yX8_isCluster, Cond.initialized RX8, Cond.code yX8_isCluster cX8_isCluster 2 (some .boolean), Cond.fieldLink RX8 40 "ChainLoader$Volume" "clusters" "I", Cond.methodLink RX2 39 yX8_placeOfCluster, Cond.instanceMethod yX8_placeOfCluster, Cond.selects RX8 yX8_placeOfCluster yX8_placeOfCluster, Cond.code yX8_placeOfCluster cX8_placeOfCluster 2 (some .int)]
def wsX3_nameNumbered_r2 : List Cond := [Cond.fieldLink RX8 61 "ChainLoader$Volume" "clustersPlace" "I", Cond.fieldLink RX8 52 "ChainLoader$Volume" "clusterBytes" "I", Cond.methodLink RX2 43 yX8_behind, Cond.instanceMethod yX8_behind, Cond.selects RX8 yX8_behind yX8_behind, Cond.code yX8_behind cX8_behind 4 (some .int), Cond.fieldLink RX8 58 "ChainLoader$Volume" "tablesPlace" "I", Cond.fieldLink RX8 9 "ChainLoader$Volume" "disk" "LChainLoader$Bytes;", Cond.fieldLink RX8 46 "ChainLoader$Volume" "tables" "I", Cond.fieldLink RX8 55 "ChainLoader$Volume" "tableBytes" "I", Cond.methodLink RX8 67 yX0_wordAt, Cond.instanceMethod yX0_wordAt, Cond.selects RX0 yX0_wordAt yX0_wordAt, Cond.initialized RX0, Cond.code yX0_wordAt cX0_wordAt 2 (some .int), Cond.fieldLink RX0 9 "ChainLoader$Bytes" "cells" "[B", Cond.methodLink RX8 64 yX8_isCluster, Cond.methodLink RX8 70 yX8_isEnd, Cond.instanceMethod yX8_isEnd, Cond.selects RX8 yX8_isEnd yX8_isEnd, Cond.code yX8_isEnd cX8_isEnd 2 (some .boolean), Cond.methodLink RX2 46 yX8_isEnd, Cond.methodLink RX3 57 yX2_nextEntry, Cond.instanceMethod yX2_nextEntry]
def wsX3_nameNumbered_r3 : List Cond := [Cond.selects RX2 yX2_nextEntry yX2_nextEntry, Cond.code yX2_nextEntry cX2_nextEntry 4 (some .int), Cond.fieldLink RX2 11 "ChainLoader$Chain" "disk" "LChainLoader$Bytes;", Cond.methodLink RX2 61 yX2_bytes, Cond.instanceMethod yX2_bytes, Cond.selects RX2 yX2_bytes yX2_bytes, Cond.code yX2_bytes cX2_bytes 1 (some .int), Cond.fieldLink RX2 49 "ChainLoader$Volume" "clusterBytes" "I", Cond.methodLink RX2 52 yX2_placeOf, Cond.instanceMethod yX2_placeOf, Cond.selects RX2 yX2_placeOf yX2_placeOf, Cond.code yX2_placeOf cX2_placeOf 3 (some .int), Cond.methodLink RX2 55 yX0_byteAt, Cond.instanceMethod yX0_byteAt, Cond.selects RX0 yX0_byteAt yX0_byteAt, Cond.code yX0_byteAt cX0_byteAt 2 (some .int), Cond.methodLink RX3 79 yX0_wordAt]
def wsX3_nameNumbered : List Cond := .code yX3_nameNumbered cX3_nameNumbered 5 (some .long) :: ((wsX3_nameNumbered_r1 ++ (wsX3_nameNumbered_r2 ++ wsX3_nameNumbered_r3)) ++ wsX30 ++ wsX20 ++ wsX80 ++ wsX00)
def wsX4_init : List Cond := .code yX4_init cX4_init 1 none :: ([.methodLink RX4 3 objectInit, .instanceMethod objectInit, .code objectInit ⟨#[0xb1]⟩ 1 none])
def wsX4_findHeader_r1 : List Cond := [Cond.constant RX4 31 (464367618), Cond.methodLink RX4 15 yX2_intAt, Cond.instanceMethod yX2_intAt, Cond.selects RX2 yX2_intAt yX2_intAt, Cond.initialized RX2, Cond.code yX2_intAt cX2_intAt 2 (some .int), Cond.methodLink RX2 60 yX2_byteAt, Cond.instanceMethod yX2_byteAt, Cond.selects RX2 yX2_byteAt yX2_byteAt, Cond.code yX2_byteAt cX2_byteAt 2 (some .int), Cond.fieldLink RX2 11 "ChainLoader$Chain" "disk" "LChainLoader$Bytes;", Cond.methodLink RX2 52 yX2_placeOf, Cond.instanceMethod yX2_placeOf, Cond.selects RX2 yX2_placeOf yX2_placeOf, Cond.code yX2_placeOf cX2_placeOf 3 (some .int), Cond.fieldLink RX2 15 "ChainLoader$Chain" "mounted" "LChainLoader$Volume;", Cond.fieldLink RX2 49 "ChainLoader$Volume" "clusterBytes" "I", Cond.fieldLink RX2 23 "ChainLoader$Chain" "count" "I", Cond.fieldLink RX2 19 "ChainLoader$Chain" "places" "[I", Cond.methodLink RX2 55 yX0_byteAt, Cond.instanceMethod yX0_byteAt, Cond.selects RX0 yX0_byteAt yX0_byteAt, Cond.initialized RX0, Cond.code yX0_byteAt cX0_byteAt 2 (some .int)]
def wsX4_findHeader_r2 : List Cond := [Cond.fieldLink RX0 9 "ChainLoader$Bytes" "cells" "[B"]
def wsX4_findHeader : List Cond := .code yX4_findHeader cX4_findHeader 4 (some .int) :: ((wsX4_findHeader_r1 ++ wsX4_findHeader_r2) ++ wsX20 ++ wsX80 ++ wsX00)
def wsX4_takeHeader_r1 : List Cond := [Cond.fieldLink RX4 21 "ChainLoader$Kernel" "flags" "I", Cond.fieldLink RX4 25 "ChainLoader$Kernel" "address" "I", Cond.fieldLink RX4 28 "ChainLoader$Kernel" "start" "I", Cond.constant RX4 31 (464367618), Cond.methodLink RX4 9 yX4_findHeader, Cond.instanceMethod yX4_findHeader, Cond.selects RX4 yX4_findHeader yX4_findHeader, Cond.initialized RX4, Cond.code yX4_findHeader cX4_findHeader 4 (some .int), Cond.methodLink RX4 15 yX2_intAt, Cond.instanceMethod yX2_intAt, Cond.selects RX2 yX2_intAt yX2_intAt, Cond.initialized RX2, Cond.code yX2_intAt cX2_intAt 2 (some .int), Cond.methodLink RX2 60 yX2_byteAt, Cond.instanceMethod yX2_byteAt, Cond.selects RX2 yX2_byteAt yX2_byteAt, Cond.code yX2_byteAt cX2_byteAt 2 (some .int), Cond.fieldLink RX2 11 "ChainLoader$Chain" "disk" "LChainLoader$Bytes;", Cond.methodLink RX2 52 yX2_placeOf, Cond.instanceMethod yX2_placeOf, Cond.selects RX2 yX2_placeOf yX2_placeOf, Cond.code yX2_placeOf cX2_placeOf 3 (some .int), Cond.fieldLink RX2 15 "ChainLoader$Chain" "mounted" "LChainLoader$Volume;"]
def wsX4_takeHeader_r2 : List Cond := [Cond.fieldLink RX2 49 "ChainLoader$Volume" "clusterBytes" "I", Cond.fieldLink RX2 23 "ChainLoader$Chain" "count" "I", Cond.fieldLink RX2 19 "ChainLoader$Chain" "places" "[I", Cond.methodLink RX2 55 yX0_byteAt, Cond.instanceMethod yX0_byteAt, Cond.selects RX0 yX0_byteAt yX0_byteAt, Cond.initialized RX0, Cond.code yX0_byteAt cX0_byteAt 2 (some .int), Cond.fieldLink RX0 9 "ChainLoader$Bytes" "cells" "[B"]
def wsX4_takeHeader : List Cond := .code yX4_takeHeader cX4_takeHeader 4 (some .boolean) :: ((wsX4_takeHeader_r1 ++ wsX4_takeHeader_r2) ++ wsX40 ++ wsX20 ++ wsX80 ++ wsX00)
def wsX4_fits : List Cond := .code yX4_fits cX4_fits 2 (some .boolean) :: ([.fieldLink RX4 25 "ChainLoader$Kernel" "address" "I", .fieldLink RX4 28 "ChainLoader$Kernel" "start" "I"] ++ wsX40)
def wsX4_wantsMemoryBytes : List Cond := .code yX4_wantsMemoryBytes cX4_wantsMemoryBytes 1 (some .boolean) :: ([.fieldLink RX4 21 "ChainLoader$Kernel" "flags" "I"] ++ wsX40)
def wsX5_init : List Cond := .code yX5_init cX5_init 1 none :: ([.methodLink RX5 1 objectInit, .instanceMethod objectInit, .code objectInit ⟨#[0xb1]⟩ 1 none, .arrayClass .int, .fieldLink RX5 9 "ChainLoader$Path" "letters" "[I"] ++ wsX50)
def wsJ7_fill_53178 : List Cond := .code yJ7_fill_53178 cJ7_fill_53178 4 none :: ([])
def wsX5_isLetter : List Cond := .code yX5_isLetter cX5_isLetter 2 (some .boolean) :: ([])
def wsX5_parse : List Cond := .code yX5_parse cX5_parse 7 (some .boolean) :: ([.fieldLink RX5 9 "ChainLoader$Path" "letters" "[I", .fieldLink RX5 23 "ChainLoader$Path" "count" "I", .methodLink RX5 13 yJ7_fill_53178, .static yJ7_fill_53178, .initialized RJ7, .code yJ7_fill_53178 cJ7_fill_53178 4 none, .methodLink RX5 19 yX5_isLetter, .instanceMethod yX5_isLetter, .selects RX5 yX5_isLetter yX5_isLetter, .initialized RX5, .code yX5_isLetter cX5_isLetter 2 (some .boolean)] ++ wsX50)
def wsX7_init : List Cond := .code yX7_init cX7_init 1 none :: ([.methodLink RX7 1 objectInit, .instanceMethod objectInit, .code objectInit ⟨#[0xb1]⟩ 1 none])
def wsX6_init : List Cond := .code yX6_init cX6_init 1 none :: ([.methodLink RX6 1 objectInit, .instanceMethod objectInit, .code objectInit ⟨#[0xb1]⟩ 1 none, .arrayClass .int, .fieldLink RX6 9 "ChainLoader$Settings" "text" "[I", .classLink RX6 13 RX7, .instantiable RX7 3, .initialized RX7, .fieldLink RX6 16 "ChainLoader$Settings" "kernelPath" "LChainLoader$Value;", .fieldLink RX6 20 "ChainLoader$Settings" "otherPath" "LChainLoader$Value;", .fieldLink RX6 23 "ChainLoader$Settings" "arguments" "LChainLoader$Value;", .instanceMethod yX7_init, .code yX7_init cX7_init 1 none, .methodLink RX7 1 objectInit] ++ wsX60 ++ wsX70)
def wsX7_forget : List Cond := .code yX7_forget cX7_forget 1 none :: ([.fieldLink RX7 7 "ChainLoader$Value" "given" "Z", .fieldLink RX7 13 "ChainLoader$Value" "from" "I", .fieldLink RX7 17 "ChainLoader$Value" "to" "I"] ++ wsX70)
def wsX7_set : List Cond := .code yX7_set cX7_set 3 none :: ([.fieldLink RX7 7 "ChainLoader$Value" "given" "Z", .fieldLink RX7 13 "ChainLoader$Value" "from" "I", .fieldLink RX7 17 "ChainLoader$Value" "to" "I"] ++ wsX70)
def wsX6_takeLine : List Cond := .code yX6_takeLine cX6_takeLine 3 (some .boolean) :: ([.fieldLink RX6 9 "ChainLoader$Settings" "text" "[I", .fieldLink RX6 16 "ChainLoader$Settings" "kernelPath" "LChainLoader$Value;", .fieldLink RX6 20 "ChainLoader$Settings" "otherPath" "LChainLoader$Value;", .fieldLink RX6 23 "ChainLoader$Settings" "arguments" "LChainLoader$Value;", .methodLink RX6 43 yX7_set, .instanceMethod yX7_set, .selects RX7 yX7_set yX7_set, .initialized RX7, .code yX7_set cX7_set 3 none, .fieldLink RX7 7 "ChainLoader$Value" "given" "Z", .fieldLink RX7 13 "ChainLoader$Value" "from" "I", .fieldLink RX7 17 "ChainLoader$Value" "to" "I"] ++ wsX60 ++ wsX70)
def wsX6_take_r1 : List Cond := [Cond.fieldLink RX6 16 "ChainLoader$Settings" "kernelPath" "LChainLoader$Value;", Cond.fieldLink RX6 20 "ChainLoader$Settings" "otherPath" "LChainLoader$Value;", Cond.fieldLink RX6 23 "ChainLoader$Settings" "arguments" "LChainLoader$Value;", Cond.fieldLink RX6 9 "ChainLoader$Settings" "text" "[I", Cond.fieldLink RX6 39 "ChainLoader$Value" "given" "Z", Cond.methodLink RX6 26 yX7_forget, Cond.instanceMethod yX7_forget, Cond.selects RX7 yX7_forget yX7_forget, Cond.initialized RX7, Cond.code yX7_forget cX7_forget 1 none, Cond.fieldLink RX7 7 "ChainLoader$Value" "given" "Z", Cond.fieldLink RX7 13 "ChainLoader$Value" "from" "I", Cond.fieldLink RX7 17 "ChainLoader$Value" "to" "I", Cond.methodLink RX6 29 yX2_byteAt, Cond.instanceMethod yX2_byteAt, Cond.selects RX2 yX2_byteAt yX2_byteAt, Cond.initialized RX2, Cond.code yX2_byteAt cX2_byteAt 2 (some .int), Cond.fieldLink RX2 11 "ChainLoader$Chain" "disk" "LChainLoader$Bytes;", Cond.methodLink RX2 52 yX2_placeOf, Cond.instanceMethod yX2_placeOf, Cond.selects RX2 yX2_placeOf yX2_placeOf, Cond.code yX2_placeOf cX2_placeOf 3 (some .int), Cond.fieldLink RX2 15 "ChainLoader$Chain" "mounted" "LChainLoader$Volume;"]
def wsX6_take_r2 : List Cond := [Cond.fieldLink RX2 49 "ChainLoader$Volume" "clusterBytes" "I", Cond.fieldLink RX2 23 "ChainLoader$Chain" "count" "I", Cond.fieldLink RX2 19 "ChainLoader$Chain" "places" "[I", Cond.methodLink RX2 55 yX0_byteAt, Cond.instanceMethod yX0_byteAt, Cond.selects RX0 yX0_byteAt yX0_byteAt, Cond.initialized RX0, Cond.code yX0_byteAt cX0_byteAt 2 (some .int), Cond.fieldLink RX0 9 "ChainLoader$Bytes" "cells" "[B", Cond.methodLink RX6 35 yX6_takeLine, Cond.instanceMethod yX6_takeLine, Cond.selects RX6 yX6_takeLine yX6_takeLine, Cond.initialized RX6, Cond.code yX6_takeLine cX6_takeLine 3 (some .boolean), Cond.methodLink RX6 43 yX7_set, Cond.instanceMethod yX7_set, Cond.selects RX7 yX7_set yX7_set, Cond.code yX7_set cX7_set 3 none]
def wsX6_take : List Cond := .code yX6_take cX6_take 5 (some .boolean) :: ((wsX6_take_r1 ++ wsX6_take_r2) ++ wsX60 ++ wsX70 ++ wsX20 ++ wsX80 ++ wsX00)
def wsX8_init : List Cond := .code yX8_init cX8_init 2 none :: ([.methodLink RX8 3 objectInit, .instanceMethod objectInit, .code objectInit ⟨#[0xb1]⟩ 1 none, .fieldLink RX8 9 "ChainLoader$Volume" "disk" "LChainLoader$Bytes;"] ++ wsX80)
def wsX8_isSigned : List Cond := .code yX8_isSigned cX8_isSigned 2 (some .boolean) :: ([.fieldLink RX8 9 "ChainLoader$Volume" "disk" "LChainLoader$Bytes;", .methodLink RX8 31 yX0_byteAt, .instanceMethod yX0_byteAt, .selects RX0 yX0_byteAt yX0_byteAt, .initialized RX0, .code yX0_byteAt cX0_byteAt 2 (some .int), .fieldLink RX0 9 "ChainLoader$Bytes" "cells" "[B"] ++ wsX80 ++ wsX00)
def wsX8_placeOfRecord : List Cond := .code yX8_placeOfRecord cX8_placeOfRecord 2 (some .int) :: ([])
def wsX8_isUsable : List Cond := .code yX8_isUsable cX8_isUsable 5 (some .boolean) :: ([.fieldLink RX8 9 "ChainLoader$Volume" "disk" "LChainLoader$Bytes;", .methodLink RX8 27 yX8_placeOfRecord, .instanceMethod yX8_placeOfRecord, .selects RX8 yX8_placeOfRecord yX8_placeOfRecord, .initialized RX8, .code yX8_placeOfRecord cX8_placeOfRecord 2 (some .int), .methodLink RX8 31 yX0_byteAt, .instanceMethod yX0_byteAt, .selects RX0 yX0_byteAt yX0_byteAt, .initialized RX0, .code yX0_byteAt cX0_byteAt 2 (some .int), .fieldLink RX0 9 "ChainLoader$Bytes" "cells" "[B"] ++ wsX80 ++ wsX00)
def wsX8_choosePartition : List Cond := .code yX8_choosePartition cX8_choosePartition 3 (some .int) :: ([.fieldLink RX8 9 "ChainLoader$Volume" "disk" "LChainLoader$Bytes;", .methodLink RX8 43 yX8_isUsable, .instanceMethod yX8_isUsable, .selects RX8 yX8_isUsable yX8_isUsable, .initialized RX8, .code yX8_isUsable cX8_isUsable 5 (some .boolean), .methodLink RX8 27 yX8_placeOfRecord, .instanceMethod yX8_placeOfRecord, .selects RX8 yX8_placeOfRecord yX8_placeOfRecord, .code yX8_placeOfRecord cX8_placeOfRecord 2 (some .int), .methodLink RX8 31 yX0_byteAt, .instanceMethod yX0_byteAt, .selects RX0 yX0_byteAt yX0_byteAt, .initialized RX0, .code yX0_byteAt cX0_byteAt 2 (some .int), .fieldLink RX0 9 "ChainLoader$Bytes" "cells" "[B"] ++ wsX80 ++ wsX00)
def wsX8_takeGeometry : List Cond := .code yX8_takeGeometry cX8_takeGeometry 7 (some .boolean) :: ([.fieldLink RX8 9 "ChainLoader$Volume" "disk" "LChainLoader$Bytes;", .fieldLink RX8 46 "ChainLoader$Volume" "tables" "I", .fieldLink RX8 49 "ChainLoader$Volume" "root" "I", .fieldLink RX8 40 "ChainLoader$Volume" "clusters" "I", .fieldLink RX8 52 "ChainLoader$Volume" "clusterBytes" "I", .fieldLink RX8 55 "ChainLoader$Volume" "tableBytes" "I", .fieldLink RX8 58 "ChainLoader$Volume" "tablesPlace" "I", .fieldLink RX8 61 "ChainLoader$Volume" "clustersPlace" "I", .methodLink RX8 31 yX0_byteAt, .instanceMethod yX0_byteAt, .selects RX0 yX0_byteAt yX0_byteAt, .initialized RX0, .code yX0_byteAt cX0_byteAt 2 (some .int), .fieldLink RX0 9 "ChainLoader$Bytes" "cells" "[B", .methodLink RX8 15 yX8_isSigned, .instanceMethod yX8_isSigned, .selects RX8 yX8_isSigned yX8_isSigned, .initialized RX8, .code yX8_isSigned cX8_isSigned 2 (some .boolean), .methodLink RX8 64 yX8_isCluster, .instanceMethod yX8_isCluster, .selects RX8 yX8_isCluster yX8_isCluster, .code yX8_isCluster cX8_isCluster 2 (some .boolean)] ++ wsX80 ++ wsX00)
def wsX8_mount_r1 : List Cond := [Cond.fieldLink RX8 23 "ChainLoader$Volume" "record" "I", Cond.fieldLink RX8 9 "ChainLoader$Volume" "disk" "LChainLoader$Bytes;", Cond.fieldLink RX8 40 "ChainLoader$Volume" "clusters" "I", Cond.methodLink RX8 15 yX8_isSigned, Cond.instanceMethod yX8_isSigned, Cond.selects RX8 yX8_isSigned yX8_isSigned, Cond.initialized RX8, Cond.code yX8_isSigned cX8_isSigned 2 (some .boolean), Cond.methodLink RX8 31 yX0_byteAt, Cond.instanceMethod yX0_byteAt, Cond.selects RX0 yX0_byteAt yX0_byteAt, Cond.initialized RX0, Cond.code yX0_byteAt cX0_byteAt 2 (some .int), Cond.fieldLink RX0 9 "ChainLoader$Bytes" "cells" "[B", Cond.methodLink RX8 19 yX8_choosePartition, Cond.instanceMethod yX8_choosePartition, Cond.selects RX8 yX8_choosePartition yX8_choosePartition, Cond.code yX8_choosePartition cX8_choosePartition 3 (some .int), Cond.methodLink RX8 43 yX8_isUsable, Cond.instanceMethod yX8_isUsable, Cond.selects RX8 yX8_isUsable yX8_isUsable, Cond.code yX8_isUsable cX8_isUsable 5 (some .boolean), Cond.methodLink RX8 27 yX8_placeOfRecord, Cond.instanceMethod yX8_placeOfRecord]
def wsX8_mount_r2 : List Cond := [Cond.selects RX8 yX8_placeOfRecord yX8_placeOfRecord, Cond.code yX8_placeOfRecord cX8_placeOfRecord 2 (some .int), Cond.methodLink RX8 36 yX8_takeGeometry, Cond.instanceMethod yX8_takeGeometry, Cond.selects RX8 yX8_takeGeometry yX8_takeGeometry, Cond.code yX8_takeGeometry cX8_takeGeometry 7 (some .boolean), Cond.fieldLink RX8 46 "ChainLoader$Volume" "tables" "I", Cond.fieldLink RX8 49 "ChainLoader$Volume" "root" "I", Cond.fieldLink RX8 52 "ChainLoader$Volume" "clusterBytes" "I", Cond.fieldLink RX8 55 "ChainLoader$Volume" "tableBytes" "I", Cond.fieldLink RX8 58 "ChainLoader$Volume" "tablesPlace" "I", Cond.fieldLink RX8 61 "ChainLoader$Volume" "clustersPlace" "I", Cond.methodLink RX8 64 yX8_isCluster, Cond.instanceMethod yX8_isCluster, Cond.selects RX8 yX8_isCluster yX8_isCluster, Cond.code yX8_isCluster cX8_isCluster 2 (some .boolean)]
def wsX8_mount : List Cond := .code yX8_mount cX8_mount 2 (some .int) :: ((wsX8_mount_r1 ++ wsX8_mount_r2) ++ wsX80 ++ wsX00)
def wsX9_init_r1 : List Cond := [Cond.methodLink RX9 1 objectInit, Cond.instanceMethod objectInit, Cond.code objectInit ⟨#[0xb1]⟩ 1 none, Cond.classLink RX9 7 RX0, Cond.instantiable RX0 1, Cond.initialized RX0, Cond.fieldLink RX9 14 "ChainLoader" "disk" "LChainLoader$Bytes;", Cond.fieldLink RX9 18 "ChainLoader" "ram" "LChainLoader$Bytes;", Cond.classLink RX9 21 RX8, Cond.instantiable RX8 9, Cond.initialized RX8, Cond.fieldLink RX9 26 "ChainLoader" "mounted" "LChainLoader$Volume;", Cond.classLink RX9 30 RX5, Cond.instantiable RX5 2, Cond.initialized RX5, Cond.fieldLink RX9 33 "ChainLoader" "path" "LChainLoader$Path;", Cond.classLink RX9 37 RX3, Cond.instantiable RX3 4, Cond.initialized RX3, Cond.fieldLink RX9 42 "ChainLoader" "files" "LChainLoader$Files;", Cond.classLink RX9 46 RX1, Cond.instantiable RX1 4, Cond.initialized RX1, Cond.fieldLink RX9 49 "ChainLoader" "census" "LChainLoader$Census;"]
def wsX9_init_r2 : List Cond := [Cond.classLink RX9 53 RX6, Cond.instantiable RX6 4, Cond.initialized RX6, Cond.fieldLink RX9 56 "ChainLoader" "settings" "LChainLoader$Settings;", Cond.classLink RX9 60 RX4, Cond.instantiable RX4 3, Cond.initialized RX4, Cond.fieldLink RX9 63 "ChainLoader" "kernel" "LChainLoader$Kernel;", Cond.arrayClass .int, Cond.fieldLink RX9 67 "ChainLoader" "typed" "[I", Cond.fieldLink RX9 71 "ChainLoader" "typedCount" "I", Cond.fieldLink RX9 75 "ChainLoader" "loadedEntry" "I", Cond.methodLink RX9 11 yX0_init, Cond.instanceMethod yX0_init, Cond.code yX0_init cX0_init 2 none, Cond.methodLink RX0 3 objectInit, Cond.arrayClass .byte, Cond.fieldLink RX0 9 "ChainLoader$Bytes" "cells" "[B", Cond.methodLink RX9 23 yX8_init, Cond.instanceMethod yX8_init, Cond.code yX8_init cX8_init 2 none, Cond.methodLink RX8 3 objectInit, Cond.fieldLink RX8 9 "ChainLoader$Volume" "disk" "LChainLoader$Bytes;", Cond.methodLink RX9 32 yX5_init]
def wsX9_init_r3 : List Cond := [Cond.instanceMethod yX5_init, Cond.code yX5_init cX5_init 1 none, Cond.methodLink RX5 1 objectInit, Cond.fieldLink RX5 9 "ChainLoader$Path" "letters" "[I", Cond.methodLink RX9 39 yX3_init, Cond.instanceMethod yX3_init, Cond.code yX3_init cX3_init 3 none, Cond.methodLink RX3 3 objectInit, Cond.fieldLink RX3 9 "ChainLoader$Files" "disk" "LChainLoader$Bytes;", Cond.fieldLink RX3 15 "ChainLoader$Files" "mounted" "LChainLoader$Volume;", Cond.classLink RX3 19 RX2, Cond.instantiable RX2 5, Cond.initialized RX2, Cond.fieldLink RX3 24 "ChainLoader$Files" "directory" "LChainLoader$Chain;", Cond.fieldLink RX3 28 "ChainLoader$Files" "content" "LChainLoader$Chain;", Cond.methodLink RX3 21 yX2_init, Cond.instanceMethod yX2_init, Cond.code yX2_init cX2_init 3 none, Cond.methodLink RX2 5 objectInit, Cond.fieldLink RX2 11 "ChainLoader$Chain" "disk" "LChainLoader$Bytes;", Cond.fieldLink RX2 15 "ChainLoader$Chain" "mounted" "LChainLoader$Volume;", Cond.fieldLink RX2 19 "ChainLoader$Chain" "places" "[I", Cond.methodLink RX9 48 yX1_init, Cond.instanceMethod yX1_init]
def wsX9_init_r4 : List Cond := [Cond.code yX1_init cX1_init 4 none, Cond.methodLink RX1 3 objectInit, Cond.fieldLink RX1 9 "ChainLoader$Census" "mounted" "LChainLoader$Volume;", Cond.classLink RX1 15 RX2, Cond.fieldLink RX1 17 "ChainLoader$Census" "levels" "[LChainLoader$Chain;", Cond.methodLink RX1 21 yX2_init, Cond.methodLink RX9 55 yX6_init, Cond.instanceMethod yX6_init, Cond.code yX6_init cX6_init 1 none, Cond.methodLink RX6 1 objectInit, Cond.fieldLink RX6 9 "ChainLoader$Settings" "text" "[I", Cond.classLink RX6 13 RX7, Cond.instantiable RX7 3, Cond.initialized RX7, Cond.fieldLink RX6 16 "ChainLoader$Settings" "kernelPath" "LChainLoader$Value;", Cond.fieldLink RX6 20 "ChainLoader$Settings" "otherPath" "LChainLoader$Value;", Cond.fieldLink RX6 23 "ChainLoader$Settings" "arguments" "LChainLoader$Value;", Cond.instanceMethod yX7_init, Cond.code yX7_init cX7_init 1 none, Cond.methodLink RX7 1 objectInit, Cond.instanceMethod yX4_init, Cond.code yX4_init cX4_init 1 none, Cond.methodLink RX4 3 objectInit]
def wsX9_init : List Cond := .code yX9_init cX9_init 1 none :: ((wsX9_init_r1 ++ (wsX9_init_r2 ++ (wsX9_init_r3 ++ wsX9_init_r4))) ++ wsX00 ++ wsX90 ++ wsX80 ++ wsX50 ++ wsX30 ++ wsX10 ++ wsX60 ++ wsX40 ++ wsX20 ++ wsX70)
def wsX9_poke : List Cond := .code yX9_poke cX9_poke 5 (some .boolean) :: ([.fieldLink RX9 14 "ChainLoader" "disk" "LChainLoader$Bytes;", .methodLink RX9 78 yX0_put, .instanceMethod yX0_put, .selects RX0 yX0_put yX0_put, .initialized RX0, .code yX0_put cX0_put 6 (some .boolean), .fieldLink RX0 9 "ChainLoader$Bytes" "cells" "[B"] ++ wsX90 ++ wsX00)
def wsX9_peek : List Cond := .code yX9_peek cX9_peek 2 (some .int) :: ([.fieldLink RX9 14 "ChainLoader" "disk" "LChainLoader$Bytes;", .methodLink RX9 82 yX0_byteAt, .instanceMethod yX0_byteAt, .selects RX0 yX0_byteAt yX0_byteAt, .initialized RX0, .code yX0_byteAt cX0_byteAt 2 (some .int), .fieldLink RX0 9 "ChainLoader$Bytes" "cells" "[B"] ++ wsX90 ++ wsX00)
def wsX9_volume_r1 : List Cond := [Cond.fieldLink RX9 26 "ChainLoader" "mounted" "LChainLoader$Volume;", Cond.methodLink RX9 86 yX8_mount, Cond.instanceMethod yX8_mount, Cond.selects RX8 yX8_mount yX8_mount, Cond.initialized RX8, Cond.code yX8_mount cX8_mount 2 (some .int), Cond.fieldLink RX8 23 "ChainLoader$Volume" "record" "I", Cond.fieldLink RX8 9 "ChainLoader$Volume" "disk" "LChainLoader$Bytes;", Cond.fieldLink RX8 40 "ChainLoader$Volume" "clusters" "I", Cond.methodLink RX8 15 yX8_isSigned, Cond.instanceMethod yX8_isSigned, Cond.selects RX8 yX8_isSigned yX8_isSigned, Cond.code yX8_isSigned cX8_isSigned 2 (some .boolean), Cond.methodLink RX8 31 yX0_byteAt, Cond.instanceMethod yX0_byteAt, Cond.selects RX0 yX0_byteAt yX0_byteAt, Cond.initialized RX0, Cond.code yX0_byteAt cX0_byteAt 2 (some .int), Cond.fieldLink RX0 9 "ChainLoader$Bytes" "cells" "[B", Cond.methodLink RX8 19 yX8_choosePartition, Cond.instanceMethod yX8_choosePartition, Cond.selects RX8 yX8_choosePartition yX8_choosePartition, Cond.code yX8_choosePartition cX8_choosePartition 3 (some .int), Cond.methodLink RX8 43 yX8_isUsable]
def wsX9_volume_r2 : List Cond := [Cond.instanceMethod yX8_isUsable, Cond.selects RX8 yX8_isUsable yX8_isUsable, Cond.code yX8_isUsable cX8_isUsable 5 (some .boolean), Cond.methodLink RX8 27 yX8_placeOfRecord, Cond.instanceMethod yX8_placeOfRecord, Cond.selects RX8 yX8_placeOfRecord yX8_placeOfRecord, Cond.code yX8_placeOfRecord cX8_placeOfRecord 2 (some .int), Cond.methodLink RX8 36 yX8_takeGeometry, Cond.instanceMethod yX8_takeGeometry, Cond.selects RX8 yX8_takeGeometry yX8_takeGeometry, Cond.code yX8_takeGeometry cX8_takeGeometry 7 (some .boolean), Cond.fieldLink RX8 46 "ChainLoader$Volume" "tables" "I", Cond.fieldLink RX8 49 "ChainLoader$Volume" "root" "I", Cond.fieldLink RX8 52 "ChainLoader$Volume" "clusterBytes" "I", Cond.fieldLink RX8 55 "ChainLoader$Volume" "tableBytes" "I", Cond.fieldLink RX8 58 "ChainLoader$Volume" "tablesPlace" "I", Cond.fieldLink RX8 61 "ChainLoader$Volume" "clustersPlace" "I", Cond.methodLink RX8 64 yX8_isCluster, Cond.instanceMethod yX8_isCluster, Cond.selects RX8 yX8_isCluster yX8_isCluster, Cond.code yX8_isCluster cX8_isCluster 2 (some .boolean)]
def wsX9_volume : List Cond := .code yX9_volume cX9_volume 1 (some .int) :: ((wsX9_volume_r1 ++ wsX9_volume_r2) ++ wsX90 ++ wsX80 ++ wsX00)
def wsX9_type : List Cond := .code yX9_type cX9_type 2 (some .boolean) :: ([.fieldLink RX9 71 "ChainLoader" "typedCount" "I", .fieldLink RX9 67 "ChainLoader" "typed" "[I"] ++ wsX90)
def wsX9_scrap : List Cond := .code yX9_scrap cX9_scrap 2 (some .int) :: ([.fieldLink RX9 71 "ChainLoader" "typedCount" "I"] ++ wsX90)
def wsX9_findTypedFile_r1 : List Cond := [Cond.fieldLink RX9 26 "ChainLoader" "mounted" "LChainLoader$Volume;", Cond.fieldLink RX9 33 "ChainLoader" "path" "LChainLoader$Path;", Cond.fieldLink RX9 67 "ChainLoader" "typed" "[I", Cond.fieldLink RX9 71 "ChainLoader" "typedCount" "I", Cond.fieldLink RX9 42 "ChainLoader" "files" "LChainLoader$Files;", Cond.methodLink RX9 86 yX8_mount, Cond.instanceMethod yX8_mount, Cond.selects RX8 yX8_mount yX8_mount, Cond.initialized RX8, Cond.code yX8_mount cX8_mount 2 (some .int), Cond.fieldLink RX8 23 "ChainLoader$Volume" "record" "I", Cond.fieldLink RX8 9 "ChainLoader$Volume" "disk" "LChainLoader$Bytes;", Cond.fieldLink RX8 40 "ChainLoader$Volume" "clusters" "I", Cond.methodLink RX8 15 yX8_isSigned, Cond.instanceMethod yX8_isSigned, Cond.selects RX8 yX8_isSigned yX8_isSigned, Cond.code yX8_isSigned cX8_isSigned 2 (some .boolean), Cond.methodLink RX8 31 yX0_byteAt, Cond.instanceMethod yX0_byteAt, Cond.selects RX0 yX0_byteAt yX0_byteAt, Cond.initialized RX0, Cond.code yX0_byteAt cX0_byteAt 2 (some .int), Cond.fieldLink RX0 9 "ChainLoader$Bytes" "cells" "[B", Cond.methodLink RX8 19 yX8_choosePartition]
def wsX9_findTypedFile_r2 : List Cond := [Cond.instanceMethod yX8_choosePartition, Cond.selects RX8 yX8_choosePartition yX8_choosePartition, Cond.code yX8_choosePartition cX8_choosePartition 3 (some .int), Cond.methodLink RX8 43 yX8_isUsable, Cond.instanceMethod yX8_isUsable, Cond.selects RX8 yX8_isUsable yX8_isUsable, Cond.code yX8_isUsable cX8_isUsable 5 (some .boolean), Cond.methodLink RX8 27 yX8_placeOfRecord, Cond.instanceMethod yX8_placeOfRecord, Cond.selects RX8 yX8_placeOfRecord yX8_placeOfRecord, Cond.code yX8_placeOfRecord cX8_placeOfRecord 2 (some .int), Cond.methodLink RX8 36 yX8_takeGeometry, Cond.instanceMethod yX8_takeGeometry, Cond.selects RX8 yX8_takeGeometry yX8_takeGeometry, Cond.code yX8_takeGeometry cX8_takeGeometry 7 (some .boolean), Cond.fieldLink RX8 46 "ChainLoader$Volume" "tables" "I", Cond.fieldLink RX8 49 "ChainLoader$Volume" "root" "I", Cond.fieldLink RX8 52 "ChainLoader$Volume" "clusterBytes" "I", Cond.fieldLink RX8 55 "ChainLoader$Volume" "tableBytes" "I", Cond.fieldLink RX8 58 "ChainLoader$Volume" "tablesPlace" "I", Cond.fieldLink RX8 61 "ChainLoader$Volume" "clustersPlace" "I", Cond.methodLink RX8 64 yX8_isCluster, Cond.instanceMethod yX8_isCluster, Cond.selects RX8 yX8_isCluster yX8_isCluster]
def wsX9_findTypedFile_r3 : List Cond := [Cond.code yX8_isCluster cX8_isCluster 2 (some .boolean), Cond.methodLink RX9 136 yX5_parse, Cond.instanceMethod yX5_parse, Cond.selects RX5 yX5_parse yX5_parse, Cond.initialized RX5, Cond.code yX5_parse cX5_parse 7 (some .boolean), Cond.fieldLink RX5 9 "ChainLoader$Path" "letters" "[I", Cond.fieldLink RX5 23 "ChainLoader$Path" "count" "I", Cond.methodLink RX5 13 yJ7_fill_53178, Cond.static yJ7_fill_53178, Cond.initialized RJ7, Cond.code yJ7_fill_53178 cJ7_fill_53178 4 none, Cond.methodLink RX5 19 yX5_isLetter, Cond.instanceMethod yX5_isLetter, Cond.selects RX5 yX5_isLetter yX5_isLetter, Cond.code yX5_isLetter cX5_isLetter 2 (some .boolean), Cond.methodLink RX9 140 yX3_findFile, Cond.instanceMethod yX3_findFile, Cond.selects RX3 yX3_findFile yX3_findFile, Cond.initialized RX3, Cond.code yX3_findFile cX3_findFile 3 (some .int), Cond.fieldLink RX3 15 "ChainLoader$Files" "mounted" "LChainLoader$Volume;", Cond.methodLink RX3 65 yX3_find, Cond.instanceMethod yX3_find]
def wsX9_findTypedFile_r4 : List Cond := [Cond.selects RX3 yX3_find yX3_find, Cond.code yX3_find cX3_find 5 (some .int), Cond.fieldLink RX3 31 "ChainLoader$Volume" "root" "I", Cond.fieldLink RX3 37 "ChainLoader$Path" "count" "I", Cond.fieldLink RX3 24 "ChainLoader$Files" "directory" "LChainLoader$Chain;", Cond.methodLink RX3 42 yX8_isDirectory, Cond.instanceMethod yX8_isDirectory, Cond.selects RX8 yX8_isDirectory yX8_isDirectory, Cond.code yX8_isDirectory cX8_isDirectory 2 (some .boolean), Cond.methodLink RX3 46 yX8_firstClusterOf, Cond.instanceMethod yX8_firstClusterOf, Cond.selects RX8 yX8_firstClusterOf yX8_firstClusterOf, Cond.code yX8_firstClusterOf cX8_firstClusterOf 2 (some .int), Cond.methodLink RX3 50 yX2_trace, Cond.instanceMethod yX2_trace, Cond.selects RX2 yX2_trace yX2_trace, Cond.initialized RX2, Cond.code yX2_trace cX2_trace 3 (some .boolean), Cond.fieldLink RX2 23 "ChainLoader$Chain" "count" "I", Cond.fieldLink RX2 27 "ChainLoader$Chain" "nextSlot" "I", Cond.fieldLink RX2 15 "ChainLoader$Chain" "mounted" "LChainLoader$Volume;", Cond.fieldLink RX2 30 "ChainLoader$Volume" "clusters" "I", Cond.fieldLink RX2 19 "ChainLoader$Chain" "places" "[I", Cond.methodLink RX2 35 yX8_isCluster]
def wsX9_findTypedFile_r5 : List Cond := [Cond.methodLink RX2 39 yX8_placeOfCluster, Cond.instanceMethod yX8_placeOfCluster, Cond.selects RX8 yX8_placeOfCluster yX8_placeOfCluster, Cond.code yX8_placeOfCluster cX8_placeOfCluster 2 (some .int), Cond.methodLink RX2 43 yX8_behind, Cond.instanceMethod yX8_behind, Cond.selects RX8 yX8_behind yX8_behind, Cond.code yX8_behind cX8_behind 4 (some .int), Cond.methodLink RX8 67 yX0_wordAt, Cond.instanceMethod yX0_wordAt, Cond.selects RX0 yX0_wordAt yX0_wordAt, Cond.code yX0_wordAt cX0_wordAt 2 (some .int), Cond.methodLink RX8 70 yX8_isEnd, Cond.instanceMethod yX8_isEnd, Cond.selects RX8 yX8_isEnd yX8_isEnd, Cond.code yX8_isEnd cX8_isEnd 2 (some .boolean), Cond.methodLink RX2 46 yX8_isEnd, Cond.methodLink RX3 53 yX3_findName, Cond.instanceMethod yX3_findName, Cond.selects RX3 yX3_findName yX3_findName, Cond.code yX3_findName cX3_findName 5 (some .int), Cond.fieldLink RX3 9 "ChainLoader$Files" "disk" "LChainLoader$Bytes;", Cond.methodLink RX3 57 yX2_nextEntry, Cond.instanceMethod yX2_nextEntry]
def wsX9_findTypedFile_r6 : List Cond := [Cond.selects RX2 yX2_nextEntry yX2_nextEntry, Cond.code yX2_nextEntry cX2_nextEntry 4 (some .int), Cond.fieldLink RX2 11 "ChainLoader$Chain" "disk" "LChainLoader$Bytes;", Cond.methodLink RX2 61 yX2_bytes, Cond.instanceMethod yX2_bytes, Cond.selects RX2 yX2_bytes yX2_bytes, Cond.code yX2_bytes cX2_bytes 1 (some .int), Cond.fieldLink RX2 49 "ChainLoader$Volume" "clusterBytes" "I", Cond.methodLink RX2 52 yX2_placeOf, Cond.instanceMethod yX2_placeOf, Cond.selects RX2 yX2_placeOf yX2_placeOf, Cond.code yX2_placeOf cX2_placeOf 3 (some .int), Cond.methodLink RX2 55 yX0_byteAt, Cond.methodLink RX3 61 yX5_isNameAt, Cond.instanceMethod yX5_isNameAt, Cond.selects RX5 yX5_isNameAt yX5_isNameAt, Cond.code yX5_isNameAt cX5_isNameAt 5 (some .boolean), Cond.methodLink RX5 27 yX0_byteAt]
def wsX9_findTypedFile : List Cond := .code yX9_findTypedFile cX9_findTypedFile 2 (some .int) :: ((wsX9_findTypedFile_r1 ++ (wsX9_findTypedFile_r2 ++ (wsX9_findTypedFile_r3 ++ (wsX9_findTypedFile_r4 ++ (wsX9_findTypedFile_r5 ++ wsX9_findTypedFile_r6))))) ++ wsX90 ++ wsX80 ++ wsX00 ++ wsX50 ++ wsX30 ++ wsX20)
def wsX9_size_r1 : List Cond := [Cond.fieldLink RX9 26 "ChainLoader" "mounted" "LChainLoader$Volume;", Cond.methodLink RX9 90 yX9_findTypedFile, Cond.instanceMethod yX9_findTypedFile, Cond.selects RX9 yX9_findTypedFile yX9_findTypedFile, Cond.initialized RX9, Cond.code yX9_findTypedFile cX9_findTypedFile 2 (some .int), Cond.fieldLink RX9 33 "ChainLoader" "path" "LChainLoader$Path;", Cond.fieldLink RX9 67 "ChainLoader" "typed" "[I", Cond.fieldLink RX9 71 "ChainLoader" "typedCount" "I", Cond.fieldLink RX9 42 "ChainLoader" "files" "LChainLoader$Files;", Cond.methodLink RX9 86 yX8_mount, Cond.instanceMethod yX8_mount, Cond.selects RX8 yX8_mount yX8_mount, Cond.initialized RX8, Cond.code yX8_mount cX8_mount 2 (some .int), Cond.fieldLink RX8 23 "ChainLoader$Volume" "record" "I", Cond.fieldLink RX8 9 "ChainLoader$Volume" "disk" "LChainLoader$Bytes;", Cond.fieldLink RX8 40 "ChainLoader$Volume" "clusters" "I", Cond.methodLink RX8 15 yX8_isSigned, Cond.instanceMethod yX8_isSigned, Cond.selects RX8 yX8_isSigned yX8_isSigned, Cond.code yX8_isSigned cX8_isSigned 2 (some .boolean), Cond.methodLink RX8 31 yX0_byteAt, Cond.instanceMethod yX0_byteAt]
def wsX9_size_r2 : List Cond := [Cond.selects RX0 yX0_byteAt yX0_byteAt, Cond.initialized RX0, Cond.code yX0_byteAt cX0_byteAt 2 (some .int), Cond.fieldLink RX0 9 "ChainLoader$Bytes" "cells" "[B", Cond.methodLink RX8 19 yX8_choosePartition, Cond.instanceMethod yX8_choosePartition, Cond.selects RX8 yX8_choosePartition yX8_choosePartition, Cond.code yX8_choosePartition cX8_choosePartition 3 (some .int), Cond.methodLink RX8 43 yX8_isUsable, Cond.instanceMethod yX8_isUsable, Cond.selects RX8 yX8_isUsable yX8_isUsable, Cond.code yX8_isUsable cX8_isUsable 5 (some .boolean), Cond.methodLink RX8 27 yX8_placeOfRecord, Cond.instanceMethod yX8_placeOfRecord, Cond.selects RX8 yX8_placeOfRecord yX8_placeOfRecord, Cond.code yX8_placeOfRecord cX8_placeOfRecord 2 (some .int), Cond.methodLink RX8 36 yX8_takeGeometry, Cond.instanceMethod yX8_takeGeometry, Cond.selects RX8 yX8_takeGeometry yX8_takeGeometry, Cond.code yX8_takeGeometry cX8_takeGeometry 7 (some .boolean), Cond.fieldLink RX8 46 "ChainLoader$Volume" "tables" "I", Cond.fieldLink RX8 49 "ChainLoader$Volume" "root" "I", Cond.fieldLink RX8 52 "ChainLoader$Volume" "clusterBytes" "I", Cond.fieldLink RX8 55 "ChainLoader$Volume" "tableBytes" "I"]
def wsX9_size_r3 : List Cond := [Cond.fieldLink RX8 58 "ChainLoader$Volume" "tablesPlace" "I", Cond.fieldLink RX8 61 "ChainLoader$Volume" "clustersPlace" "I", Cond.methodLink RX8 64 yX8_isCluster, Cond.instanceMethod yX8_isCluster, Cond.selects RX8 yX8_isCluster yX8_isCluster, Cond.code yX8_isCluster cX8_isCluster 2 (some .boolean), Cond.methodLink RX9 136 yX5_parse, Cond.instanceMethod yX5_parse, Cond.selects RX5 yX5_parse yX5_parse, Cond.initialized RX5, Cond.code yX5_parse cX5_parse 7 (some .boolean), Cond.fieldLink RX5 9 "ChainLoader$Path" "letters" "[I", Cond.fieldLink RX5 23 "ChainLoader$Path" "count" "I", Cond.methodLink RX5 13 yJ7_fill_53178, Cond.static yJ7_fill_53178, Cond.initialized RJ7, Cond.code yJ7_fill_53178 cJ7_fill_53178 4 none, Cond.methodLink RX5 19 yX5_isLetter, Cond.instanceMethod yX5_isLetter, Cond.selects RX5 yX5_isLetter yX5_isLetter, Cond.code yX5_isLetter cX5_isLetter 2 (some .boolean), Cond.methodLink RX9 140 yX3_findFile, Cond.instanceMethod yX3_findFile, Cond.selects RX3 yX3_findFile yX3_findFile]
def wsX9_size_r4 : List Cond := [Cond.initialized RX3, Cond.code yX3_findFile cX3_findFile 3 (some .int), Cond.fieldLink RX3 15 "ChainLoader$Files" "mounted" "LChainLoader$Volume;", Cond.methodLink RX3 65 yX3_find, Cond.instanceMethod yX3_find, Cond.selects RX3 yX3_find yX3_find, Cond.code yX3_find cX3_find 5 (some .int), Cond.fieldLink RX3 31 "ChainLoader$Volume" "root" "I", Cond.fieldLink RX3 37 "ChainLoader$Path" "count" "I", Cond.fieldLink RX3 24 "ChainLoader$Files" "directory" "LChainLoader$Chain;", Cond.methodLink RX3 42 yX8_isDirectory, Cond.instanceMethod yX8_isDirectory, Cond.selects RX8 yX8_isDirectory yX8_isDirectory, Cond.code yX8_isDirectory cX8_isDirectory 2 (some .boolean), Cond.methodLink RX3 46 yX8_firstClusterOf, Cond.instanceMethod yX8_firstClusterOf, Cond.selects RX8 yX8_firstClusterOf yX8_firstClusterOf, Cond.code yX8_firstClusterOf cX8_firstClusterOf 2 (some .int), Cond.methodLink RX3 50 yX2_trace, Cond.instanceMethod yX2_trace, Cond.selects RX2 yX2_trace yX2_trace, Cond.initialized RX2, Cond.code yX2_trace cX2_trace 3 (some .boolean), Cond.fieldLink RX2 23 "ChainLoader$Chain" "count" "I"]
def wsX9_size_r5 : List Cond := [Cond.fieldLink RX2 27 "ChainLoader$Chain" "nextSlot" "I", Cond.fieldLink RX2 15 "ChainLoader$Chain" "mounted" "LChainLoader$Volume;", Cond.fieldLink RX2 30 "ChainLoader$Volume" "clusters" "I", Cond.fieldLink RX2 19 "ChainLoader$Chain" "places" "[I", Cond.methodLink RX2 35 yX8_isCluster, Cond.methodLink RX2 39 yX8_placeOfCluster, Cond.instanceMethod yX8_placeOfCluster, Cond.selects RX8 yX8_placeOfCluster yX8_placeOfCluster, Cond.code yX8_placeOfCluster cX8_placeOfCluster 2 (some .int), Cond.methodLink RX2 43 yX8_behind, Cond.instanceMethod yX8_behind, Cond.selects RX8 yX8_behind yX8_behind, Cond.code yX8_behind cX8_behind 4 (some .int), Cond.methodLink RX8 67 yX0_wordAt, Cond.instanceMethod yX0_wordAt, Cond.selects RX0 yX0_wordAt yX0_wordAt, Cond.code yX0_wordAt cX0_wordAt 2 (some .int), Cond.methodLink RX8 70 yX8_isEnd, Cond.instanceMethod yX8_isEnd, Cond.selects RX8 yX8_isEnd yX8_isEnd, Cond.code yX8_isEnd cX8_isEnd 2 (some .boolean), Cond.methodLink RX2 46 yX8_isEnd, Cond.methodLink RX3 53 yX3_findName, Cond.instanceMethod yX3_findName]
def wsX9_size_r6 : List Cond := [Cond.selects RX3 yX3_findName yX3_findName, Cond.code yX3_findName cX3_findName 5 (some .int), Cond.fieldLink RX3 9 "ChainLoader$Files" "disk" "LChainLoader$Bytes;", Cond.methodLink RX3 57 yX2_nextEntry, Cond.instanceMethod yX2_nextEntry, Cond.selects RX2 yX2_nextEntry yX2_nextEntry, Cond.code yX2_nextEntry cX2_nextEntry 4 (some .int), Cond.fieldLink RX2 11 "ChainLoader$Chain" "disk" "LChainLoader$Bytes;", Cond.methodLink RX2 61 yX2_bytes, Cond.instanceMethod yX2_bytes, Cond.selects RX2 yX2_bytes yX2_bytes, Cond.code yX2_bytes cX2_bytes 1 (some .int), Cond.fieldLink RX2 49 "ChainLoader$Volume" "clusterBytes" "I", Cond.methodLink RX2 52 yX2_placeOf, Cond.instanceMethod yX2_placeOf, Cond.selects RX2 yX2_placeOf yX2_placeOf, Cond.code yX2_placeOf cX2_placeOf 3 (some .int), Cond.methodLink RX2 55 yX0_byteAt, Cond.methodLink RX3 61 yX5_isNameAt, Cond.instanceMethod yX5_isNameAt, Cond.selects RX5 yX5_isNameAt yX5_isNameAt, Cond.code yX5_isNameAt cX5_isNameAt 5 (some .boolean), Cond.methodLink RX5 27 yX0_byteAt, Cond.methodLink RX9 93 yX8_sizeOf]
def wsX9_size_r7 : List Cond := [Cond.instanceMethod yX8_sizeOf, Cond.selects RX8 yX8_sizeOf yX8_sizeOf, Cond.code yX8_sizeOf cX8_sizeOf 2 (some .int)]
def wsX9_size : List Cond := .code yX9_size cX9_size 2 (some .int) :: ((wsX9_size_r1 ++ (wsX9_size_r2 ++ (wsX9_size_r3 ++ (wsX9_size_r4 ++ (wsX9_size_r5 ++ (wsX9_size_r6 ++ wsX9_size_r7)))))) ++ wsX90 ++ wsX80 ++ wsX00 ++ wsX50 ++ wsX30 ++ wsX20)
def wsX9_read_r1 : List Cond := [Cond.fieldLink RX9 42 "ChainLoader" "files" "LChainLoader$Files;", Cond.fieldLink RX9 99 "ChainLoader$Files" "content" "LChainLoader$Chain;", Cond.methodLink RX9 90 yX9_findTypedFile, Cond.instanceMethod yX9_findTypedFile, Cond.selects RX9 yX9_findTypedFile yX9_findTypedFile, Cond.initialized RX9, Cond.code yX9_findTypedFile cX9_findTypedFile 2 (some .int), Cond.fieldLink RX9 26 "ChainLoader" "mounted" "LChainLoader$Volume;", Cond.fieldLink RX9 33 "ChainLoader" "path" "LChainLoader$Path;", Cond.fieldLink RX9 67 "ChainLoader" "typed" "[I", Cond.fieldLink RX9 71 "ChainLoader" "typedCount" "I", Cond.methodLink RX9 86 yX8_mount, Cond.instanceMethod yX8_mount, Cond.selects RX8 yX8_mount yX8_mount, Cond.initialized RX8, Cond.code yX8_mount cX8_mount 2 (some .int), Cond.fieldLink RX8 23 "ChainLoader$Volume" "record" "I", Cond.fieldLink RX8 9 "ChainLoader$Volume" "disk" "LChainLoader$Bytes;", Cond.fieldLink RX8 40 "ChainLoader$Volume" "clusters" "I", Cond.methodLink RX8 15 yX8_isSigned, Cond.instanceMethod yX8_isSigned, Cond.selects RX8 yX8_isSigned yX8_isSigned, Cond.code yX8_isSigned cX8_isSigned 2 (some .boolean), Cond.methodLink RX8 31 yX0_byteAt]
def wsX9_read_r2 : List Cond := [Cond.instanceMethod yX0_byteAt, Cond.selects RX0 yX0_byteAt yX0_byteAt, Cond.initialized RX0, Cond.code yX0_byteAt cX0_byteAt 2 (some .int), Cond.fieldLink RX0 9 "ChainLoader$Bytes" "cells" "[B", Cond.methodLink RX8 19 yX8_choosePartition, Cond.instanceMethod yX8_choosePartition, Cond.selects RX8 yX8_choosePartition yX8_choosePartition, Cond.code yX8_choosePartition cX8_choosePartition 3 (some .int), Cond.methodLink RX8 43 yX8_isUsable, Cond.instanceMethod yX8_isUsable, Cond.selects RX8 yX8_isUsable yX8_isUsable, Cond.code yX8_isUsable cX8_isUsable 5 (some .boolean), Cond.methodLink RX8 27 yX8_placeOfRecord, Cond.instanceMethod yX8_placeOfRecord, Cond.selects RX8 yX8_placeOfRecord yX8_placeOfRecord, Cond.code yX8_placeOfRecord cX8_placeOfRecord 2 (some .int), Cond.methodLink RX8 36 yX8_takeGeometry, Cond.instanceMethod yX8_takeGeometry, Cond.selects RX8 yX8_takeGeometry yX8_takeGeometry, Cond.code yX8_takeGeometry cX8_takeGeometry 7 (some .boolean), Cond.fieldLink RX8 46 "ChainLoader$Volume" "tables" "I", Cond.fieldLink RX8 49 "ChainLoader$Volume" "root" "I", Cond.fieldLink RX8 52 "ChainLoader$Volume" "clusterBytes" "I"]
def wsX9_read_r3 : List Cond := [Cond.fieldLink RX8 55 "ChainLoader$Volume" "tableBytes" "I", Cond.fieldLink RX8 58 "ChainLoader$Volume" "tablesPlace" "I", Cond.fieldLink RX8 61 "ChainLoader$Volume" "clustersPlace" "I", Cond.methodLink RX8 64 yX8_isCluster, Cond.instanceMethod yX8_isCluster, Cond.selects RX8 yX8_isCluster yX8_isCluster, Cond.code yX8_isCluster cX8_isCluster 2 (some .boolean), Cond.methodLink RX9 136 yX5_parse, Cond.instanceMethod yX5_parse, Cond.selects RX5 yX5_parse yX5_parse, Cond.initialized RX5, Cond.code yX5_parse cX5_parse 7 (some .boolean), Cond.fieldLink RX5 9 "ChainLoader$Path" "letters" "[I", Cond.fieldLink RX5 23 "ChainLoader$Path" "count" "I", Cond.methodLink RX5 13 yJ7_fill_53178, Cond.static yJ7_fill_53178, Cond.initialized RJ7, Cond.code yJ7_fill_53178 cJ7_fill_53178 4 none, Cond.methodLink RX5 19 yX5_isLetter, Cond.instanceMethod yX5_isLetter, Cond.selects RX5 yX5_isLetter yX5_isLetter, Cond.code yX5_isLetter cX5_isLetter 2 (some .boolean), Cond.methodLink RX9 140 yX3_findFile, Cond.instanceMethod yX3_findFile]
def wsX9_read_r4 : List Cond := [Cond.selects RX3 yX3_findFile yX3_findFile, Cond.initialized RX3, Cond.code yX3_findFile cX3_findFile 3 (some .int), Cond.fieldLink RX3 15 "ChainLoader$Files" "mounted" "LChainLoader$Volume;", Cond.methodLink RX3 65 yX3_find, Cond.instanceMethod yX3_find, Cond.selects RX3 yX3_find yX3_find, Cond.code yX3_find cX3_find 5 (some .int), Cond.fieldLink RX3 31 "ChainLoader$Volume" "root" "I", Cond.fieldLink RX3 37 "ChainLoader$Path" "count" "I", Cond.fieldLink RX3 24 "ChainLoader$Files" "directory" "LChainLoader$Chain;", Cond.methodLink RX3 42 yX8_isDirectory, Cond.instanceMethod yX8_isDirectory, Cond.selects RX8 yX8_isDirectory yX8_isDirectory, Cond.code yX8_isDirectory cX8_isDirectory 2 (some .boolean), Cond.methodLink RX3 46 yX8_firstClusterOf, Cond.instanceMethod yX8_firstClusterOf, Cond.selects RX8 yX8_firstClusterOf yX8_firstClusterOf, Cond.code yX8_firstClusterOf cX8_firstClusterOf 2 (some .int), Cond.methodLink RX3 50 yX2_trace, Cond.instanceMethod yX2_trace, Cond.selects RX2 yX2_trace yX2_trace, Cond.initialized RX2, Cond.code yX2_trace cX2_trace 3 (some .boolean)]
def wsX9_read_r5 : List Cond := [Cond.fieldLink RX2 23 "ChainLoader$Chain" "count" "I", Cond.fieldLink RX2 27 "ChainLoader$Chain" "nextSlot" "I", Cond.fieldLink RX2 15 "ChainLoader$Chain" "mounted" "LChainLoader$Volume;", Cond.fieldLink RX2 30 "ChainLoader$Volume" "clusters" "I", Cond.fieldLink RX2 19 "ChainLoader$Chain" "places" "[I", Cond.methodLink RX2 35 yX8_isCluster, Cond.methodLink RX2 39 yX8_placeOfCluster, Cond.instanceMethod yX8_placeOfCluster, Cond.selects RX8 yX8_placeOfCluster yX8_placeOfCluster, Cond.code yX8_placeOfCluster cX8_placeOfCluster 2 (some .int), Cond.methodLink RX2 43 yX8_behind, Cond.instanceMethod yX8_behind, Cond.selects RX8 yX8_behind yX8_behind, Cond.code yX8_behind cX8_behind 4 (some .int), Cond.methodLink RX8 67 yX0_wordAt, Cond.instanceMethod yX0_wordAt, Cond.selects RX0 yX0_wordAt yX0_wordAt, Cond.code yX0_wordAt cX0_wordAt 2 (some .int), Cond.methodLink RX8 70 yX8_isEnd, Cond.instanceMethod yX8_isEnd, Cond.selects RX8 yX8_isEnd yX8_isEnd, Cond.code yX8_isEnd cX8_isEnd 2 (some .boolean), Cond.methodLink RX2 46 yX8_isEnd, Cond.methodLink RX3 53 yX3_findName]
def wsX9_read_r6 : List Cond := [Cond.instanceMethod yX3_findName, Cond.selects RX3 yX3_findName yX3_findName, Cond.code yX3_findName cX3_findName 5 (some .int), Cond.fieldLink RX3 9 "ChainLoader$Files" "disk" "LChainLoader$Bytes;", Cond.methodLink RX3 57 yX2_nextEntry, Cond.instanceMethod yX2_nextEntry, Cond.selects RX2 yX2_nextEntry yX2_nextEntry, Cond.code yX2_nextEntry cX2_nextEntry 4 (some .int), Cond.fieldLink RX2 11 "ChainLoader$Chain" "disk" "LChainLoader$Bytes;", Cond.methodLink RX2 61 yX2_bytes, Cond.instanceMethod yX2_bytes, Cond.selects RX2 yX2_bytes yX2_bytes, Cond.code yX2_bytes cX2_bytes 1 (some .int), Cond.fieldLink RX2 49 "ChainLoader$Volume" "clusterBytes" "I", Cond.methodLink RX2 52 yX2_placeOf, Cond.instanceMethod yX2_placeOf, Cond.selects RX2 yX2_placeOf yX2_placeOf, Cond.code yX2_placeOf cX2_placeOf 3 (some .int), Cond.methodLink RX2 55 yX0_byteAt, Cond.methodLink RX3 61 yX5_isNameAt, Cond.instanceMethod yX5_isNameAt, Cond.selects RX5 yX5_isNameAt yX5_isNameAt, Cond.code yX5_isNameAt cX5_isNameAt 5 (some .boolean), Cond.methodLink RX5 27 yX0_byteAt]
def wsX9_read_r7 : List Cond := [Cond.methodLink RX9 96 yX3_open, Cond.instanceMethod yX3_open, Cond.selects RX3 yX3_open yX3_open, Cond.code yX3_open cX3_open 4 (some .int), Cond.fieldLink RX3 28 "ChainLoader$Files" "content" "LChainLoader$Chain;", Cond.methodLink RX3 69 yX8_sizeOf, Cond.instanceMethod yX8_sizeOf, Cond.selects RX8 yX8_sizeOf yX8_sizeOf, Cond.code yX8_sizeOf cX8_sizeOf 2 (some .int), Cond.methodLink RX3 72 yX2_bytes, Cond.methodLink RX9 103 yX2_byteAt, Cond.instanceMethod yX2_byteAt, Cond.selects RX2 yX2_byteAt yX2_byteAt, Cond.code yX2_byteAt cX2_byteAt 2 (some .int)]
def wsX9_read : List Cond := .code yX9_read cX9_read 4 (some .int) :: ((wsX9_read_r1 ++ (wsX9_read_r2 ++ (wsX9_read_r3 ++ (wsX9_read_r4 ++ (wsX9_read_r5 ++ (wsX9_read_r6 ++ wsX9_read_r7)))))) ++ wsX90 ++ wsX30 ++ wsX80 ++ wsX00 ++ wsX50 ++ wsX20)
def wsX9_findTypedDirectory_r1 : List Cond := [Cond.fieldLink RX9 71 "ChainLoader" "typedCount" "I", Cond.fieldLink RX9 26 "ChainLoader" "mounted" "LChainLoader$Volume;", Cond.fieldLink RX9 144 "ChainLoader$Volume" "root" "I", Cond.fieldLink RX9 33 "ChainLoader" "path" "LChainLoader$Path;", Cond.fieldLink RX9 67 "ChainLoader" "typed" "[I", Cond.fieldLink RX9 42 "ChainLoader" "files" "LChainLoader$Files;", Cond.methodLink RX9 136 yX5_parse, Cond.instanceMethod yX5_parse, Cond.selects RX5 yX5_parse yX5_parse, Cond.initialized RX5, Cond.code yX5_parse cX5_parse 7 (some .boolean), Cond.fieldLink RX5 9 "ChainLoader$Path" "letters" "[I", Cond.fieldLink RX5 23 "ChainLoader$Path" "count" "I", Cond.methodLink RX5 13 yJ7_fill_53178, Cond.static yJ7_fill_53178, Cond.initialized RJ7, Cond.code yJ7_fill_53178 cJ7_fill_53178 4 none, Cond.methodLink RX5 19 yX5_isLetter, Cond.instanceMethod yX5_isLetter, Cond.selects RX5 yX5_isLetter yX5_isLetter, Cond.code yX5_isLetter cX5_isLetter 2 (some .boolean), Cond.methodLink RX9 147 yX3_find, Cond.instanceMethod yX3_find, Cond.selects RX3 yX3_find yX3_find]
def wsX9_findTypedDirectory_r2 : List Cond := [Cond.initialized RX3, Cond.code yX3_find cX3_find 5 (some .int), Cond.fieldLink RX3 15 "ChainLoader$Files" "mounted" "LChainLoader$Volume;", Cond.fieldLink RX3 31 "ChainLoader$Volume" "root" "I", Cond.fieldLink RX3 37 "ChainLoader$Path" "count" "I", Cond.fieldLink RX3 24 "ChainLoader$Files" "directory" "LChainLoader$Chain;", Cond.methodLink RX3 42 yX8_isDirectory, Cond.instanceMethod yX8_isDirectory, Cond.selects RX8 yX8_isDirectory yX8_isDirectory, Cond.initialized RX8, Cond.code yX8_isDirectory cX8_isDirectory 2 (some .boolean), Cond.fieldLink RX8 9 "ChainLoader$Volume" "disk" "LChainLoader$Bytes;", Cond.methodLink RX8 31 yX0_byteAt, Cond.instanceMethod yX0_byteAt, Cond.selects RX0 yX0_byteAt yX0_byteAt, Cond.initialized RX0, Cond.code yX0_byteAt cX0_byteAt 2 (some .int), Cond.fieldLink RX0 9 "ChainLoader$Bytes" "cells" "[B", Cond.methodLink RX3 46 yX8_firstClusterOf, Cond.instanceMethod yX8_firstClusterOf, Cond.selects RX8 yX8_firstClusterOf yX8_firstClusterOf, Cond.code yX8_firstClusterOf cX8_firstClusterOf 2 (some .int), Cond.methodLink RX3 50 yX2_trace, Cond.instanceMethod yX2_trace]
def wsX9_findTypedDirectory_r3 : List Cond := [Cond.selects RX2 yX2_trace yX2_trace, Cond.initialized RX2, Cond.code yX2_trace cX2_trace 3 (some .boolean), Cond.fieldLink RX2 23 "ChainLoader$Chain" "count" "I", Cond.fieldLink RX2 27 "ChainLoader$Chain" "nextSlot" "I", Cond.fieldLink RX2 15 "ChainLoader$Chain" "mounted" "LChainLoader$Volume;", Cond.fieldLink RX2 30 "ChainLoader$Volume" "clusters" "I", Cond.fieldLink RX2 19 "ChainLoader$Chain" "places" "[I", Cond.methodLink RX2 35 yX8_isCluster, Cond.instanceMethod yX8_isCluster, Cond.selects RX8 yX8_isCluster yX8_isCluster, Cond.code yX8_isCluster cX8_isCluster 2 (some .boolean), Cond.fieldLink RX8 40 "ChainLoader$Volume" "clusters" "I", Cond.methodLink RX2 39 yX8_placeOfCluster, Cond.instanceMethod yX8_placeOfCluster, Cond.selects RX8 yX8_placeOfCluster yX8_placeOfCluster, Cond.code yX8_placeOfCluster cX8_placeOfCluster 2 (some .int), Cond.fieldLink RX8 61 "ChainLoader$Volume" "clustersPlace" "I", Cond.fieldLink RX8 52 "ChainLoader$Volume" "clusterBytes" "I", Cond.methodLink RX2 43 yX8_behind, Cond.instanceMethod yX8_behind, Cond.selects RX8 yX8_behind yX8_behind, Cond.code yX8_behind cX8_behind 4 (some .int), Cond.fieldLink RX8 58 "ChainLoader$Volume" "tablesPlace" "I"]
def wsX9_findTypedDirectory_r4 : List Cond := [Cond.fieldLink RX8 46 "ChainLoader$Volume" "tables" "I", Cond.fieldLink RX8 55 "ChainLoader$Volume" "tableBytes" "I", Cond.methodLink RX8 67 yX0_wordAt, Cond.instanceMethod yX0_wordAt, Cond.selects RX0 yX0_wordAt yX0_wordAt, Cond.code yX0_wordAt cX0_wordAt 2 (some .int), Cond.methodLink RX8 64 yX8_isCluster, Cond.methodLink RX8 70 yX8_isEnd, Cond.instanceMethod yX8_isEnd, Cond.selects RX8 yX8_isEnd yX8_isEnd, Cond.code yX8_isEnd cX8_isEnd 2 (some .boolean), Cond.methodLink RX2 46 yX8_isEnd, Cond.methodLink RX3 53 yX3_findName, Cond.instanceMethod yX3_findName, Cond.selects RX3 yX3_findName yX3_findName, Cond.code yX3_findName cX3_findName 5 (some .int), Cond.fieldLink RX3 9 "ChainLoader$Files" "disk" "LChainLoader$Bytes;", Cond.methodLink RX3 57 yX2_nextEntry, Cond.instanceMethod yX2_nextEntry, Cond.selects RX2 yX2_nextEntry yX2_nextEntry, Cond.code yX2_nextEntry cX2_nextEntry 4 (some .int), Cond.fieldLink RX2 11 "ChainLoader$Chain" "disk" "LChainLoader$Bytes;", Cond.methodLink RX2 61 yX2_bytes, Cond.instanceMethod yX2_bytes]
def wsX9_findTypedDirectory_r5 : List Cond := [Cond.selects RX2 yX2_bytes yX2_bytes, Cond.code yX2_bytes cX2_bytes 1 (some .int), Cond.fieldLink RX2 49 "ChainLoader$Volume" "clusterBytes" "I", Cond.methodLink RX2 52 yX2_placeOf, Cond.instanceMethod yX2_placeOf, Cond.selects RX2 yX2_placeOf yX2_placeOf, Cond.code yX2_placeOf cX2_placeOf 3 (some .int), Cond.methodLink RX2 55 yX0_byteAt, Cond.methodLink RX3 61 yX5_isNameAt, Cond.instanceMethod yX5_isNameAt, Cond.selects RX5 yX5_isNameAt yX5_isNameAt, Cond.code yX5_isNameAt cX5_isNameAt 5 (some .boolean), Cond.methodLink RX5 27 yX0_byteAt, Cond.methodLink RX9 150 yX8_isDirectory, Cond.methodLink RX9 154 yX8_firstClusterOf]
def wsX9_findTypedDirectory : List Cond := .code yX9_findTypedDirectory cX9_findTypedDirectory 2 (some .int) :: ((wsX9_findTypedDirectory_r1 ++ (wsX9_findTypedDirectory_r2 ++ (wsX9_findTypedDirectory_r3 ++ (wsX9_findTypedDirectory_r4 ++ wsX9_findTypedDirectory_r5)))) ++ wsX90 ++ wsX80 ++ wsX50 ++ wsX30 ++ wsX00 ++ wsX20)
def wsX9_list_r1 : List Cond := [Cond.fieldLink RX9 26 "ChainLoader" "mounted" "LChainLoader$Volume;", Cond.fieldLink RX9 42 "ChainLoader" "files" "LChainLoader$Files;", Cond.methodLink RX9 86 yX8_mount, Cond.instanceMethod yX8_mount, Cond.selects RX8 yX8_mount yX8_mount, Cond.initialized RX8, Cond.code yX8_mount cX8_mount 2 (some .int), Cond.fieldLink RX8 23 "ChainLoader$Volume" "record" "I", Cond.fieldLink RX8 9 "ChainLoader$Volume" "disk" "LChainLoader$Bytes;", Cond.fieldLink RX8 40 "ChainLoader$Volume" "clusters" "I", Cond.methodLink RX8 15 yX8_isSigned, Cond.instanceMethod yX8_isSigned, Cond.selects RX8 yX8_isSigned yX8_isSigned, Cond.code yX8_isSigned cX8_isSigned 2 (some .boolean), Cond.methodLink RX8 31 yX0_byteAt, Cond.instanceMethod yX0_byteAt, Cond.selects RX0 yX0_byteAt yX0_byteAt, Cond.initialized RX0, Cond.code yX0_byteAt cX0_byteAt 2 (some .int), Cond.fieldLink RX0 9 "ChainLoader$Bytes" "cells" "[B", Cond.methodLink RX8 19 yX8_choosePartition, Cond.instanceMethod yX8_choosePartition, Cond.selects RX8 yX8_choosePartition yX8_choosePartition, Cond.code yX8_choosePartition cX8_choosePartition 3 (some .int)]
def wsX9_list_r2 : List Cond := [Cond.methodLink RX8 43 yX8_isUsable, Cond.instanceMethod yX8_isUsable, Cond.selects RX8 yX8_isUsable yX8_isUsable, Cond.code yX8_isUsable cX8_isUsable 5 (some .boolean), Cond.methodLink RX8 27 yX8_placeOfRecord, Cond.instanceMethod yX8_placeOfRecord, Cond.selects RX8 yX8_placeOfRecord yX8_placeOfRecord, Cond.code yX8_placeOfRecord cX8_placeOfRecord 2 (some .int), Cond.methodLink RX8 36 yX8_takeGeometry, Cond.instanceMethod yX8_takeGeometry, Cond.selects RX8 yX8_takeGeometry yX8_takeGeometry, Cond.code yX8_takeGeometry cX8_takeGeometry 7 (some .boolean), Cond.fieldLink RX8 46 "ChainLoader$Volume" "tables" "I", Cond.fieldLink RX8 49 "ChainLoader$Volume" "root" "I", Cond.fieldLink RX8 52 "ChainLoader$Volume" "clusterBytes" "I", Cond.fieldLink RX8 55 "ChainLoader$Volume" "tableBytes" "I", Cond.fieldLink RX8 58 "ChainLoader$Volume" "tablesPlace" "I", Cond.fieldLink RX8 61 "ChainLoader$Volume" "clustersPlace" "I", Cond.methodLink RX8 64 yX8_isCluster, Cond.instanceMethod yX8_isCluster, Cond.selects RX8 yX8_isCluster yX8_isCluster, Cond.code yX8_isCluster cX8_isCluster 2 (some .boolean), Cond.methodLink RX9 106 yX9_findTypedDirectory, Cond.instanceMethod yX9_findTypedDirectory]
def wsX9_list_r3 : List Cond := [Cond.selects RX9 yX9_findTypedDirectory yX9_findTypedDirectory, Cond.initialized RX9, Cond.code yX9_findTypedDirectory cX9_findTypedDirectory 2 (some .int), Cond.fieldLink RX9 71 "ChainLoader" "typedCount" "I", Cond.fieldLink RX9 144 "ChainLoader$Volume" "root" "I", Cond.fieldLink RX9 33 "ChainLoader" "path" "LChainLoader$Path;", Cond.fieldLink RX9 67 "ChainLoader" "typed" "[I", Cond.methodLink RX9 136 yX5_parse, Cond.instanceMethod yX5_parse, Cond.selects RX5 yX5_parse yX5_parse, Cond.initialized RX5, Cond.code yX5_parse cX5_parse 7 (some .boolean), Cond.fieldLink RX5 9 "ChainLoader$Path" "letters" "[I", Cond.fieldLink RX5 23 "ChainLoader$Path" "count" "I", Cond.methodLink RX5 13 yJ7_fill_53178, Cond.static yJ7_fill_53178, Cond.initialized RJ7, Cond.code yJ7_fill_53178 cJ7_fill_53178 4 none, Cond.methodLink RX5 19 yX5_isLetter, Cond.instanceMethod yX5_isLetter, Cond.selects RX5 yX5_isLetter yX5_isLetter, Cond.code yX5_isLetter cX5_isLetter 2 (some .boolean), Cond.methodLink RX9 147 yX3_find, Cond.instanceMethod yX3_find]
def wsX9_list_r4 : List Cond := [Cond.selects RX3 yX3_find yX3_find, Cond.initialized RX3, Cond.code yX3_find cX3_find 5 (some .int), Cond.fieldLink RX3 15 "ChainLoader$Files" "mounted" "LChainLoader$Volume;", Cond.fieldLink RX3 31 "ChainLoader$Volume" "root" "I", Cond.fieldLink RX3 37 "ChainLoader$Path" "count" "I", Cond.fieldLink RX3 24 "ChainLoader$Files" "directory" "LChainLoader$Chain;", Cond.methodLink RX3 42 yX8_isDirectory, Cond.instanceMethod yX8_isDirectory, Cond.selects RX8 yX8_isDirectory yX8_isDirectory, Cond.code yX8_isDirectory cX8_isDirectory 2 (some .boolean), Cond.methodLink RX3 46 yX8_firstClusterOf, Cond.instanceMethod yX8_firstClusterOf, Cond.selects RX8 yX8_firstClusterOf yX8_firstClusterOf, Cond.code yX8_firstClusterOf cX8_firstClusterOf 2 (some .int), Cond.methodLink RX3 50 yX2_trace, Cond.instanceMethod yX2_trace, Cond.selects RX2 yX2_trace yX2_trace, Cond.initialized RX2, Cond.code yX2_trace cX2_trace 3 (some .boolean), Cond.fieldLink RX2 23 "ChainLoader$Chain" "count" "I", Cond.fieldLink RX2 27 "ChainLoader$Chain" "nextSlot" "I", Cond.fieldLink RX2 15 "ChainLoader$Chain" "mounted" "LChainLoader$Volume;", Cond.fieldLink RX2 30 "ChainLoader$Volume" "clusters" "I"]
def wsX9_list_r5 : List Cond := [Cond.fieldLink RX2 19 "ChainLoader$Chain" "places" "[I", Cond.methodLink RX2 35 yX8_isCluster, Cond.methodLink RX2 39 yX8_placeOfCluster, Cond.instanceMethod yX8_placeOfCluster, Cond.selects RX8 yX8_placeOfCluster yX8_placeOfCluster, Cond.code yX8_placeOfCluster cX8_placeOfCluster 2 (some .int), Cond.methodLink RX2 43 yX8_behind, Cond.instanceMethod yX8_behind, Cond.selects RX8 yX8_behind yX8_behind, Cond.code yX8_behind cX8_behind 4 (some .int), Cond.methodLink RX8 67 yX0_wordAt, Cond.instanceMethod yX0_wordAt, Cond.selects RX0 yX0_wordAt yX0_wordAt, Cond.code yX0_wordAt cX0_wordAt 2 (some .int), Cond.methodLink RX8 70 yX8_isEnd, Cond.instanceMethod yX8_isEnd, Cond.selects RX8 yX8_isEnd yX8_isEnd, Cond.code yX8_isEnd cX8_isEnd 2 (some .boolean), Cond.methodLink RX2 46 yX8_isEnd, Cond.methodLink RX3 53 yX3_findName, Cond.instanceMethod yX3_findName, Cond.selects RX3 yX3_findName yX3_findName, Cond.code yX3_findName cX3_findName 5 (some .int), Cond.fieldLink RX3 9 "ChainLoader$Files" "disk" "LChainLoader$Bytes;"]
def wsX9_list_r6 : List Cond := [Cond.methodLink RX3 57 yX2_nextEntry, Cond.instanceMethod yX2_nextEntry, Cond.selects RX2 yX2_nextEntry yX2_nextEntry, Cond.code yX2_nextEntry cX2_nextEntry 4 (some .int), Cond.fieldLink RX2 11 "ChainLoader$Chain" "disk" "LChainLoader$Bytes;", Cond.methodLink RX2 61 yX2_bytes, Cond.instanceMethod yX2_bytes, Cond.selects RX2 yX2_bytes yX2_bytes, Cond.code yX2_bytes cX2_bytes 1 (some .int), Cond.fieldLink RX2 49 "ChainLoader$Volume" "clusterBytes" "I", Cond.methodLink RX2 52 yX2_placeOf, Cond.instanceMethod yX2_placeOf, Cond.selects RX2 yX2_placeOf yX2_placeOf, Cond.code yX2_placeOf cX2_placeOf 3 (some .int), Cond.methodLink RX2 55 yX0_byteAt, Cond.methodLink RX3 61 yX5_isNameAt, Cond.instanceMethod yX5_isNameAt, Cond.selects RX5 yX5_isNameAt yX5_isNameAt, Cond.code yX5_isNameAt cX5_isNameAt 5 (some .boolean), Cond.methodLink RX5 27 yX0_byteAt, Cond.methodLink RX9 150 yX8_isDirectory, Cond.methodLink RX9 154 yX8_firstClusterOf, Cond.methodLink RX9 109 yX3_nameNumbered, Cond.instanceMethod yX3_nameNumbered]
def wsX9_list_r7 : List Cond := [Cond.selects RX3 yX3_nameNumbered yX3_nameNumbered, Cond.code yX3_nameNumbered cX3_nameNumbered 5 (some .long), Cond.constantLong RX3 75 (-9), Cond.constantLong RX3 77 (-1), Cond.methodLink RX3 79 yX0_wordAt]
def wsX9_list : List Cond := .code yX9_list cX9_list 4 (some .long) :: ((wsX9_list_r1 ++ (wsX9_list_r2 ++ (wsX9_list_r3 ++ (wsX9_list_r4 ++ (wsX9_list_r5 ++ (wsX9_list_r6 ++ wsX9_list_r7)))))) ++ wsX90 ++ wsX80 ++ wsX00 ++ wsX50 ++ wsX30 ++ wsX20)
def wsX9_survey_r1 : List Cond := [Cond.fieldLink RX9 26 "ChainLoader" "mounted" "LChainLoader$Volume;", Cond.fieldLink RX9 49 "ChainLoader" "census" "LChainLoader$Census;", Cond.methodLink RX9 86 yX8_mount, Cond.instanceMethod yX8_mount, Cond.selects RX8 yX8_mount yX8_mount, Cond.initialized RX8, Cond.code yX8_mount cX8_mount 2 (some .int), Cond.fieldLink RX8 23 "ChainLoader$Volume" "record" "I", Cond.fieldLink RX8 9 "ChainLoader$Volume" "disk" "LChainLoader$Bytes;", Cond.fieldLink RX8 40 "ChainLoader$Volume" "clusters" "I", Cond.methodLink RX8 15 yX8_isSigned, Cond.instanceMethod yX8_isSigned, Cond.selects RX8 yX8_isSigned yX8_isSigned, Cond.code yX8_isSigned cX8_isSigned 2 (some .boolean), Cond.methodLink RX8 31 yX0_byteAt, Cond.instanceMethod yX0_byteAt, Cond.selects RX0 yX0_byteAt yX0_byteAt, Cond.initialized RX0, Cond.code yX0_byteAt cX0_byteAt 2 (some .int), Cond.fieldLink RX0 9 "ChainLoader$Bytes" "cells" "[B", Cond.methodLink RX8 19 yX8_choosePartition, Cond.instanceMethod yX8_choosePartition, Cond.selects RX8 yX8_choosePartition yX8_choosePartition, Cond.code yX8_choosePartition cX8_choosePartition 3 (some .int)]
def wsX9_survey_r2 : List Cond := [Cond.methodLink RX8 43 yX8_isUsable, Cond.instanceMethod yX8_isUsable, Cond.selects RX8 yX8_isUsable yX8_isUsable, Cond.code yX8_isUsable cX8_isUsable 5 (some .boolean), Cond.methodLink RX8 27 yX8_placeOfRecord, Cond.instanceMethod yX8_placeOfRecord, Cond.selects RX8 yX8_placeOfRecord yX8_placeOfRecord, Cond.code yX8_placeOfRecord cX8_placeOfRecord 2 (some .int), Cond.methodLink RX8 36 yX8_takeGeometry, Cond.instanceMethod yX8_takeGeometry, Cond.selects RX8 yX8_takeGeometry yX8_takeGeometry, Cond.code yX8_takeGeometry cX8_takeGeometry 7 (some .boolean), Cond.fieldLink RX8 46 "ChainLoader$Volume" "tables" "I", Cond.fieldLink RX8 49 "ChainLoader$Volume" "root" "I", Cond.fieldLink RX8 52 "ChainLoader$Volume" "clusterBytes" "I", Cond.fieldLink RX8 55 "ChainLoader$Volume" "tableBytes" "I", Cond.fieldLink RX8 58 "ChainLoader$Volume" "tablesPlace" "I", Cond.fieldLink RX8 61 "ChainLoader$Volume" "clustersPlace" "I", Cond.methodLink RX8 64 yX8_isCluster, Cond.instanceMethod yX8_isCluster, Cond.selects RX8 yX8_isCluster yX8_isCluster, Cond.code yX8_isCluster cX8_isCluster 2 (some .boolean), Cond.methodLink RX9 113 yX1_countAll, Cond.instanceMethod yX1_countAll]
def wsX9_survey_r3 : List Cond := [Cond.selects RX1 yX1_countAll yX1_countAll, Cond.initialized RX1, Cond.code yX1_countAll cX1_countAll 2 (some .int), Cond.fieldLink RX1 24 "ChainLoader$Census" "met" "I", Cond.fieldLink RX1 28 "ChainLoader$Census" "directories" "I", Cond.fieldLink RX1 9 "ChainLoader$Census" "mounted" "LChainLoader$Volume;", Cond.fieldLink RX1 31 "ChainLoader$Volume" "root" "I", Cond.methodLink RX1 36 yX1_countDirectory, Cond.instanceMethod yX1_countDirectory, Cond.selects RX1 yX1_countDirectory yX1_countDirectory, Cond.code yX1_countDirectory cX1_countDirectory 7 (some .int), Cond.fieldLink RX1 17 "ChainLoader$Census" "levels" "[LChainLoader$Chain;", Cond.methodLink RX1 40 yX2_trace, Cond.instanceMethod yX2_trace, Cond.selects RX2 yX2_trace yX2_trace, Cond.initialized RX2, Cond.code yX2_trace cX2_trace 3 (some .boolean), Cond.fieldLink RX2 23 "ChainLoader$Chain" "count" "I", Cond.fieldLink RX2 27 "ChainLoader$Chain" "nextSlot" "I", Cond.fieldLink RX2 15 "ChainLoader$Chain" "mounted" "LChainLoader$Volume;", Cond.fieldLink RX2 30 "ChainLoader$Volume" "clusters" "I", Cond.fieldLink RX2 19 "ChainLoader$Chain" "places" "[I", Cond.methodLink RX2 35 yX8_isCluster, Cond.methodLink RX2 39 yX8_placeOfCluster]
def wsX9_survey_r4 : List Cond := [Cond.instanceMethod yX8_placeOfCluster, Cond.selects RX8 yX8_placeOfCluster yX8_placeOfCluster, Cond.code yX8_placeOfCluster cX8_placeOfCluster 2 (some .int), Cond.methodLink RX2 43 yX8_behind, Cond.instanceMethod yX8_behind, Cond.selects RX8 yX8_behind yX8_behind, Cond.code yX8_behind cX8_behind 4 (some .int), Cond.methodLink RX8 67 yX0_wordAt, Cond.instanceMethod yX0_wordAt, Cond.selects RX0 yX0_wordAt yX0_wordAt, Cond.code yX0_wordAt cX0_wordAt 2 (some .int), Cond.methodLink RX8 70 yX8_isEnd, Cond.instanceMethod yX8_isEnd, Cond.selects RX8 yX8_isEnd yX8_isEnd, Cond.code yX8_isEnd cX8_isEnd 2 (some .boolean), Cond.methodLink RX2 46 yX8_isEnd, Cond.methodLink RX1 44 yX2_nextEntry, Cond.instanceMethod yX2_nextEntry, Cond.selects RX2 yX2_nextEntry yX2_nextEntry, Cond.code yX2_nextEntry cX2_nextEntry 4 (some .int), Cond.fieldLink RX2 11 "ChainLoader$Chain" "disk" "LChainLoader$Bytes;", Cond.methodLink RX2 61 yX2_bytes, Cond.instanceMethod yX2_bytes, Cond.selects RX2 yX2_bytes yX2_bytes]
def wsX9_survey_r5 : List Cond := [Cond.code yX2_bytes cX2_bytes 1 (some .int), Cond.fieldLink RX2 49 "ChainLoader$Volume" "clusterBytes" "I", Cond.methodLink RX2 52 yX2_placeOf, Cond.instanceMethod yX2_placeOf, Cond.selects RX2 yX2_placeOf yX2_placeOf, Cond.code yX2_placeOf cX2_placeOf 3 (some .int), Cond.methodLink RX2 55 yX0_byteAt, Cond.methodLink RX1 48 yX1_countEntry, Cond.instanceMethod yX1_countEntry, Cond.selects RX1 yX1_countEntry yX1_countEntry, Cond.code yX1_countEntry cX1_countEntry 3 (some .int), Cond.methodLink RX1 51 yX8_isDirectory, Cond.instanceMethod yX8_isDirectory, Cond.selects RX8 yX8_isDirectory yX8_isDirectory, Cond.code yX8_isDirectory cX8_isDirectory 2 (some .boolean), Cond.methodLink RX1 54 yX8_firstClusterOf, Cond.instanceMethod yX8_firstClusterOf, Cond.selects RX8 yX8_firstClusterOf yX8_firstClusterOf, Cond.code yX8_firstClusterOf cX8_firstClusterOf 2 (some .int)]
def wsX9_survey : List Cond := .code yX9_survey cX9_survey 2 (some .int) :: ((wsX9_survey_r1 ++ (wsX9_survey_r2 ++ (wsX9_survey_r3 ++ (wsX9_survey_r4 ++ wsX9_survey_r5)))) ++ wsX90 ++ wsX80 ++ wsX00 ++ wsX10 ++ wsX20)
def wsX9_takeSettings_r1 : List Cond := [Cond.fieldLink RX9 33 "ChainLoader" "path" "LChainLoader$Path;", Cond.fieldLink RX9 157 "ChainLoader" "SETTINGS_NAME" "[I", Cond.fieldLink RX9 42 "ChainLoader" "files" "LChainLoader$Files;", Cond.fieldLink RX9 56 "ChainLoader" "settings" "LChainLoader$Settings;", Cond.fieldLink RX9 99 "ChainLoader$Files" "content" "LChainLoader$Chain;", Cond.methodLink RX9 136 yX5_parse, Cond.instanceMethod yX5_parse, Cond.selects RX5 yX5_parse yX5_parse, Cond.initialized RX5, Cond.code yX5_parse cX5_parse 7 (some .boolean), Cond.fieldLink RX5 9 "ChainLoader$Path" "letters" "[I", Cond.fieldLink RX5 23 "ChainLoader$Path" "count" "I", Cond.methodLink RX5 13 yJ7_fill_53178, Cond.static yJ7_fill_53178, Cond.initialized RJ7, Cond.code yJ7_fill_53178 cJ7_fill_53178 4 none, Cond.methodLink RX5 19 yX5_isLetter, Cond.instanceMethod yX5_isLetter, Cond.selects RX5 yX5_isLetter yX5_isLetter, Cond.code yX5_isLetter cX5_isLetter 2 (some .boolean), Cond.methodLink RX9 140 yX3_findFile, Cond.instanceMethod yX3_findFile, Cond.selects RX3 yX3_findFile yX3_findFile, Cond.initialized RX3]
def wsX9_takeSettings_r2 : List Cond := [Cond.code yX3_findFile cX3_findFile 3 (some .int), Cond.fieldLink RX3 15 "ChainLoader$Files" "mounted" "LChainLoader$Volume;", Cond.methodLink RX3 65 yX3_find, Cond.instanceMethod yX3_find, Cond.selects RX3 yX3_find yX3_find, Cond.code yX3_find cX3_find 5 (some .int), Cond.fieldLink RX3 31 "ChainLoader$Volume" "root" "I", Cond.fieldLink RX3 37 "ChainLoader$Path" "count" "I", Cond.fieldLink RX3 24 "ChainLoader$Files" "directory" "LChainLoader$Chain;", Cond.methodLink RX3 42 yX8_isDirectory, Cond.instanceMethod yX8_isDirectory, Cond.selects RX8 yX8_isDirectory yX8_isDirectory, Cond.initialized RX8, Cond.code yX8_isDirectory cX8_isDirectory 2 (some .boolean), Cond.fieldLink RX8 9 "ChainLoader$Volume" "disk" "LChainLoader$Bytes;", Cond.methodLink RX8 31 yX0_byteAt, Cond.instanceMethod yX0_byteAt, Cond.selects RX0 yX0_byteAt yX0_byteAt, Cond.initialized RX0, Cond.code yX0_byteAt cX0_byteAt 2 (some .int), Cond.fieldLink RX0 9 "ChainLoader$Bytes" "cells" "[B", Cond.methodLink RX3 46 yX8_firstClusterOf, Cond.instanceMethod yX8_firstClusterOf, Cond.selects RX8 yX8_firstClusterOf yX8_firstClusterOf]
def wsX9_takeSettings_r3 : List Cond := [Cond.code yX8_firstClusterOf cX8_firstClusterOf 2 (some .int), Cond.methodLink RX3 50 yX2_trace, Cond.instanceMethod yX2_trace, Cond.selects RX2 yX2_trace yX2_trace, Cond.initialized RX2, Cond.code yX2_trace cX2_trace 3 (some .boolean), Cond.fieldLink RX2 23 "ChainLoader$Chain" "count" "I", Cond.fieldLink RX2 27 "ChainLoader$Chain" "nextSlot" "I", Cond.fieldLink RX2 15 "ChainLoader$Chain" "mounted" "LChainLoader$Volume;", Cond.fieldLink RX2 30 "ChainLoader$Volume" "clusters" "I", Cond.fieldLink RX2 19 "ChainLoader$Chain" "places" "[I", Cond.methodLink RX2 35 yX8_isCluster, Cond.instanceMethod yX8_isCluster, Cond.selects RX8 yX8_isCluster yX8_isCluster, Cond.code yX8_isCluster cX8_isCluster 2 (some .boolean), Cond.fieldLink RX8 40 "ChainLoader$Volume" "clusters" "I", Cond.methodLink RX2 39 yX8_placeOfCluster, Cond.instanceMethod yX8_placeOfCluster, Cond.selects RX8 yX8_placeOfCluster yX8_placeOfCluster, Cond.code yX8_placeOfCluster cX8_placeOfCluster 2 (some .int), Cond.fieldLink RX8 61 "ChainLoader$Volume" "clustersPlace" "I", Cond.fieldLink RX8 52 "ChainLoader$Volume" "clusterBytes" "I", Cond.methodLink RX2 43 yX8_behind, Cond.instanceMethod yX8_behind]
def wsX9_takeSettings_r4 : List Cond := [Cond.selects RX8 yX8_behind yX8_behind, Cond.code yX8_behind cX8_behind 4 (some .int), Cond.fieldLink RX8 58 "ChainLoader$Volume" "tablesPlace" "I", Cond.fieldLink RX8 46 "ChainLoader$Volume" "tables" "I", Cond.fieldLink RX8 55 "ChainLoader$Volume" "tableBytes" "I", Cond.methodLink RX8 67 yX0_wordAt, Cond.instanceMethod yX0_wordAt, Cond.selects RX0 yX0_wordAt yX0_wordAt, Cond.code yX0_wordAt cX0_wordAt 2 (some .int), Cond.methodLink RX8 64 yX8_isCluster, Cond.methodLink RX8 70 yX8_isEnd, Cond.instanceMethod yX8_isEnd, Cond.selects RX8 yX8_isEnd yX8_isEnd, Cond.code yX8_isEnd cX8_isEnd 2 (some .boolean), Cond.methodLink RX2 46 yX8_isEnd, Cond.methodLink RX3 53 yX3_findName, Cond.instanceMethod yX3_findName, Cond.selects RX3 yX3_findName yX3_findName, Cond.code yX3_findName cX3_findName 5 (some .int), Cond.fieldLink RX3 9 "ChainLoader$Files" "disk" "LChainLoader$Bytes;", Cond.methodLink RX3 57 yX2_nextEntry, Cond.instanceMethod yX2_nextEntry, Cond.selects RX2 yX2_nextEntry yX2_nextEntry, Cond.code yX2_nextEntry cX2_nextEntry 4 (some .int)]
def wsX9_takeSettings_r5 : List Cond := [Cond.fieldLink RX2 11 "ChainLoader$Chain" "disk" "LChainLoader$Bytes;", Cond.methodLink RX2 61 yX2_bytes, Cond.instanceMethod yX2_bytes, Cond.selects RX2 yX2_bytes yX2_bytes, Cond.code yX2_bytes cX2_bytes 1 (some .int), Cond.fieldLink RX2 49 "ChainLoader$Volume" "clusterBytes" "I", Cond.methodLink RX2 52 yX2_placeOf, Cond.instanceMethod yX2_placeOf, Cond.selects RX2 yX2_placeOf yX2_placeOf, Cond.code yX2_placeOf cX2_placeOf 3 (some .int), Cond.methodLink RX2 55 yX0_byteAt, Cond.methodLink RX3 61 yX5_isNameAt, Cond.instanceMethod yX5_isNameAt, Cond.selects RX5 yX5_isNameAt yX5_isNameAt, Cond.code yX5_isNameAt cX5_isNameAt 5 (some .boolean), Cond.methodLink RX5 27 yX0_byteAt, Cond.methodLink RX9 96 yX3_open, Cond.instanceMethod yX3_open, Cond.selects RX3 yX3_open yX3_open, Cond.code yX3_open cX3_open 4 (some .int), Cond.fieldLink RX3 28 "ChainLoader$Files" "content" "LChainLoader$Chain;", Cond.methodLink RX3 69 yX8_sizeOf, Cond.instanceMethod yX8_sizeOf, Cond.selects RX8 yX8_sizeOf yX8_sizeOf]
def wsX9_takeSettings_r6 : List Cond := [Cond.code yX8_sizeOf cX8_sizeOf 2 (some .int), Cond.methodLink RX3 72 yX2_bytes, Cond.methodLink RX9 160 yX6_take, Cond.instanceMethod yX6_take, Cond.selects RX6 yX6_take yX6_take, Cond.initialized RX6, Cond.code yX6_take cX6_take 5 (some .boolean), Cond.fieldLink RX6 16 "ChainLoader$Settings" "kernelPath" "LChainLoader$Value;", Cond.fieldLink RX6 20 "ChainLoader$Settings" "otherPath" "LChainLoader$Value;", Cond.fieldLink RX6 23 "ChainLoader$Settings" "arguments" "LChainLoader$Value;", Cond.fieldLink RX6 9 "ChainLoader$Settings" "text" "[I", Cond.fieldLink RX6 39 "ChainLoader$Value" "given" "Z", Cond.methodLink RX6 26 yX7_forget, Cond.instanceMethod yX7_forget, Cond.selects RX7 yX7_forget yX7_forget, Cond.initialized RX7, Cond.code yX7_forget cX7_forget 1 none, Cond.fieldLink RX7 7 "ChainLoader$Value" "given" "Z", Cond.fieldLink RX7 13 "ChainLoader$Value" "from" "I", Cond.fieldLink RX7 17 "ChainLoader$Value" "to" "I", Cond.methodLink RX6 29 yX2_byteAt, Cond.instanceMethod yX2_byteAt, Cond.selects RX2 yX2_byteAt yX2_byteAt, Cond.code yX2_byteAt cX2_byteAt 2 (some .int)]
def wsX9_takeSettings_r7 : List Cond := [Cond.methodLink RX6 35 yX6_takeLine, Cond.instanceMethod yX6_takeLine, Cond.selects RX6 yX6_takeLine yX6_takeLine, Cond.code yX6_takeLine cX6_takeLine 3 (some .boolean), Cond.methodLink RX6 43 yX7_set, Cond.instanceMethod yX7_set, Cond.selects RX7 yX7_set yX7_set, Cond.code yX7_set cX7_set 3 none]
def wsX9_takeSettings : List Cond := .code yX9_takeSettings cX9_takeSettings 3 (some .int) :: ((wsX9_takeSettings_r1 ++ (wsX9_takeSettings_r2 ++ (wsX9_takeSettings_r3 ++ (wsX9_takeSettings_r4 ++ (wsX9_takeSettings_r5 ++ (wsX9_takeSettings_r6 ++ wsX9_takeSettings_r7)))))) ++ wsX90 ++ wsX30 ++ wsX50 ++ wsX80 ++ wsX00 ++ wsX20 ++ wsX60 ++ wsX70)
def wsX9_copyKernel_r1 : List Cond := [Cond.fieldLink RX9 18 "ChainLoader" "ram" "LChainLoader$Bytes;", Cond.fieldLink RX9 63 "ChainLoader" "kernel" "LChainLoader$Kernel;", Cond.fieldLink RX9 194 "ChainLoader$Kernel" "address" "I", Cond.fieldLink RX9 42 "ChainLoader" "files" "LChainLoader$Files;", Cond.fieldLink RX9 99 "ChainLoader$Files" "content" "LChainLoader$Chain;", Cond.methodLink RX9 103 yX2_byteAt, Cond.instanceMethod yX2_byteAt, Cond.selects RX2 yX2_byteAt yX2_byteAt, Cond.initialized RX2, Cond.code yX2_byteAt cX2_byteAt 2 (some .int), Cond.fieldLink RX2 11 "ChainLoader$Chain" "disk" "LChainLoader$Bytes;", Cond.methodLink RX2 52 yX2_placeOf, Cond.instanceMethod yX2_placeOf, Cond.selects RX2 yX2_placeOf yX2_placeOf, Cond.code yX2_placeOf cX2_placeOf 3 (some .int), Cond.fieldLink RX2 15 "ChainLoader$Chain" "mounted" "LChainLoader$Volume;", Cond.fieldLink RX2 49 "ChainLoader$Volume" "clusterBytes" "I", Cond.fieldLink RX2 23 "ChainLoader$Chain" "count" "I", Cond.fieldLink RX2 19 "ChainLoader$Chain" "places" "[I", Cond.methodLink RX2 55 yX0_byteAt, Cond.instanceMethod yX0_byteAt, Cond.selects RX0 yX0_byteAt yX0_byteAt, Cond.initialized RX0, Cond.code yX0_byteAt cX0_byteAt 2 (some .int)]
def wsX9_copyKernel_r2 : List Cond := [Cond.fieldLink RX0 9 "ChainLoader$Bytes" "cells" "[B", Cond.methodLink RX9 78 yX0_put, Cond.instanceMethod yX0_put, Cond.selects RX0 yX0_put yX0_put, Cond.code yX0_put cX0_put 6 (some .boolean)]
def wsX9_copyKernel : List Cond := .code yX9_copyKernel cX9_copyKernel 3 none :: ((wsX9_copyKernel_r1 ++ wsX9_copyKernel_r2) ++ wsX90 ++ wsX40 ++ wsX30 ++ wsX20 ++ wsX80 ++ wsX00)
def wsX9_writeInformation : List Cond := .code yX9_writeInformation cX9_writeInformation 5 none :: ([.fieldLink RX9 63 "ChainLoader" "kernel" "LChainLoader$Kernel;", .fieldLink RX9 56 "ChainLoader" "settings" "LChainLoader$Settings;", .fieldLink RX9 201 "ChainLoader$Settings" "arguments" "LChainLoader$Value;", .fieldLink RX9 170 "ChainLoader$Value" "to" "I", .fieldLink RX9 167 "ChainLoader$Value" "from" "I", .fieldLink RX9 194 "ChainLoader$Kernel" "address" "I", .fieldLink RX9 18 "ChainLoader" "ram" "LChainLoader$Bytes;", .constantLong RX9 204 (732803074), .fieldLink RX9 26 "ChainLoader" "mounted" "LChainLoader$Volume;", .fieldLink RX9 206 "ChainLoader$Volume" "record" "I", .constant RX9 209 (732803074), .methodLink RX9 197 yX4_wantsMemoryBytes, .instanceMethod yX4_wantsMemoryBytes, .selects RX4 yX4_wantsMemoryBytes yX4_wantsMemoryBytes, .initialized RX4, .code yX4_wantsMemoryBytes cX4_wantsMemoryBytes 1 (some .boolean), .fieldLink RX4 21 "ChainLoader$Kernel" "flags" "I", .methodLink RX9 78 yX0_put, .instanceMethod yX0_put, .selects RX0 yX0_put yX0_put, .initialized RX0, .code yX0_put cX0_put 6 (some .boolean), .fieldLink RX0 9 "ChainLoader$Bytes" "cells" "[B"] ++ wsX90 ++ wsX60 ++ wsX70 ++ wsX40 ++ wsX80 ++ wsX00)
def wsX9_copyArguments : List Cond := .code yX9_copyArguments cX9_copyArguments 3 none :: ([.fieldLink RX9 56 "ChainLoader" "settings" "LChainLoader$Settings;", .fieldLink RX9 201 "ChainLoader$Settings" "arguments" "LChainLoader$Value;", .fieldLink RX9 167 "ChainLoader$Value" "from" "I", .fieldLink RX9 170 "ChainLoader$Value" "to" "I", .fieldLink RX9 18 "ChainLoader" "ram" "LChainLoader$Bytes;", .fieldLink RX9 164 "ChainLoader$Settings" "text" "[I", .methodLink RX9 78 yX0_put, .instanceMethod yX0_put, .selects RX0 yX0_put yX0_put, .initialized RX0, .code yX0_put cX0_put 6 (some .boolean), .fieldLink RX0 9 "ChainLoader$Bytes" "cells" "[B"] ++ wsX90 ++ wsX60 ++ wsX70 ++ wsX00)
def wsX9_load_r1 : List Cond := [Cond.fieldLink RX9 33 "ChainLoader" "path" "LChainLoader$Path;", Cond.fieldLink RX9 56 "ChainLoader" "settings" "LChainLoader$Settings;", Cond.fieldLink RX9 164 "ChainLoader$Settings" "text" "[I", Cond.fieldLink RX9 167 "ChainLoader$Value" "from" "I", Cond.fieldLink RX9 170 "ChainLoader$Value" "to" "I", Cond.fieldLink RX9 42 "ChainLoader" "files" "LChainLoader$Files;", Cond.fieldLink RX9 63 "ChainLoader" "kernel" "LChainLoader$Kernel;", Cond.fieldLink RX9 99 "ChainLoader$Files" "content" "LChainLoader$Chain;", Cond.fieldLink RX9 18 "ChainLoader" "ram" "LChainLoader$Bytes;", Cond.fieldLink RX9 191 "ChainLoader$Kernel" "start" "I", Cond.fieldLink RX9 75 "ChainLoader" "loadedEntry" "I", Cond.methodLink RX9 136 yX5_parse, Cond.instanceMethod yX5_parse, Cond.selects RX5 yX5_parse yX5_parse, Cond.initialized RX5, Cond.code yX5_parse cX5_parse 7 (some .boolean), Cond.fieldLink RX5 9 "ChainLoader$Path" "letters" "[I", Cond.fieldLink RX5 23 "ChainLoader$Path" "count" "I", Cond.methodLink RX5 13 yJ7_fill_53178, Cond.static yJ7_fill_53178, Cond.initialized RJ7, Cond.code yJ7_fill_53178 cJ7_fill_53178 4 none, Cond.methodLink RX5 19 yX5_isLetter, Cond.instanceMethod yX5_isLetter]
def wsX9_load_r2 : List Cond := [Cond.selects RX5 yX5_isLetter yX5_isLetter, Cond.code yX5_isLetter cX5_isLetter 2 (some .boolean), Cond.methodLink RX9 140 yX3_findFile, Cond.instanceMethod yX3_findFile, Cond.selects RX3 yX3_findFile yX3_findFile, Cond.initialized RX3, Cond.code yX3_findFile cX3_findFile 3 (some .int), Cond.fieldLink RX3 15 "ChainLoader$Files" "mounted" "LChainLoader$Volume;", Cond.methodLink RX3 65 yX3_find, Cond.instanceMethod yX3_find, Cond.selects RX3 yX3_find yX3_find, Cond.code yX3_find cX3_find 5 (some .int), Cond.fieldLink RX3 31 "ChainLoader$Volume" "root" "I", Cond.fieldLink RX3 37 "ChainLoader$Path" "count" "I", Cond.fieldLink RX3 24 "ChainLoader$Files" "directory" "LChainLoader$Chain;", Cond.methodLink RX3 42 yX8_isDirectory, Cond.instanceMethod yX8_isDirectory, Cond.selects RX8 yX8_isDirectory yX8_isDirectory, Cond.initialized RX8, Cond.code yX8_isDirectory cX8_isDirectory 2 (some .boolean), Cond.fieldLink RX8 9 "ChainLoader$Volume" "disk" "LChainLoader$Bytes;", Cond.methodLink RX8 31 yX0_byteAt, Cond.instanceMethod yX0_byteAt, Cond.selects RX0 yX0_byteAt yX0_byteAt]
def wsX9_load_r3 : List Cond := [Cond.initialized RX0, Cond.code yX0_byteAt cX0_byteAt 2 (some .int), Cond.fieldLink RX0 9 "ChainLoader$Bytes" "cells" "[B", Cond.methodLink RX3 46 yX8_firstClusterOf, Cond.instanceMethod yX8_firstClusterOf, Cond.selects RX8 yX8_firstClusterOf yX8_firstClusterOf, Cond.code yX8_firstClusterOf cX8_firstClusterOf 2 (some .int), Cond.methodLink RX3 50 yX2_trace, Cond.instanceMethod yX2_trace, Cond.selects RX2 yX2_trace yX2_trace, Cond.initialized RX2, Cond.code yX2_trace cX2_trace 3 (some .boolean), Cond.fieldLink RX2 23 "ChainLoader$Chain" "count" "I", Cond.fieldLink RX2 27 "ChainLoader$Chain" "nextSlot" "I", Cond.fieldLink RX2 15 "ChainLoader$Chain" "mounted" "LChainLoader$Volume;", Cond.fieldLink RX2 30 "ChainLoader$Volume" "clusters" "I", Cond.fieldLink RX2 19 "ChainLoader$Chain" "places" "[I", Cond.methodLink RX2 35 yX8_isCluster, Cond.instanceMethod yX8_isCluster, Cond.selects RX8 yX8_isCluster yX8_isCluster, Cond.code yX8_isCluster cX8_isCluster 2 (some .boolean), Cond.fieldLink RX8 40 "ChainLoader$Volume" "clusters" "I", Cond.methodLink RX2 39 yX8_placeOfCluster, Cond.instanceMethod yX8_placeOfCluster]
def wsX9_load_r4 : List Cond := [Cond.selects RX8 yX8_placeOfCluster yX8_placeOfCluster, Cond.code yX8_placeOfCluster cX8_placeOfCluster 2 (some .int), Cond.fieldLink RX8 61 "ChainLoader$Volume" "clustersPlace" "I", Cond.fieldLink RX8 52 "ChainLoader$Volume" "clusterBytes" "I", Cond.methodLink RX2 43 yX8_behind, Cond.instanceMethod yX8_behind, Cond.selects RX8 yX8_behind yX8_behind, Cond.code yX8_behind cX8_behind 4 (some .int), Cond.fieldLink RX8 58 "ChainLoader$Volume" "tablesPlace" "I", Cond.fieldLink RX8 46 "ChainLoader$Volume" "tables" "I", Cond.fieldLink RX8 55 "ChainLoader$Volume" "tableBytes" "I", Cond.methodLink RX8 67 yX0_wordAt, Cond.instanceMethod yX0_wordAt, Cond.selects RX0 yX0_wordAt yX0_wordAt, Cond.code yX0_wordAt cX0_wordAt 2 (some .int), Cond.methodLink RX8 64 yX8_isCluster, Cond.methodLink RX8 70 yX8_isEnd, Cond.instanceMethod yX8_isEnd, Cond.selects RX8 yX8_isEnd yX8_isEnd, Cond.code yX8_isEnd cX8_isEnd 2 (some .boolean), Cond.methodLink RX2 46 yX8_isEnd, Cond.methodLink RX3 53 yX3_findName, Cond.instanceMethod yX3_findName, Cond.selects RX3 yX3_findName yX3_findName]
def wsX9_load_r5 : List Cond := [Cond.code yX3_findName cX3_findName 5 (some .int), Cond.fieldLink RX3 9 "ChainLoader$Files" "disk" "LChainLoader$Bytes;", Cond.methodLink RX3 57 yX2_nextEntry, Cond.instanceMethod yX2_nextEntry, Cond.selects RX2 yX2_nextEntry yX2_nextEntry, Cond.code yX2_nextEntry cX2_nextEntry 4 (some .int), Cond.fieldLink RX2 11 "ChainLoader$Chain" "disk" "LChainLoader$Bytes;", Cond.methodLink RX2 61 yX2_bytes, Cond.instanceMethod yX2_bytes, Cond.selects RX2 yX2_bytes yX2_bytes, Cond.code yX2_bytes cX2_bytes 1 (some .int), Cond.fieldLink RX2 49 "ChainLoader$Volume" "clusterBytes" "I", Cond.methodLink RX2 52 yX2_placeOf, Cond.instanceMethod yX2_placeOf, Cond.selects RX2 yX2_placeOf yX2_placeOf, Cond.code yX2_placeOf cX2_placeOf 3 (some .int), Cond.methodLink RX2 55 yX0_byteAt, Cond.methodLink RX3 61 yX5_isNameAt, Cond.instanceMethod yX5_isNameAt, Cond.selects RX5 yX5_isNameAt yX5_isNameAt, Cond.code yX5_isNameAt cX5_isNameAt 5 (some .boolean), Cond.methodLink RX5 27 yX0_byteAt, Cond.methodLink RX9 96 yX3_open, Cond.instanceMethod yX3_open]
def wsX9_load_r6 : List Cond := [Cond.selects RX3 yX3_open yX3_open, Cond.code yX3_open cX3_open 4 (some .int), Cond.fieldLink RX3 28 "ChainLoader$Files" "content" "LChainLoader$Chain;", Cond.methodLink RX3 69 yX8_sizeOf, Cond.instanceMethod yX8_sizeOf, Cond.selects RX8 yX8_sizeOf yX8_sizeOf, Cond.code yX8_sizeOf cX8_sizeOf 2 (some .int), Cond.methodLink RX3 72 yX2_bytes, Cond.methodLink RX9 173 yX4_takeHeader, Cond.instanceMethod yX4_takeHeader, Cond.selects RX4 yX4_takeHeader yX4_takeHeader, Cond.initialized RX4, Cond.code yX4_takeHeader cX4_takeHeader 4 (some .boolean), Cond.fieldLink RX4 21 "ChainLoader$Kernel" "flags" "I", Cond.fieldLink RX4 25 "ChainLoader$Kernel" "address" "I", Cond.fieldLink RX4 28 "ChainLoader$Kernel" "start" "I", Cond.constant RX4 31 (464367618), Cond.methodLink RX4 9 yX4_findHeader, Cond.instanceMethod yX4_findHeader, Cond.selects RX4 yX4_findHeader yX4_findHeader, Cond.code yX4_findHeader cX4_findHeader 4 (some .int), Cond.methodLink RX4 15 yX2_intAt, Cond.instanceMethod yX2_intAt, Cond.selects RX2 yX2_intAt yX2_intAt]
def wsX9_load_r7 : List Cond := [Cond.code yX2_intAt cX2_intAt 2 (some .int), Cond.methodLink RX2 60 yX2_byteAt, Cond.instanceMethod yX2_byteAt, Cond.selects RX2 yX2_byteAt yX2_byteAt, Cond.code yX2_byteAt cX2_byteAt 2 (some .int), Cond.methodLink RX9 176 yX4_fits, Cond.instanceMethod yX4_fits, Cond.selects RX4 yX4_fits yX4_fits, Cond.code yX4_fits cX4_fits 2 (some .boolean), Cond.methodLink RX9 179 yX0_clear, Cond.instanceMethod yX0_clear, Cond.selects RX0 yX0_clear yX0_clear, Cond.code yX0_clear cX0_clear 1 none, Cond.methodLink RX0 15 yJ7_fill_031fb, Cond.static yJ7_fill_031fb, Cond.code yJ7_fill_031fb cJ7_fill_031fb 4 none, Cond.methodLink RX9 182 yX9_copyKernel, Cond.instanceMethod yX9_copyKernel, Cond.selects RX9 yX9_copyKernel yX9_copyKernel, Cond.initialized RX9, Cond.code yX9_copyKernel cX9_copyKernel 3 none, Cond.fieldLink RX9 194 "ChainLoader$Kernel" "address" "I", Cond.methodLink RX9 103 yX2_byteAt, Cond.methodLink RX9 78 yX0_put]
def wsX9_load_r8 : List Cond := [Cond.instanceMethod yX0_put, Cond.selects RX0 yX0_put yX0_put, Cond.code yX0_put cX0_put 6 (some .boolean), Cond.methodLink RX9 185 yX9_writeInformation, Cond.instanceMethod yX9_writeInformation, Cond.selects RX9 yX9_writeInformation yX9_writeInformation, Cond.code yX9_writeInformation cX9_writeInformation 5 none, Cond.fieldLink RX9 201 "ChainLoader$Settings" "arguments" "LChainLoader$Value;", Cond.constantLong RX9 204 (732803074), Cond.fieldLink RX9 26 "ChainLoader" "mounted" "LChainLoader$Volume;", Cond.fieldLink RX9 206 "ChainLoader$Volume" "record" "I", Cond.constant RX9 209 (732803074), Cond.methodLink RX9 197 yX4_wantsMemoryBytes, Cond.instanceMethod yX4_wantsMemoryBytes, Cond.selects RX4 yX4_wantsMemoryBytes yX4_wantsMemoryBytes, Cond.code yX4_wantsMemoryBytes cX4_wantsMemoryBytes 1 (some .boolean), Cond.methodLink RX9 188 yX9_copyArguments, Cond.instanceMethod yX9_copyArguments, Cond.selects RX9 yX9_copyArguments yX9_copyArguments, Cond.code yX9_copyArguments cX9_copyArguments 3 none]
def wsX9_load : List Cond := .code yX9_load cX9_load 4 (some .int) :: ((wsX9_load_r1 ++ (wsX9_load_r2 ++ (wsX9_load_r3 ++ (wsX9_load_r4 ++ (wsX9_load_r5 ++ (wsX9_load_r6 ++ (wsX9_load_r7 ++ wsX9_load_r8))))))) ++ wsX90 ++ wsX60 ++ wsX70 ++ wsX30 ++ wsX40 ++ wsX50 ++ wsX80 ++ wsX00 ++ wsX20)
def wsX9_boot_r1 : List Cond := [Cond.fieldLink RX9 26 "ChainLoader" "mounted" "LChainLoader$Volume;", Cond.fieldLink RX9 56 "ChainLoader" "settings" "LChainLoader$Settings;", Cond.fieldLink RX9 119 "ChainLoader$Settings" "kernelPath" "LChainLoader$Value;", Cond.fieldLink RX9 127 "ChainLoader$Settings" "otherPath" "LChainLoader$Value;", Cond.fieldLink RX9 130 "ChainLoader$Value" "given" "Z", Cond.methodLink RX9 86 yX8_mount, Cond.instanceMethod yX8_mount, Cond.selects RX8 yX8_mount yX8_mount, Cond.initialized RX8, Cond.code yX8_mount cX8_mount 2 (some .int), Cond.fieldLink RX8 23 "ChainLoader$Volume" "record" "I", Cond.fieldLink RX8 9 "ChainLoader$Volume" "disk" "LChainLoader$Bytes;", Cond.fieldLink RX8 40 "ChainLoader$Volume" "clusters" "I", Cond.methodLink RX8 15 yX8_isSigned, Cond.instanceMethod yX8_isSigned, Cond.selects RX8 yX8_isSigned yX8_isSigned, Cond.code yX8_isSigned cX8_isSigned 2 (some .boolean), Cond.methodLink RX8 31 yX0_byteAt, Cond.instanceMethod yX0_byteAt, Cond.selects RX0 yX0_byteAt yX0_byteAt, Cond.initialized RX0, Cond.code yX0_byteAt cX0_byteAt 2 (some .int), Cond.fieldLink RX0 9 "ChainLoader$Bytes" "cells" "[B", Cond.methodLink RX8 19 yX8_choosePartition]
def wsX9_boot_r2 : List Cond := [Cond.instanceMethod yX8_choosePartition, Cond.selects RX8 yX8_choosePartition yX8_choosePartition, Cond.code yX8_choosePartition cX8_choosePartition 3 (some .int), Cond.methodLink RX8 43 yX8_isUsable, Cond.instanceMethod yX8_isUsable, Cond.selects RX8 yX8_isUsable yX8_isUsable, Cond.code yX8_isUsable cX8_isUsable 5 (some .boolean), Cond.methodLink RX8 27 yX8_placeOfRecord, Cond.instanceMethod yX8_placeOfRecord, Cond.selects RX8 yX8_placeOfRecord yX8_placeOfRecord, Cond.code yX8_placeOfRecord cX8_placeOfRecord 2 (some .int), Cond.methodLink RX8 36 yX8_takeGeometry, Cond.instanceMethod yX8_takeGeometry, Cond.selects RX8 yX8_takeGeometry yX8_takeGeometry, Cond.code yX8_takeGeometry cX8_takeGeometry 7 (some .boolean), Cond.fieldLink RX8 46 "ChainLoader$Volume" "tables" "I", Cond.fieldLink RX8 49 "ChainLoader$Volume" "root" "I", Cond.fieldLink RX8 52 "ChainLoader$Volume" "clusterBytes" "I", Cond.fieldLink RX8 55 "ChainLoader$Volume" "tableBytes" "I", Cond.fieldLink RX8 58 "ChainLoader$Volume" "tablesPlace" "I", Cond.fieldLink RX8 61 "ChainLoader$Volume" "clustersPlace" "I", Cond.methodLink RX8 64 yX8_isCluster, Cond.instanceMethod yX8_isCluster, Cond.selects RX8 yX8_isCluster yX8_isCluster]
def wsX9_boot_r3 : List Cond := [Cond.code yX8_isCluster cX8_isCluster 2 (some .boolean), Cond.methodLink RX9 116 yX9_takeSettings, Cond.instanceMethod yX9_takeSettings, Cond.selects RX9 yX9_takeSettings yX9_takeSettings, Cond.initialized RX9, Cond.code yX9_takeSettings cX9_takeSettings 3 (some .int), Cond.fieldLink RX9 33 "ChainLoader" "path" "LChainLoader$Path;", Cond.fieldLink RX9 157 "ChainLoader" "SETTINGS_NAME" "[I", Cond.fieldLink RX9 42 "ChainLoader" "files" "LChainLoader$Files;", Cond.fieldLink RX9 99 "ChainLoader$Files" "content" "LChainLoader$Chain;", Cond.methodLink RX9 136 yX5_parse, Cond.instanceMethod yX5_parse, Cond.selects RX5 yX5_parse yX5_parse, Cond.initialized RX5, Cond.code yX5_parse cX5_parse 7 (some .boolean), Cond.fieldLink RX5 9 "ChainLoader$Path" "letters" "[I", Cond.fieldLink RX5 23 "ChainLoader$Path" "count" "I", Cond.methodLink RX5 13 yJ7_fill_53178, Cond.static yJ7_fill_53178, Cond.initialized RJ7, Cond.code yJ7_fill_53178 cJ7_fill_53178 4 none, Cond.methodLink RX5 19 yX5_isLetter, Cond.instanceMethod yX5_isLetter, Cond.selects RX5 yX5_isLetter yX5_isLetter]
def wsX9_boot_r4 : List Cond := [Cond.code yX5_isLetter cX5_isLetter 2 (some .boolean), Cond.methodLink RX9 140 yX3_findFile, Cond.instanceMethod yX3_findFile, Cond.selects RX3 yX3_findFile yX3_findFile, Cond.initialized RX3, Cond.code yX3_findFile cX3_findFile 3 (some .int), Cond.fieldLink RX3 15 "ChainLoader$Files" "mounted" "LChainLoader$Volume;", Cond.methodLink RX3 65 yX3_find, Cond.instanceMethod yX3_find, Cond.selects RX3 yX3_find yX3_find, Cond.code yX3_find cX3_find 5 (some .int), Cond.fieldLink RX3 31 "ChainLoader$Volume" "root" "I", Cond.fieldLink RX3 37 "ChainLoader$Path" "count" "I", Cond.fieldLink RX3 24 "ChainLoader$Files" "directory" "LChainLoader$Chain;", Cond.methodLink RX3 42 yX8_isDirectory, Cond.instanceMethod yX8_isDirectory, Cond.selects RX8 yX8_isDirectory yX8_isDirectory, Cond.code yX8_isDirectory cX8_isDirectory 2 (some .boolean), Cond.methodLink RX3 46 yX8_firstClusterOf, Cond.instanceMethod yX8_firstClusterOf, Cond.selects RX8 yX8_firstClusterOf yX8_firstClusterOf, Cond.code yX8_firstClusterOf cX8_firstClusterOf 2 (some .int), Cond.methodLink RX3 50 yX2_trace, Cond.instanceMethod yX2_trace]
def wsX9_boot_r5 : List Cond := [Cond.selects RX2 yX2_trace yX2_trace, Cond.initialized RX2, Cond.code yX2_trace cX2_trace 3 (some .boolean), Cond.fieldLink RX2 23 "ChainLoader$Chain" "count" "I", Cond.fieldLink RX2 27 "ChainLoader$Chain" "nextSlot" "I", Cond.fieldLink RX2 15 "ChainLoader$Chain" "mounted" "LChainLoader$Volume;", Cond.fieldLink RX2 30 "ChainLoader$Volume" "clusters" "I", Cond.fieldLink RX2 19 "ChainLoader$Chain" "places" "[I", Cond.methodLink RX2 35 yX8_isCluster, Cond.methodLink RX2 39 yX8_placeOfCluster, Cond.instanceMethod yX8_placeOfCluster, Cond.selects RX8 yX8_placeOfCluster yX8_placeOfCluster, Cond.code yX8_placeOfCluster cX8_placeOfCluster 2 (some .int), Cond.methodLink RX2 43 yX8_behind, Cond.instanceMethod yX8_behind, Cond.selects RX8 yX8_behind yX8_behind, Cond.code yX8_behind cX8_behind 4 (some .int), Cond.methodLink RX8 67 yX0_wordAt, Cond.instanceMethod yX0_wordAt, Cond.selects RX0 yX0_wordAt yX0_wordAt, Cond.code yX0_wordAt cX0_wordAt 2 (some .int), Cond.methodLink RX8 70 yX8_isEnd, Cond.instanceMethod yX8_isEnd, Cond.selects RX8 yX8_isEnd yX8_isEnd]
def wsX9_boot_r6 : List Cond := [Cond.code yX8_isEnd cX8_isEnd 2 (some .boolean), Cond.methodLink RX2 46 yX8_isEnd, Cond.methodLink RX3 53 yX3_findName, Cond.instanceMethod yX3_findName, Cond.selects RX3 yX3_findName yX3_findName, Cond.code yX3_findName cX3_findName 5 (some .int), Cond.fieldLink RX3 9 "ChainLoader$Files" "disk" "LChainLoader$Bytes;", Cond.methodLink RX3 57 yX2_nextEntry, Cond.instanceMethod yX2_nextEntry, Cond.selects RX2 yX2_nextEntry yX2_nextEntry, Cond.code yX2_nextEntry cX2_nextEntry 4 (some .int), Cond.fieldLink RX2 11 "ChainLoader$Chain" "disk" "LChainLoader$Bytes;", Cond.methodLink RX2 61 yX2_bytes, Cond.instanceMethod yX2_bytes, Cond.selects RX2 yX2_bytes yX2_bytes, Cond.code yX2_bytes cX2_bytes 1 (some .int), Cond.fieldLink RX2 49 "ChainLoader$Volume" "clusterBytes" "I", Cond.methodLink RX2 52 yX2_placeOf, Cond.instanceMethod yX2_placeOf, Cond.selects RX2 yX2_placeOf yX2_placeOf, Cond.code yX2_placeOf cX2_placeOf 3 (some .int), Cond.methodLink RX2 55 yX0_byteAt, Cond.methodLink RX3 61 yX5_isNameAt, Cond.instanceMethod yX5_isNameAt]
def wsX9_boot_r7 : List Cond := [Cond.selects RX5 yX5_isNameAt yX5_isNameAt, Cond.code yX5_isNameAt cX5_isNameAt 5 (some .boolean), Cond.methodLink RX5 27 yX0_byteAt, Cond.methodLink RX9 96 yX3_open, Cond.instanceMethod yX3_open, Cond.selects RX3 yX3_open yX3_open, Cond.code yX3_open cX3_open 4 (some .int), Cond.fieldLink RX3 28 "ChainLoader$Files" "content" "LChainLoader$Chain;", Cond.methodLink RX3 69 yX8_sizeOf, Cond.instanceMethod yX8_sizeOf, Cond.selects RX8 yX8_sizeOf yX8_sizeOf, Cond.code yX8_sizeOf cX8_sizeOf 2 (some .int), Cond.methodLink RX3 72 yX2_bytes, Cond.methodLink RX9 160 yX6_take, Cond.instanceMethod yX6_take, Cond.selects RX6 yX6_take yX6_take, Cond.initialized RX6, Cond.code yX6_take cX6_take 5 (some .boolean), Cond.fieldLink RX6 16 "ChainLoader$Settings" "kernelPath" "LChainLoader$Value;", Cond.fieldLink RX6 20 "ChainLoader$Settings" "otherPath" "LChainLoader$Value;", Cond.fieldLink RX6 23 "ChainLoader$Settings" "arguments" "LChainLoader$Value;", Cond.fieldLink RX6 9 "ChainLoader$Settings" "text" "[I", Cond.fieldLink RX6 39 "ChainLoader$Value" "given" "Z", Cond.methodLink RX6 26 yX7_forget]
def wsX9_boot_r8 : List Cond := [Cond.instanceMethod yX7_forget, Cond.selects RX7 yX7_forget yX7_forget, Cond.initialized RX7, Cond.code yX7_forget cX7_forget 1 none, Cond.fieldLink RX7 7 "ChainLoader$Value" "given" "Z", Cond.fieldLink RX7 13 "ChainLoader$Value" "from" "I", Cond.fieldLink RX7 17 "ChainLoader$Value" "to" "I", Cond.methodLink RX6 29 yX2_byteAt, Cond.instanceMethod yX2_byteAt, Cond.selects RX2 yX2_byteAt yX2_byteAt, Cond.code yX2_byteAt cX2_byteAt 2 (some .int), Cond.methodLink RX6 35 yX6_takeLine, Cond.instanceMethod yX6_takeLine, Cond.selects RX6 yX6_takeLine yX6_takeLine, Cond.code yX6_takeLine cX6_takeLine 3 (some .boolean), Cond.methodLink RX6 43 yX7_set, Cond.instanceMethod yX7_set, Cond.selects RX7 yX7_set yX7_set, Cond.code yX7_set cX7_set 3 none, Cond.methodLink RX9 123 yX9_load, Cond.instanceMethod yX9_load, Cond.selects RX9 yX9_load yX9_load, Cond.code yX9_load cX9_load 4 (some .int), Cond.fieldLink RX9 164 "ChainLoader$Settings" "text" "[I"]
def wsX9_boot_r9 : List Cond := [Cond.fieldLink RX9 167 "ChainLoader$Value" "from" "I", Cond.fieldLink RX9 170 "ChainLoader$Value" "to" "I", Cond.fieldLink RX9 63 "ChainLoader" "kernel" "LChainLoader$Kernel;", Cond.fieldLink RX9 18 "ChainLoader" "ram" "LChainLoader$Bytes;", Cond.fieldLink RX9 191 "ChainLoader$Kernel" "start" "I", Cond.fieldLink RX9 75 "ChainLoader" "loadedEntry" "I", Cond.methodLink RX9 173 yX4_takeHeader, Cond.instanceMethod yX4_takeHeader, Cond.selects RX4 yX4_takeHeader yX4_takeHeader, Cond.initialized RX4, Cond.code yX4_takeHeader cX4_takeHeader 4 (some .boolean), Cond.fieldLink RX4 21 "ChainLoader$Kernel" "flags" "I", Cond.fieldLink RX4 25 "ChainLoader$Kernel" "address" "I", Cond.fieldLink RX4 28 "ChainLoader$Kernel" "start" "I", Cond.constant RX4 31 (464367618), Cond.methodLink RX4 9 yX4_findHeader, Cond.instanceMethod yX4_findHeader, Cond.selects RX4 yX4_findHeader yX4_findHeader, Cond.code yX4_findHeader cX4_findHeader 4 (some .int), Cond.methodLink RX4 15 yX2_intAt, Cond.instanceMethod yX2_intAt, Cond.selects RX2 yX2_intAt yX2_intAt, Cond.code yX2_intAt cX2_intAt 2 (some .int), Cond.methodLink RX2 60 yX2_byteAt]
def wsX9_boot_r10 : List Cond := [Cond.methodLink RX9 176 yX4_fits, Cond.instanceMethod yX4_fits, Cond.selects RX4 yX4_fits yX4_fits, Cond.code yX4_fits cX4_fits 2 (some .boolean), Cond.methodLink RX9 179 yX0_clear, Cond.instanceMethod yX0_clear, Cond.selects RX0 yX0_clear yX0_clear, Cond.code yX0_clear cX0_clear 1 none, Cond.methodLink RX0 15 yJ7_fill_031fb, Cond.static yJ7_fill_031fb, Cond.code yJ7_fill_031fb cJ7_fill_031fb 4 none, Cond.methodLink RX9 182 yX9_copyKernel, Cond.instanceMethod yX9_copyKernel, Cond.selects RX9 yX9_copyKernel yX9_copyKernel, Cond.code yX9_copyKernel cX9_copyKernel 3 none, Cond.fieldLink RX9 194 "ChainLoader$Kernel" "address" "I", Cond.methodLink RX9 103 yX2_byteAt, Cond.methodLink RX9 78 yX0_put, Cond.instanceMethod yX0_put, Cond.selects RX0 yX0_put yX0_put, Cond.code yX0_put cX0_put 6 (some .boolean), Cond.methodLink RX9 185 yX9_writeInformation, Cond.instanceMethod yX9_writeInformation, Cond.selects RX9 yX9_writeInformation yX9_writeInformation]
def wsX9_boot_r11 : List Cond := [Cond.code yX9_writeInformation cX9_writeInformation 5 none, Cond.fieldLink RX9 201 "ChainLoader$Settings" "arguments" "LChainLoader$Value;", Cond.constantLong RX9 204 (732803074), Cond.fieldLink RX9 206 "ChainLoader$Volume" "record" "I", Cond.constant RX9 209 (732803074), Cond.methodLink RX9 197 yX4_wantsMemoryBytes, Cond.instanceMethod yX4_wantsMemoryBytes, Cond.selects RX4 yX4_wantsMemoryBytes yX4_wantsMemoryBytes, Cond.code yX4_wantsMemoryBytes cX4_wantsMemoryBytes 1 (some .boolean), Cond.methodLink RX9 188 yX9_copyArguments, Cond.instanceMethod yX9_copyArguments, Cond.selects RX9 yX9_copyArguments yX9_copyArguments, Cond.code yX9_copyArguments cX9_copyArguments 3 none]
def wsX9_boot : List Cond := .code yX9_boot cX9_boot 4 (some .int) :: ((wsX9_boot_r1 ++ (wsX9_boot_r2 ++ (wsX9_boot_r3 ++ (wsX9_boot_r4 ++ (wsX9_boot_r5 ++ (wsX9_boot_r6 ++ (wsX9_boot_r7 ++ (wsX9_boot_r8 ++ (wsX9_boot_r9 ++ (wsX9_boot_r10 ++ wsX9_boot_r11)))))))))) ++ wsX90 ++ wsX60 ++ wsX70 ++ wsX80 ++ wsX00 ++ wsX30 ++ wsX50 ++ wsX20 ++ wsX40)
def wsX9_memory : List Cond := .code yX9_memory cX9_memory 2 (some .int) :: ([.fieldLink RX9 18 "ChainLoader" "ram" "LChainLoader$Bytes;", .methodLink RX9 82 yX0_byteAt, .instanceMethod yX0_byteAt, .selects RX0 yX0_byteAt yX0_byteAt, .initialized RX0, .code yX0_byteAt cX0_byteAt 2 (some .int), .fieldLink RX0 9 "ChainLoader$Bytes" "cells" "[B"] ++ wsX90 ++ wsX00)
def wsX9_entry : List Cond := .code yX9_entry cX9_entry 1 (some .int) :: ([.fieldLink RX9 75 "ChainLoader" "loadedEntry" "I"] ++ wsX90)
def wsX10_init : List Cond := .code yX10_init cX10_init 1 none :: ([.methodLink RX10 1 objectInit, .instanceMethod objectInit, .code objectInit ⟨#[0xb1]⟩ 1 none, .arrayClass .int, .fieldLink RX10 7 "ChainLoaderModel" "disk" "[I", .fieldLink RX10 13 "ChainLoaderModel" "ram" "[I", .fieldLink RX10 16 "ChainLoaderModel" "start" "I", .fieldLink RX10 20 "ChainLoaderModel" "text" "[I", .fieldLink RX10 23 "ChainLoaderModel" "path" "[I", .fieldLink RX10 26 "ChainLoaderModel" "names" "[I", .fieldLink RX10 29 "ChainLoaderModel" "kernel" "[I", .fieldLink RX10 32 "ChainLoaderModel" "other" "[I", .fieldLink RX10 35 "ChainLoaderModel" "arguments" "[I", .fieldLink RX10 38 "ChainLoaderModel" "openAt" "[I", .fieldLink RX10 41 "ChainLoaderModel" "openLength" "[I", .fieldLink RX10 44 "ChainLoaderModel" "openNext" "[I"] ++ wsX100)
def wsX10_poke : List Cond := .code yX10_poke cX10_poke 6 (some .boolean) :: ([.fieldLink RX10 7 "ChainLoaderModel" "disk" "[I"] ++ wsX100)
def wsX10_peek : List Cond := .code yX10_peek cX10_peek 2 (some .int) :: ([.fieldLink RX10 7 "ChainLoaderModel" "disk" "[I"] ++ wsX100)
def wsX10_word : List Cond := .code yX10_word cX10_word 2 (some .int) :: ([.fieldLink RX10 7 "ChainLoaderModel" "disk" "[I"] ++ wsX100)
def wsX10_four : List Cond := .code yX10_four cX10_four 2 (some .int) :: ([.constant RX10 51 (65536), .methodLink RX10 47 yX10_word, .instanceMethod yX10_word, .selects RX10 yX10_word yX10_word, .initialized RX10, .code yX10_word cX10_word 2 (some .int), .fieldLink RX10 7 "ChainLoaderModel" "disk" "[I"] ++ wsX100)
def wsX10_isUsable : List Cond := .code yX10_isUsable cX10_isUsable 3 (some .boolean) :: ([.fieldLink RX10 7 "ChainLoaderModel" "disk" "[I"] ++ wsX100)
def wsX10_choose : List Cond := .code yX10_choose cX10_choose 2 (some .int) :: ([.fieldLink RX10 7 "ChainLoaderModel" "disk" "[I", .methodLink RX10 52 yX10_isUsable, .instanceMethod yX10_isUsable, .selects RX10 yX10_isUsable yX10_isUsable, .initialized RX10, .code yX10_isUsable cX10_isUsable 3 (some .boolean)] ++ wsX100)
def wsX10_volume : List Cond := .code yX10_volume cX10_volume 7 (some .int) :: ([.fieldLink RX10 7 "ChainLoaderModel" "disk" "[I", .fieldLink RX10 60 "ChainLoaderModel" "record" "I", .fieldLink RX10 63 "ChainLoaderModel" "clusterSectors" "I", .fieldLink RX10 66 "ChainLoaderModel" "tables" "I", .fieldLink RX10 69 "ChainLoaderModel" "tableSectors" "I", .fieldLink RX10 72 "ChainLoaderModel" "root" "I", .fieldLink RX10 75 "ChainLoaderModel" "clusters" "I", .fieldLink RX10 78 "ChainLoaderModel" "tablesAt" "I", .fieldLink RX10 81 "ChainLoaderModel" "clustersAt" "I", .methodLink RX10 56 yX10_choose, .instanceMethod yX10_choose, .selects RX10 yX10_choose yX10_choose, .initialized RX10, .code yX10_choose cX10_choose 2 (some .int), .methodLink RX10 52 yX10_isUsable, .instanceMethod yX10_isUsable, .selects RX10 yX10_isUsable yX10_isUsable, .code yX10_isUsable cX10_isUsable 3 (some .boolean)] ++ wsX100)
def wsX10_isCluster : List Cond := .code yX10_isCluster cX10_isCluster 2 (some .boolean) :: ([.fieldLink RX10 75 "ChainLoaderModel" "clusters" "I"] ++ wsX100)
def wsX10_behind : List Cond := .code yX10_behind cX10_behind 3 (some .int) :: ([.fieldLink RX10 78 "ChainLoaderModel" "tablesAt" "I", .fieldLink RX10 66 "ChainLoaderModel" "tables" "I", .fieldLink RX10 69 "ChainLoaderModel" "tableSectors" "I", .methodLink RX10 47 yX10_word, .instanceMethod yX10_word, .selects RX10 yX10_word yX10_word, .initialized RX10, .code yX10_word cX10_word 2 (some .int), .fieldLink RX10 7 "ChainLoaderModel" "disk" "[I", .methodLink RX10 84 yX10_isCluster, .instanceMethod yX10_isCluster, .selects RX10 yX10_isCluster yX10_isCluster, .code yX10_isCluster cX10_isCluster 2 (some .boolean), .fieldLink RX10 75 "ChainLoaderModel" "clusters" "I"] ++ wsX100)
def wsX10_chain : List Cond := .code yX10_chain cX10_chain 4 (some .int) :: ([.fieldLink RX10 75 "ChainLoaderModel" "clusters" "I", .methodLink RX10 84 yX10_isCluster, .instanceMethod yX10_isCluster, .selects RX10 yX10_isCluster yX10_isCluster, .initialized RX10, .code yX10_isCluster cX10_isCluster 2 (some .boolean), .methodLink RX10 87 yX10_behind, .instanceMethod yX10_behind, .selects RX10 yX10_behind yX10_behind, .code yX10_behind cX10_behind 3 (some .int), .fieldLink RX10 78 "ChainLoaderModel" "tablesAt" "I", .fieldLink RX10 66 "ChainLoaderModel" "tables" "I", .fieldLink RX10 69 "ChainLoaderModel" "tableSectors" "I", .methodLink RX10 47 yX10_word, .instanceMethod yX10_word, .selects RX10 yX10_word yX10_word, .code yX10_word cX10_word 2 (some .int), .fieldLink RX10 7 "ChainLoaderModel" "disk" "[I"] ++ wsX100)
def wsX10_place : List Cond := .code yX10_place cX10_place 6 (some .int) :: ([.fieldLink RX10 63 "ChainLoaderModel" "clusterSectors" "I", .fieldLink RX10 81 "ChainLoaderModel" "clustersAt" "I", .methodLink RX10 87 yX10_behind, .instanceMethod yX10_behind, .selects RX10 yX10_behind yX10_behind, .initialized RX10, .code yX10_behind cX10_behind 3 (some .int), .fieldLink RX10 78 "ChainLoaderModel" "tablesAt" "I", .fieldLink RX10 66 "ChainLoaderModel" "tables" "I", .fieldLink RX10 69 "ChainLoaderModel" "tableSectors" "I", .methodLink RX10 47 yX10_word, .instanceMethod yX10_word, .selects RX10 yX10_word yX10_word, .code yX10_word cX10_word 2 (some .int), .fieldLink RX10 7 "ChainLoaderModel" "disk" "[I", .methodLink RX10 84 yX10_isCluster, .instanceMethod yX10_isCluster, .selects RX10 yX10_isCluster yX10_isCluster, .code yX10_isCluster cX10_isCluster 2 (some .boolean), .fieldLink RX10 75 "ChainLoaderModel" "clusters" "I"] ++ wsX100)
def wsX10_isPassed : List Cond := .code yX10_isPassed cX10_isPassed 2 (some .boolean) :: ([.fieldLink RX10 7 "ChainLoaderModel" "disk" "[I"] ++ wsX100)
def wsX10_isDirectory : List Cond := .code yX10_isDirectory cX10_isDirectory 2 (some .boolean) :: ([.fieldLink RX10 7 "ChainLoaderModel" "disk" "[I"] ++ wsX100)
def wsX10_sizeAt : List Cond := .code yX10_sizeAt cX10_sizeAt 2 (some .int) :: ([.methodLink RX10 47 yX10_word, .instanceMethod yX10_word, .selects RX10 yX10_word yX10_word, .initialized RX10, .code yX10_word cX10_word 2 (some .int), .fieldLink RX10 7 "ChainLoaderModel" "disk" "[I"] ++ wsX100)
def wsX10_nth : List Cond := .code yX10_nth cX10_nth 5 (some .int) :: ([.fieldLink RX10 63 "ChainLoaderModel" "clusterSectors" "I", .fieldLink RX10 7 "ChainLoaderModel" "disk" "[I", .methodLink RX10 90 yX10_place, .instanceMethod yX10_place, .selects RX10 yX10_place yX10_place, .initialized RX10, .code yX10_place cX10_place 6 (some .int), .fieldLink RX10 81 "ChainLoaderModel" "clustersAt" "I", .methodLink RX10 87 yX10_behind, .instanceMethod yX10_behind, .selects RX10 yX10_behind yX10_behind, .code yX10_behind cX10_behind 3 (some .int), .fieldLink RX10 78 "ChainLoaderModel" "tablesAt" "I", .fieldLink RX10 66 "ChainLoaderModel" "tables" "I", .fieldLink RX10 69 "ChainLoaderModel" "tableSectors" "I", .methodLink RX10 47 yX10_word, .instanceMethod yX10_word, .selects RX10 yX10_word yX10_word, .code yX10_word cX10_word 2 (some .int), .methodLink RX10 84 yX10_isCluster, .instanceMethod yX10_isCluster, .selects RX10 yX10_isCluster yX10_isCluster, .code yX10_isCluster cX10_isCluster 2 (some .boolean), .fieldLink RX10 75 "ChainLoaderModel" "clusters" "I"] ++ wsX100)
def wsX10_lookUp_r1 : List Cond := [Cond.methodLink RX10 94 yX10_chain, Cond.instanceMethod yX10_chain, Cond.selects RX10 yX10_chain yX10_chain, Cond.initialized RX10, Cond.code yX10_chain cX10_chain 4 (some .int), Cond.fieldLink RX10 75 "ChainLoaderModel" "clusters" "I", Cond.methodLink RX10 84 yX10_isCluster, Cond.instanceMethod yX10_isCluster, Cond.selects RX10 yX10_isCluster yX10_isCluster, Cond.code yX10_isCluster cX10_isCluster 2 (some .boolean), Cond.methodLink RX10 87 yX10_behind, Cond.instanceMethod yX10_behind, Cond.selects RX10 yX10_behind yX10_behind, Cond.code yX10_behind cX10_behind 3 (some .int), Cond.fieldLink RX10 78 "ChainLoaderModel" "tablesAt" "I", Cond.fieldLink RX10 66 "ChainLoaderModel" "tables" "I", Cond.fieldLink RX10 69 "ChainLoaderModel" "tableSectors" "I", Cond.methodLink RX10 47 yX10_word, Cond.instanceMethod yX10_word, Cond.selects RX10 yX10_word yX10_word, Cond.code yX10_word cX10_word 2 (some .int), Cond.fieldLink RX10 7 "ChainLoaderModel" "disk" "[I", Cond.methodLink RX10 97 yX10_nth, Cond.instanceMethod yX10_nth]
def wsX10_lookUp_r2 : List Cond := [Cond.selects RX10 yX10_nth yX10_nth, Cond.code yX10_nth cX10_nth 5 (some .int), Cond.fieldLink RX10 63 "ChainLoaderModel" "clusterSectors" "I", Cond.methodLink RX10 90 yX10_place, Cond.instanceMethod yX10_place, Cond.selects RX10 yX10_place yX10_place, Cond.code yX10_place cX10_place 6 (some .int), Cond.fieldLink RX10 81 "ChainLoaderModel" "clustersAt" "I", Cond.methodLink RX10 101 yX10_isPassed, Cond.instanceMethod yX10_isPassed, Cond.selects RX10 yX10_isPassed yX10_isPassed, Cond.code yX10_isPassed cX10_isPassed 2 (some .boolean), Cond.methodLink RX10 104 yX10_four, Cond.instanceMethod yX10_four, Cond.selects RX10 yX10_four yX10_four, Cond.code yX10_four cX10_four 2 (some .int), Cond.constant RX10 51 (65536)]
def wsX10_lookUp : List Cond := .code yX10_lookUp cX10_lookUp 6 (some .int) :: ((wsX10_lookUp_r1 ++ wsX10_lookUp_r2) ++ wsX100)
def wsX10_isLetter : List Cond := .code yX10_isLetter cX10_isLetter 2 (some .boolean) :: ([])
def wsX10_parse : List Cond := .code yX10_parse cX10_parse 6 (some .boolean) :: ([.fieldLink RX10 107 "ChainLoaderModel" "nameCount" "I", .fieldLink RX10 110 "ChainLoaderModel" "pathLength" "I", .fieldLink RX10 23 "ChainLoaderModel" "path" "[I", .fieldLink RX10 26 "ChainLoaderModel" "names" "[I", .methodLink RX10 113 yX10_isLetter, .instanceMethod yX10_isLetter, .selects RX10 yX10_isLetter yX10_isLetter, .initialized RX10, .code yX10_isLetter cX10_isLetter 2 (some .boolean)] ++ wsX100)
def wsX10_find_r1 : List Cond := [Cond.fieldLink RX10 72 "ChainLoaderModel" "root" "I", Cond.fieldLink RX10 107 "ChainLoaderModel" "nameCount" "I", Cond.fieldLink RX10 26 "ChainLoaderModel" "names" "[I", Cond.fieldLink RX10 7 "ChainLoaderModel" "disk" "[I", Cond.methodLink RX10 116 yX10_parse, Cond.instanceMethod yX10_parse, Cond.selects RX10 yX10_parse yX10_parse, Cond.initialized RX10, Cond.code yX10_parse cX10_parse 6 (some .boolean), Cond.fieldLink RX10 110 "ChainLoaderModel" "pathLength" "I", Cond.fieldLink RX10 23 "ChainLoaderModel" "path" "[I", Cond.methodLink RX10 113 yX10_isLetter, Cond.instanceMethod yX10_isLetter, Cond.selects RX10 yX10_isLetter yX10_isLetter, Cond.code yX10_isLetter cX10_isLetter 2 (some .boolean), Cond.methodLink RX10 120 yX10_lookUp, Cond.instanceMethod yX10_lookUp, Cond.selects RX10 yX10_lookUp yX10_lookUp, Cond.code yX10_lookUp cX10_lookUp 6 (some .int), Cond.methodLink RX10 94 yX10_chain, Cond.instanceMethod yX10_chain, Cond.selects RX10 yX10_chain yX10_chain, Cond.code yX10_chain cX10_chain 4 (some .int), Cond.fieldLink RX10 75 "ChainLoaderModel" "clusters" "I"]
def wsX10_find_r2 : List Cond := [Cond.methodLink RX10 84 yX10_isCluster, Cond.instanceMethod yX10_isCluster, Cond.selects RX10 yX10_isCluster yX10_isCluster, Cond.code yX10_isCluster cX10_isCluster 2 (some .boolean), Cond.methodLink RX10 87 yX10_behind, Cond.instanceMethod yX10_behind, Cond.selects RX10 yX10_behind yX10_behind, Cond.code yX10_behind cX10_behind 3 (some .int), Cond.fieldLink RX10 78 "ChainLoaderModel" "tablesAt" "I", Cond.fieldLink RX10 66 "ChainLoaderModel" "tables" "I", Cond.fieldLink RX10 69 "ChainLoaderModel" "tableSectors" "I", Cond.methodLink RX10 47 yX10_word, Cond.instanceMethod yX10_word, Cond.selects RX10 yX10_word yX10_word, Cond.code yX10_word cX10_word 2 (some .int), Cond.methodLink RX10 97 yX10_nth, Cond.instanceMethod yX10_nth, Cond.selects RX10 yX10_nth yX10_nth, Cond.code yX10_nth cX10_nth 5 (some .int), Cond.fieldLink RX10 63 "ChainLoaderModel" "clusterSectors" "I", Cond.methodLink RX10 90 yX10_place, Cond.instanceMethod yX10_place, Cond.selects RX10 yX10_place yX10_place, Cond.code yX10_place cX10_place 6 (some .int)]
def wsX10_find_r3 : List Cond := [Cond.fieldLink RX10 81 "ChainLoaderModel" "clustersAt" "I", Cond.methodLink RX10 101 yX10_isPassed, Cond.instanceMethod yX10_isPassed, Cond.selects RX10 yX10_isPassed yX10_isPassed, Cond.code yX10_isPassed cX10_isPassed 2 (some .boolean), Cond.methodLink RX10 104 yX10_four, Cond.instanceMethod yX10_four, Cond.selects RX10 yX10_four yX10_four, Cond.code yX10_four cX10_four 2 (some .int), Cond.constant RX10 51 (65536), Cond.methodLink RX10 123 yX10_isDirectory, Cond.instanceMethod yX10_isDirectory, Cond.selects RX10 yX10_isDirectory yX10_isDirectory, Cond.code yX10_isDirectory cX10_isDirectory 2 (some .boolean)]
def wsX10_find : List Cond := .code yX10_find cX10_find 4 (some .int) :: ((wsX10_find_r1 ++ (wsX10_find_r2 ++ wsX10_find_r3)) ++ wsX100)
def wsX10_take : List Cond := .code yX10_take cX10_take 4 none :: ([.fieldLink RX10 23 "ChainLoaderModel" "path" "[I", .fieldLink RX10 110 "ChainLoaderModel" "pathLength" "I"] ++ wsX100)
def wsX10_isBroken_r1 : List Cond := [Cond.fieldLink RX10 7 "ChainLoaderModel" "disk" "[I", Cond.fieldLink RX10 63 "ChainLoaderModel" "clusterSectors" "I", Cond.methodLink RX10 126 yX10_sizeAt, Cond.instanceMethod yX10_sizeAt, Cond.selects RX10 yX10_sizeAt yX10_sizeAt, Cond.initialized RX10, Cond.code yX10_sizeAt cX10_sizeAt 2 (some .int), Cond.methodLink RX10 47 yX10_word, Cond.instanceMethod yX10_word, Cond.selects RX10 yX10_word yX10_word, Cond.code yX10_word cX10_word 2 (some .int), Cond.methodLink RX10 94 yX10_chain, Cond.instanceMethod yX10_chain, Cond.selects RX10 yX10_chain yX10_chain, Cond.code yX10_chain cX10_chain 4 (some .int), Cond.fieldLink RX10 75 "ChainLoaderModel" "clusters" "I", Cond.methodLink RX10 84 yX10_isCluster, Cond.instanceMethod yX10_isCluster, Cond.selects RX10 yX10_isCluster yX10_isCluster, Cond.code yX10_isCluster cX10_isCluster 2 (some .boolean), Cond.methodLink RX10 87 yX10_behind, Cond.instanceMethod yX10_behind, Cond.selects RX10 yX10_behind yX10_behind, Cond.code yX10_behind cX10_behind 3 (some .int)]
def wsX10_isBroken_r2 : List Cond := [Cond.fieldLink RX10 78 "ChainLoaderModel" "tablesAt" "I", Cond.fieldLink RX10 66 "ChainLoaderModel" "tables" "I", Cond.fieldLink RX10 69 "ChainLoaderModel" "tableSectors" "I"]
def wsX10_isBroken : List Cond := .code yX10_isBroken cX10_isBroken 4 (some .boolean) :: ((wsX10_isBroken_r1 ++ wsX10_isBroken_r2) ++ wsX100)
def wsX10_byteOf : List Cond := .code yX10_byteOf cX10_byteOf 4 (some .int) :: ([.fieldLink RX10 7 "ChainLoaderModel" "disk" "[I", .methodLink RX10 90 yX10_place, .instanceMethod yX10_place, .selects RX10 yX10_place yX10_place, .initialized RX10, .code yX10_place cX10_place 6 (some .int), .fieldLink RX10 63 "ChainLoaderModel" "clusterSectors" "I", .fieldLink RX10 81 "ChainLoaderModel" "clustersAt" "I", .methodLink RX10 87 yX10_behind, .instanceMethod yX10_behind, .selects RX10 yX10_behind yX10_behind, .code yX10_behind cX10_behind 3 (some .int), .fieldLink RX10 78 "ChainLoaderModel" "tablesAt" "I", .fieldLink RX10 66 "ChainLoaderModel" "tables" "I", .fieldLink RX10 69 "ChainLoaderModel" "tableSectors" "I", .methodLink RX10 47 yX10_word, .instanceMethod yX10_word, .selects RX10 yX10_word yX10_word, .code yX10_word cX10_word 2 (some .int), .methodLink RX10 84 yX10_isCluster, .instanceMethod yX10_isCluster, .selects RX10 yX10_isCluster yX10_isCluster, .code yX10_isCluster cX10_isCluster 2 (some .boolean), .fieldLink RX10 75 "ChainLoaderModel" "clusters" "I"] ++ wsX100)
def wsX10_type : List Cond := .code yX10_type cX10_type 2 (some .boolean) :: ([.fieldLink RX10 129 "ChainLoaderModel" "textLength" "I", .fieldLink RX10 20 "ChainLoaderModel" "text" "[I"] ++ wsX100)
def wsX10_scrap : List Cond := .code yX10_scrap cX10_scrap 2 (some .int) :: ([.fieldLink RX10 129 "ChainLoaderModel" "textLength" "I"] ++ wsX100)
def wsX10_fileOfText_r1 : List Cond := [Cond.fieldLink RX10 20 "ChainLoaderModel" "text" "[I", Cond.fieldLink RX10 129 "ChainLoaderModel" "textLength" "I", Cond.methodLink RX10 132 yX10_volume, Cond.instanceMethod yX10_volume, Cond.selects RX10 yX10_volume yX10_volume, Cond.initialized RX10, Cond.code yX10_volume cX10_volume 7 (some .int), Cond.fieldLink RX10 7 "ChainLoaderModel" "disk" "[I", Cond.fieldLink RX10 60 "ChainLoaderModel" "record" "I", Cond.fieldLink RX10 63 "ChainLoaderModel" "clusterSectors" "I", Cond.fieldLink RX10 66 "ChainLoaderModel" "tables" "I", Cond.fieldLink RX10 69 "ChainLoaderModel" "tableSectors" "I", Cond.fieldLink RX10 72 "ChainLoaderModel" "root" "I", Cond.fieldLink RX10 75 "ChainLoaderModel" "clusters" "I", Cond.fieldLink RX10 78 "ChainLoaderModel" "tablesAt" "I", Cond.fieldLink RX10 81 "ChainLoaderModel" "clustersAt" "I", Cond.methodLink RX10 56 yX10_choose, Cond.instanceMethod yX10_choose, Cond.selects RX10 yX10_choose yX10_choose, Cond.code yX10_choose cX10_choose 2 (some .int), Cond.methodLink RX10 52 yX10_isUsable, Cond.instanceMethod yX10_isUsable, Cond.selects RX10 yX10_isUsable yX10_isUsable, Cond.code yX10_isUsable cX10_isUsable 3 (some .boolean)]
def wsX10_fileOfText_r2 : List Cond := [Cond.methodLink RX10 135 yX10_take, Cond.instanceMethod yX10_take, Cond.selects RX10 yX10_take yX10_take, Cond.code yX10_take cX10_take 4 none, Cond.fieldLink RX10 23 "ChainLoaderModel" "path" "[I", Cond.fieldLink RX10 110 "ChainLoaderModel" "pathLength" "I", Cond.methodLink RX10 139 yX10_find, Cond.instanceMethod yX10_find, Cond.selects RX10 yX10_find yX10_find, Cond.code yX10_find cX10_find 4 (some .int), Cond.fieldLink RX10 107 "ChainLoaderModel" "nameCount" "I", Cond.fieldLink RX10 26 "ChainLoaderModel" "names" "[I", Cond.methodLink RX10 116 yX10_parse, Cond.instanceMethod yX10_parse, Cond.selects RX10 yX10_parse yX10_parse, Cond.code yX10_parse cX10_parse 6 (some .boolean), Cond.methodLink RX10 113 yX10_isLetter, Cond.instanceMethod yX10_isLetter, Cond.selects RX10 yX10_isLetter yX10_isLetter, Cond.code yX10_isLetter cX10_isLetter 2 (some .boolean), Cond.methodLink RX10 120 yX10_lookUp, Cond.instanceMethod yX10_lookUp, Cond.selects RX10 yX10_lookUp yX10_lookUp, Cond.code yX10_lookUp cX10_lookUp 6 (some .int)]
def wsX10_fileOfText_r3 : List Cond := [Cond.methodLink RX10 94 yX10_chain, Cond.instanceMethod yX10_chain, Cond.selects RX10 yX10_chain yX10_chain, Cond.code yX10_chain cX10_chain 4 (some .int), Cond.methodLink RX10 84 yX10_isCluster, Cond.instanceMethod yX10_isCluster, Cond.selects RX10 yX10_isCluster yX10_isCluster, Cond.code yX10_isCluster cX10_isCluster 2 (some .boolean), Cond.methodLink RX10 87 yX10_behind, Cond.instanceMethod yX10_behind, Cond.selects RX10 yX10_behind yX10_behind, Cond.code yX10_behind cX10_behind 3 (some .int), Cond.methodLink RX10 47 yX10_word, Cond.instanceMethod yX10_word, Cond.selects RX10 yX10_word yX10_word, Cond.code yX10_word cX10_word 2 (some .int), Cond.methodLink RX10 97 yX10_nth, Cond.instanceMethod yX10_nth, Cond.selects RX10 yX10_nth yX10_nth, Cond.code yX10_nth cX10_nth 5 (some .int), Cond.methodLink RX10 90 yX10_place, Cond.instanceMethod yX10_place, Cond.selects RX10 yX10_place yX10_place, Cond.code yX10_place cX10_place 6 (some .int)]
def wsX10_fileOfText_r4 : List Cond := [Cond.methodLink RX10 101 yX10_isPassed, Cond.instanceMethod yX10_isPassed, Cond.selects RX10 yX10_isPassed yX10_isPassed, Cond.code yX10_isPassed cX10_isPassed 2 (some .boolean), Cond.methodLink RX10 104 yX10_four, Cond.instanceMethod yX10_four, Cond.selects RX10 yX10_four yX10_four, Cond.code yX10_four cX10_four 2 (some .int), Cond.constant RX10 51 (65536), Cond.methodLink RX10 123 yX10_isDirectory, Cond.instanceMethod yX10_isDirectory, Cond.selects RX10 yX10_isDirectory yX10_isDirectory, Cond.code yX10_isDirectory cX10_isDirectory 2 (some .boolean)]
def wsX10_fileOfText : List Cond := .code yX10_fileOfText cX10_fileOfText 3 (some .int) :: ((wsX10_fileOfText_r1 ++ (wsX10_fileOfText_r2 ++ (wsX10_fileOfText_r3 ++ wsX10_fileOfText_r4))) ++ wsX100)
def wsX10_size_r1 : List Cond := [Cond.methodLink RX10 142 yX10_fileOfText, Cond.instanceMethod yX10_fileOfText, Cond.selects RX10 yX10_fileOfText yX10_fileOfText, Cond.initialized RX10, Cond.code yX10_fileOfText cX10_fileOfText 3 (some .int), Cond.fieldLink RX10 20 "ChainLoaderModel" "text" "[I", Cond.fieldLink RX10 129 "ChainLoaderModel" "textLength" "I", Cond.methodLink RX10 132 yX10_volume, Cond.instanceMethod yX10_volume, Cond.selects RX10 yX10_volume yX10_volume, Cond.code yX10_volume cX10_volume 7 (some .int), Cond.fieldLink RX10 7 "ChainLoaderModel" "disk" "[I", Cond.fieldLink RX10 60 "ChainLoaderModel" "record" "I", Cond.fieldLink RX10 63 "ChainLoaderModel" "clusterSectors" "I", Cond.fieldLink RX10 66 "ChainLoaderModel" "tables" "I", Cond.fieldLink RX10 69 "ChainLoaderModel" "tableSectors" "I", Cond.fieldLink RX10 72 "ChainLoaderModel" "root" "I", Cond.fieldLink RX10 75 "ChainLoaderModel" "clusters" "I", Cond.fieldLink RX10 78 "ChainLoaderModel" "tablesAt" "I", Cond.fieldLink RX10 81 "ChainLoaderModel" "clustersAt" "I", Cond.methodLink RX10 56 yX10_choose, Cond.instanceMethod yX10_choose, Cond.selects RX10 yX10_choose yX10_choose, Cond.code yX10_choose cX10_choose 2 (some .int)]
def wsX10_size_r2 : List Cond := [Cond.methodLink RX10 52 yX10_isUsable, Cond.instanceMethod yX10_isUsable, Cond.selects RX10 yX10_isUsable yX10_isUsable, Cond.code yX10_isUsable cX10_isUsable 3 (some .boolean), Cond.methodLink RX10 135 yX10_take, Cond.instanceMethod yX10_take, Cond.selects RX10 yX10_take yX10_take, Cond.code yX10_take cX10_take 4 none, Cond.fieldLink RX10 23 "ChainLoaderModel" "path" "[I", Cond.fieldLink RX10 110 "ChainLoaderModel" "pathLength" "I", Cond.methodLink RX10 139 yX10_find, Cond.instanceMethod yX10_find, Cond.selects RX10 yX10_find yX10_find, Cond.code yX10_find cX10_find 4 (some .int), Cond.fieldLink RX10 107 "ChainLoaderModel" "nameCount" "I", Cond.fieldLink RX10 26 "ChainLoaderModel" "names" "[I", Cond.methodLink RX10 116 yX10_parse, Cond.instanceMethod yX10_parse, Cond.selects RX10 yX10_parse yX10_parse, Cond.code yX10_parse cX10_parse 6 (some .boolean), Cond.methodLink RX10 113 yX10_isLetter, Cond.instanceMethod yX10_isLetter, Cond.selects RX10 yX10_isLetter yX10_isLetter, Cond.code yX10_isLetter cX10_isLetter 2 (some .boolean)]
def wsX10_size_r3 : List Cond := [Cond.methodLink RX10 120 yX10_lookUp, Cond.instanceMethod yX10_lookUp, Cond.selects RX10 yX10_lookUp yX10_lookUp, Cond.code yX10_lookUp cX10_lookUp 6 (some .int), Cond.methodLink RX10 94 yX10_chain, Cond.instanceMethod yX10_chain, Cond.selects RX10 yX10_chain yX10_chain, Cond.code yX10_chain cX10_chain 4 (some .int), Cond.methodLink RX10 84 yX10_isCluster, Cond.instanceMethod yX10_isCluster, Cond.selects RX10 yX10_isCluster yX10_isCluster, Cond.code yX10_isCluster cX10_isCluster 2 (some .boolean), Cond.methodLink RX10 87 yX10_behind, Cond.instanceMethod yX10_behind, Cond.selects RX10 yX10_behind yX10_behind, Cond.code yX10_behind cX10_behind 3 (some .int), Cond.methodLink RX10 47 yX10_word, Cond.instanceMethod yX10_word, Cond.selects RX10 yX10_word yX10_word, Cond.code yX10_word cX10_word 2 (some .int), Cond.methodLink RX10 97 yX10_nth, Cond.instanceMethod yX10_nth, Cond.selects RX10 yX10_nth yX10_nth, Cond.code yX10_nth cX10_nth 5 (some .int)]
def wsX10_size_r4 : List Cond := [Cond.methodLink RX10 90 yX10_place, Cond.instanceMethod yX10_place, Cond.selects RX10 yX10_place yX10_place, Cond.code yX10_place cX10_place 6 (some .int), Cond.methodLink RX10 101 yX10_isPassed, Cond.instanceMethod yX10_isPassed, Cond.selects RX10 yX10_isPassed yX10_isPassed, Cond.code yX10_isPassed cX10_isPassed 2 (some .boolean), Cond.methodLink RX10 104 yX10_four, Cond.instanceMethod yX10_four, Cond.selects RX10 yX10_four yX10_four, Cond.code yX10_four cX10_four 2 (some .int), Cond.constant RX10 51 (65536), Cond.methodLink RX10 123 yX10_isDirectory, Cond.instanceMethod yX10_isDirectory, Cond.selects RX10 yX10_isDirectory yX10_isDirectory, Cond.code yX10_isDirectory cX10_isDirectory 2 (some .boolean), Cond.methodLink RX10 126 yX10_sizeAt, Cond.instanceMethod yX10_sizeAt, Cond.selects RX10 yX10_sizeAt yX10_sizeAt, Cond.code yX10_sizeAt cX10_sizeAt 2 (some .int)]
def wsX10_size : List Cond := .code yX10_size cX10_size 2 (some .int) :: ((wsX10_size_r1 ++ (wsX10_size_r2 ++ (wsX10_size_r3 ++ wsX10_size_r4))) ++ wsX100)
def wsX10_read_r1 : List Cond := [Cond.methodLink RX10 142 yX10_fileOfText, Cond.instanceMethod yX10_fileOfText, Cond.selects RX10 yX10_fileOfText yX10_fileOfText, Cond.initialized RX10, Cond.code yX10_fileOfText cX10_fileOfText 3 (some .int), Cond.fieldLink RX10 20 "ChainLoaderModel" "text" "[I", Cond.fieldLink RX10 129 "ChainLoaderModel" "textLength" "I", Cond.methodLink RX10 132 yX10_volume, Cond.instanceMethod yX10_volume, Cond.selects RX10 yX10_volume yX10_volume, Cond.code yX10_volume cX10_volume 7 (some .int), Cond.fieldLink RX10 7 "ChainLoaderModel" "disk" "[I", Cond.fieldLink RX10 60 "ChainLoaderModel" "record" "I", Cond.fieldLink RX10 63 "ChainLoaderModel" "clusterSectors" "I", Cond.fieldLink RX10 66 "ChainLoaderModel" "tables" "I", Cond.fieldLink RX10 69 "ChainLoaderModel" "tableSectors" "I", Cond.fieldLink RX10 72 "ChainLoaderModel" "root" "I", Cond.fieldLink RX10 75 "ChainLoaderModel" "clusters" "I", Cond.fieldLink RX10 78 "ChainLoaderModel" "tablesAt" "I", Cond.fieldLink RX10 81 "ChainLoaderModel" "clustersAt" "I", Cond.methodLink RX10 56 yX10_choose, Cond.instanceMethod yX10_choose, Cond.selects RX10 yX10_choose yX10_choose, Cond.code yX10_choose cX10_choose 2 (some .int)]
def wsX10_read_r2 : List Cond := [Cond.methodLink RX10 52 yX10_isUsable, Cond.instanceMethod yX10_isUsable, Cond.selects RX10 yX10_isUsable yX10_isUsable, Cond.code yX10_isUsable cX10_isUsable 3 (some .boolean), Cond.methodLink RX10 135 yX10_take, Cond.instanceMethod yX10_take, Cond.selects RX10 yX10_take yX10_take, Cond.code yX10_take cX10_take 4 none, Cond.fieldLink RX10 23 "ChainLoaderModel" "path" "[I", Cond.fieldLink RX10 110 "ChainLoaderModel" "pathLength" "I", Cond.methodLink RX10 139 yX10_find, Cond.instanceMethod yX10_find, Cond.selects RX10 yX10_find yX10_find, Cond.code yX10_find cX10_find 4 (some .int), Cond.fieldLink RX10 107 "ChainLoaderModel" "nameCount" "I", Cond.fieldLink RX10 26 "ChainLoaderModel" "names" "[I", Cond.methodLink RX10 116 yX10_parse, Cond.instanceMethod yX10_parse, Cond.selects RX10 yX10_parse yX10_parse, Cond.code yX10_parse cX10_parse 6 (some .boolean), Cond.methodLink RX10 113 yX10_isLetter, Cond.instanceMethod yX10_isLetter, Cond.selects RX10 yX10_isLetter yX10_isLetter, Cond.code yX10_isLetter cX10_isLetter 2 (some .boolean)]
def wsX10_read_r3 : List Cond := [Cond.methodLink RX10 120 yX10_lookUp, Cond.instanceMethod yX10_lookUp, Cond.selects RX10 yX10_lookUp yX10_lookUp, Cond.code yX10_lookUp cX10_lookUp 6 (some .int), Cond.methodLink RX10 94 yX10_chain, Cond.instanceMethod yX10_chain, Cond.selects RX10 yX10_chain yX10_chain, Cond.code yX10_chain cX10_chain 4 (some .int), Cond.methodLink RX10 84 yX10_isCluster, Cond.instanceMethod yX10_isCluster, Cond.selects RX10 yX10_isCluster yX10_isCluster, Cond.code yX10_isCluster cX10_isCluster 2 (some .boolean), Cond.methodLink RX10 87 yX10_behind, Cond.instanceMethod yX10_behind, Cond.selects RX10 yX10_behind yX10_behind, Cond.code yX10_behind cX10_behind 3 (some .int), Cond.methodLink RX10 47 yX10_word, Cond.instanceMethod yX10_word, Cond.selects RX10 yX10_word yX10_word, Cond.code yX10_word cX10_word 2 (some .int), Cond.methodLink RX10 97 yX10_nth, Cond.instanceMethod yX10_nth, Cond.selects RX10 yX10_nth yX10_nth, Cond.code yX10_nth cX10_nth 5 (some .int)]
def wsX10_read_r4 : List Cond := [Cond.methodLink RX10 90 yX10_place, Cond.instanceMethod yX10_place, Cond.selects RX10 yX10_place yX10_place, Cond.code yX10_place cX10_place 6 (some .int), Cond.methodLink RX10 101 yX10_isPassed, Cond.instanceMethod yX10_isPassed, Cond.selects RX10 yX10_isPassed yX10_isPassed, Cond.code yX10_isPassed cX10_isPassed 2 (some .boolean), Cond.methodLink RX10 104 yX10_four, Cond.instanceMethod yX10_four, Cond.selects RX10 yX10_four yX10_four, Cond.code yX10_four cX10_four 2 (some .int), Cond.constant RX10 51 (65536), Cond.methodLink RX10 123 yX10_isDirectory, Cond.instanceMethod yX10_isDirectory, Cond.selects RX10 yX10_isDirectory yX10_isDirectory, Cond.code yX10_isDirectory cX10_isDirectory 2 (some .boolean), Cond.methodLink RX10 145 yX10_isBroken, Cond.instanceMethod yX10_isBroken, Cond.selects RX10 yX10_isBroken yX10_isBroken, Cond.code yX10_isBroken cX10_isBroken 4 (some .boolean), Cond.methodLink RX10 126 yX10_sizeAt, Cond.instanceMethod yX10_sizeAt, Cond.selects RX10 yX10_sizeAt yX10_sizeAt]
def wsX10_read_r5 : List Cond := [Cond.code yX10_sizeAt cX10_sizeAt 2 (some .int), Cond.methodLink RX10 148 yX10_byteOf, Cond.instanceMethod yX10_byteOf, Cond.selects RX10 yX10_byteOf yX10_byteOf, Cond.code yX10_byteOf cX10_byteOf 4 (some .int)]
def wsX10_read : List Cond := .code yX10_read cX10_read 3 (some .int) :: ((wsX10_read_r1 ++ (wsX10_read_r2 ++ (wsX10_read_r3 ++ (wsX10_read_r4 ++ wsX10_read_r5)))) ++ wsX100)
def wsX10_list_r1 : List Cond := [Cond.fieldLink RX10 72 "ChainLoaderModel" "root" "I", Cond.fieldLink RX10 129 "ChainLoaderModel" "textLength" "I", Cond.fieldLink RX10 20 "ChainLoaderModel" "text" "[I", Cond.constantLong RX10 151 (-8), Cond.fieldLink RX10 7 "ChainLoaderModel" "disk" "[I", Cond.constantLong RX10 153 (-9), Cond.constantLong RX10 155 (4294967295), Cond.constantLong RX10 157 (-1), Cond.methodLink RX10 132 yX10_volume, Cond.instanceMethod yX10_volume, Cond.selects RX10 yX10_volume yX10_volume, Cond.initialized RX10, Cond.code yX10_volume cX10_volume 7 (some .int), Cond.fieldLink RX10 60 "ChainLoaderModel" "record" "I", Cond.fieldLink RX10 63 "ChainLoaderModel" "clusterSectors" "I", Cond.fieldLink RX10 66 "ChainLoaderModel" "tables" "I", Cond.fieldLink RX10 69 "ChainLoaderModel" "tableSectors" "I", Cond.fieldLink RX10 75 "ChainLoaderModel" "clusters" "I", Cond.fieldLink RX10 78 "ChainLoaderModel" "tablesAt" "I", Cond.fieldLink RX10 81 "ChainLoaderModel" "clustersAt" "I", Cond.methodLink RX10 56 yX10_choose, Cond.instanceMethod yX10_choose, Cond.selects RX10 yX10_choose yX10_choose, Cond.code yX10_choose cX10_choose 2 (some .int)]
def wsX10_list_r2 : List Cond := [Cond.methodLink RX10 52 yX10_isUsable, Cond.instanceMethod yX10_isUsable, Cond.selects RX10 yX10_isUsable yX10_isUsable, Cond.code yX10_isUsable cX10_isUsable 3 (some .boolean), Cond.methodLink RX10 135 yX10_take, Cond.instanceMethod yX10_take, Cond.selects RX10 yX10_take yX10_take, Cond.code yX10_take cX10_take 4 none, Cond.fieldLink RX10 23 "ChainLoaderModel" "path" "[I", Cond.fieldLink RX10 110 "ChainLoaderModel" "pathLength" "I", Cond.methodLink RX10 139 yX10_find, Cond.instanceMethod yX10_find, Cond.selects RX10 yX10_find yX10_find, Cond.code yX10_find cX10_find 4 (some .int), Cond.fieldLink RX10 107 "ChainLoaderModel" "nameCount" "I", Cond.fieldLink RX10 26 "ChainLoaderModel" "names" "[I", Cond.methodLink RX10 116 yX10_parse, Cond.instanceMethod yX10_parse, Cond.selects RX10 yX10_parse yX10_parse, Cond.code yX10_parse cX10_parse 6 (some .boolean), Cond.methodLink RX10 113 yX10_isLetter, Cond.instanceMethod yX10_isLetter, Cond.selects RX10 yX10_isLetter yX10_isLetter, Cond.code yX10_isLetter cX10_isLetter 2 (some .boolean)]
def wsX10_list_r3 : List Cond := [Cond.methodLink RX10 120 yX10_lookUp, Cond.instanceMethod yX10_lookUp, Cond.selects RX10 yX10_lookUp yX10_lookUp, Cond.code yX10_lookUp cX10_lookUp 6 (some .int), Cond.methodLink RX10 94 yX10_chain, Cond.instanceMethod yX10_chain, Cond.selects RX10 yX10_chain yX10_chain, Cond.code yX10_chain cX10_chain 4 (some .int), Cond.methodLink RX10 84 yX10_isCluster, Cond.instanceMethod yX10_isCluster, Cond.selects RX10 yX10_isCluster yX10_isCluster, Cond.code yX10_isCluster cX10_isCluster 2 (some .boolean), Cond.methodLink RX10 87 yX10_behind, Cond.instanceMethod yX10_behind, Cond.selects RX10 yX10_behind yX10_behind, Cond.code yX10_behind cX10_behind 3 (some .int), Cond.methodLink RX10 47 yX10_word, Cond.instanceMethod yX10_word, Cond.selects RX10 yX10_word yX10_word, Cond.code yX10_word cX10_word 2 (some .int), Cond.methodLink RX10 97 yX10_nth, Cond.instanceMethod yX10_nth, Cond.selects RX10 yX10_nth yX10_nth, Cond.code yX10_nth cX10_nth 5 (some .int)]
def wsX10_list_r4 : List Cond := [Cond.methodLink RX10 90 yX10_place, Cond.instanceMethod yX10_place, Cond.selects RX10 yX10_place yX10_place, Cond.code yX10_place cX10_place 6 (some .int), Cond.methodLink RX10 101 yX10_isPassed, Cond.instanceMethod yX10_isPassed, Cond.selects RX10 yX10_isPassed yX10_isPassed, Cond.code yX10_isPassed cX10_isPassed 2 (some .boolean), Cond.methodLink RX10 104 yX10_four, Cond.instanceMethod yX10_four, Cond.selects RX10 yX10_four yX10_four, Cond.code yX10_four cX10_four 2 (some .int), Cond.constant RX10 51 (65536), Cond.methodLink RX10 123 yX10_isDirectory, Cond.instanceMethod yX10_isDirectory, Cond.selects RX10 yX10_isDirectory yX10_isDirectory, Cond.code yX10_isDirectory cX10_isDirectory 2 (some .boolean)]
def wsX10_list : List Cond := .code yX10_list cX10_list 8 (some .long) :: ((wsX10_list_r1 ++ (wsX10_list_r2 ++ (wsX10_list_r3 ++ wsX10_list_r4))) ++ wsX100)
def wsX10_survey_r1 : List Cond := [Cond.fieldLink RX10 38 "ChainLoaderModel" "openAt" "[I", Cond.fieldLink RX10 72 "ChainLoaderModel" "root" "I", Cond.fieldLink RX10 41 "ChainLoaderModel" "openLength" "[I", Cond.fieldLink RX10 44 "ChainLoaderModel" "openNext" "[I", Cond.fieldLink RX10 7 "ChainLoaderModel" "disk" "[I", Cond.methodLink RX10 132 yX10_volume, Cond.instanceMethod yX10_volume, Cond.selects RX10 yX10_volume yX10_volume, Cond.initialized RX10, Cond.code yX10_volume cX10_volume 7 (some .int), Cond.fieldLink RX10 60 "ChainLoaderModel" "record" "I", Cond.fieldLink RX10 63 "ChainLoaderModel" "clusterSectors" "I", Cond.fieldLink RX10 66 "ChainLoaderModel" "tables" "I", Cond.fieldLink RX10 69 "ChainLoaderModel" "tableSectors" "I", Cond.fieldLink RX10 75 "ChainLoaderModel" "clusters" "I", Cond.fieldLink RX10 78 "ChainLoaderModel" "tablesAt" "I", Cond.fieldLink RX10 81 "ChainLoaderModel" "clustersAt" "I", Cond.methodLink RX10 56 yX10_choose, Cond.instanceMethod yX10_choose, Cond.selects RX10 yX10_choose yX10_choose, Cond.code yX10_choose cX10_choose 2 (some .int), Cond.methodLink RX10 52 yX10_isUsable, Cond.instanceMethod yX10_isUsable, Cond.selects RX10 yX10_isUsable yX10_isUsable]
def wsX10_survey_r2 : List Cond := [Cond.code yX10_isUsable cX10_isUsable 3 (some .boolean), Cond.methodLink RX10 94 yX10_chain, Cond.instanceMethod yX10_chain, Cond.selects RX10 yX10_chain yX10_chain, Cond.code yX10_chain cX10_chain 4 (some .int), Cond.methodLink RX10 84 yX10_isCluster, Cond.instanceMethod yX10_isCluster, Cond.selects RX10 yX10_isCluster yX10_isCluster, Cond.code yX10_isCluster cX10_isCluster 2 (some .boolean), Cond.methodLink RX10 87 yX10_behind, Cond.instanceMethod yX10_behind, Cond.selects RX10 yX10_behind yX10_behind, Cond.code yX10_behind cX10_behind 3 (some .int), Cond.methodLink RX10 47 yX10_word, Cond.instanceMethod yX10_word, Cond.selects RX10 yX10_word yX10_word, Cond.code yX10_word cX10_word 2 (some .int), Cond.methodLink RX10 97 yX10_nth, Cond.instanceMethod yX10_nth, Cond.selects RX10 yX10_nth yX10_nth, Cond.code yX10_nth cX10_nth 5 (some .int), Cond.methodLink RX10 90 yX10_place, Cond.instanceMethod yX10_place, Cond.selects RX10 yX10_place yX10_place]
def wsX10_survey_r3 : List Cond := [Cond.code yX10_place cX10_place 6 (some .int), Cond.methodLink RX10 101 yX10_isPassed, Cond.instanceMethod yX10_isPassed, Cond.selects RX10 yX10_isPassed yX10_isPassed, Cond.code yX10_isPassed cX10_isPassed 2 (some .boolean), Cond.methodLink RX10 123 yX10_isDirectory, Cond.instanceMethod yX10_isDirectory, Cond.selects RX10 yX10_isDirectory yX10_isDirectory, Cond.code yX10_isDirectory cX10_isDirectory 2 (some .boolean)]
def wsX10_survey : List Cond := .code yX10_survey cX10_survey 8 (some .int) :: ((wsX10_survey_r1 ++ (wsX10_survey_r2 ++ wsX10_survey_r3)) ++ wsX100)
def wsX10_line_r1 : List Cond := [Cond.fieldLink RX10 29 "ChainLoaderModel" "kernel" "[I", Cond.fieldLink RX10 32 "ChainLoaderModel" "other" "[I", Cond.fieldLink RX10 35 "ChainLoaderModel" "arguments" "[I", Cond.fieldLink RX10 159 "ChainLoaderModel" "kernelLength" "I", Cond.fieldLink RX10 162 "ChainLoaderModel" "otherLength" "I", Cond.fieldLink RX10 165 "ChainLoaderModel" "argumentLength" "I", Cond.methodLink RX10 148 yX10_byteOf, Cond.instanceMethod yX10_byteOf, Cond.selects RX10 yX10_byteOf yX10_byteOf, Cond.initialized RX10, Cond.code yX10_byteOf cX10_byteOf 4 (some .int), Cond.fieldLink RX10 7 "ChainLoaderModel" "disk" "[I", Cond.methodLink RX10 90 yX10_place, Cond.instanceMethod yX10_place, Cond.selects RX10 yX10_place yX10_place, Cond.code yX10_place cX10_place 6 (some .int), Cond.fieldLink RX10 63 "ChainLoaderModel" "clusterSectors" "I", Cond.fieldLink RX10 81 "ChainLoaderModel" "clustersAt" "I", Cond.methodLink RX10 87 yX10_behind, Cond.instanceMethod yX10_behind, Cond.selects RX10 yX10_behind yX10_behind, Cond.code yX10_behind cX10_behind 3 (some .int), Cond.fieldLink RX10 78 "ChainLoaderModel" "tablesAt" "I", Cond.fieldLink RX10 66 "ChainLoaderModel" "tables" "I"]
def wsX10_line_r2 : List Cond := [Cond.fieldLink RX10 69 "ChainLoaderModel" "tableSectors" "I", Cond.methodLink RX10 47 yX10_word, Cond.instanceMethod yX10_word, Cond.selects RX10 yX10_word yX10_word, Cond.code yX10_word cX10_word 2 (some .int), Cond.methodLink RX10 84 yX10_isCluster, Cond.instanceMethod yX10_isCluster, Cond.selects RX10 yX10_isCluster yX10_isCluster, Cond.code yX10_isCluster cX10_isCluster 2 (some .boolean), Cond.fieldLink RX10 75 "ChainLoaderModel" "clusters" "I"]
def wsX10_line : List Cond := .code yX10_line cX10_line 8 (some .boolean) :: ((wsX10_line_r1 ++ wsX10_line_r2) ++ wsX100)
def wsX10_settings_r1 : List Cond := [Cond.fieldLink RX10 23 "ChainLoaderModel" "path" "[I", Cond.fieldLink RX10 110 "ChainLoaderModel" "pathLength" "I", Cond.fieldLink RX10 159 "ChainLoaderModel" "kernelLength" "I", Cond.fieldLink RX10 162 "ChainLoaderModel" "otherLength" "I", Cond.fieldLink RX10 165 "ChainLoaderModel" "argumentLength" "I", Cond.methodLink RX10 139 yX10_find, Cond.instanceMethod yX10_find, Cond.selects RX10 yX10_find yX10_find, Cond.initialized RX10, Cond.code yX10_find cX10_find 4 (some .int), Cond.fieldLink RX10 72 "ChainLoaderModel" "root" "I", Cond.fieldLink RX10 107 "ChainLoaderModel" "nameCount" "I", Cond.fieldLink RX10 26 "ChainLoaderModel" "names" "[I", Cond.fieldLink RX10 7 "ChainLoaderModel" "disk" "[I", Cond.methodLink RX10 116 yX10_parse, Cond.instanceMethod yX10_parse, Cond.selects RX10 yX10_parse yX10_parse, Cond.code yX10_parse cX10_parse 6 (some .boolean), Cond.methodLink RX10 113 yX10_isLetter, Cond.instanceMethod yX10_isLetter, Cond.selects RX10 yX10_isLetter yX10_isLetter, Cond.code yX10_isLetter cX10_isLetter 2 (some .boolean), Cond.methodLink RX10 120 yX10_lookUp, Cond.instanceMethod yX10_lookUp]
def wsX10_settings_r2 : List Cond := [Cond.selects RX10 yX10_lookUp yX10_lookUp, Cond.code yX10_lookUp cX10_lookUp 6 (some .int), Cond.methodLink RX10 94 yX10_chain, Cond.instanceMethod yX10_chain, Cond.selects RX10 yX10_chain yX10_chain, Cond.code yX10_chain cX10_chain 4 (some .int), Cond.fieldLink RX10 75 "ChainLoaderModel" "clusters" "I", Cond.methodLink RX10 84 yX10_isCluster, Cond.instanceMethod yX10_isCluster, Cond.selects RX10 yX10_isCluster yX10_isCluster, Cond.code yX10_isCluster cX10_isCluster 2 (some .boolean), Cond.methodLink RX10 87 yX10_behind, Cond.instanceMethod yX10_behind, Cond.selects RX10 yX10_behind yX10_behind, Cond.code yX10_behind cX10_behind 3 (some .int), Cond.fieldLink RX10 78 "ChainLoaderModel" "tablesAt" "I", Cond.fieldLink RX10 66 "ChainLoaderModel" "tables" "I", Cond.fieldLink RX10 69 "ChainLoaderModel" "tableSectors" "I", Cond.methodLink RX10 47 yX10_word, Cond.instanceMethod yX10_word, Cond.selects RX10 yX10_word yX10_word, Cond.code yX10_word cX10_word 2 (some .int), Cond.methodLink RX10 97 yX10_nth, Cond.instanceMethod yX10_nth]
def wsX10_settings_r3 : List Cond := [Cond.selects RX10 yX10_nth yX10_nth, Cond.code yX10_nth cX10_nth 5 (some .int), Cond.fieldLink RX10 63 "ChainLoaderModel" "clusterSectors" "I", Cond.methodLink RX10 90 yX10_place, Cond.instanceMethod yX10_place, Cond.selects RX10 yX10_place yX10_place, Cond.code yX10_place cX10_place 6 (some .int), Cond.fieldLink RX10 81 "ChainLoaderModel" "clustersAt" "I", Cond.methodLink RX10 101 yX10_isPassed, Cond.instanceMethod yX10_isPassed, Cond.selects RX10 yX10_isPassed yX10_isPassed, Cond.code yX10_isPassed cX10_isPassed 2 (some .boolean), Cond.methodLink RX10 104 yX10_four, Cond.instanceMethod yX10_four, Cond.selects RX10 yX10_four yX10_four, Cond.code yX10_four cX10_four 2 (some .int), Cond.constant RX10 51 (65536), Cond.methodLink RX10 123 yX10_isDirectory, Cond.instanceMethod yX10_isDirectory, Cond.selects RX10 yX10_isDirectory yX10_isDirectory, Cond.code yX10_isDirectory cX10_isDirectory 2 (some .boolean), Cond.methodLink RX10 145 yX10_isBroken, Cond.instanceMethod yX10_isBroken, Cond.selects RX10 yX10_isBroken yX10_isBroken]
def wsX10_settings_r4 : List Cond := [Cond.code yX10_isBroken cX10_isBroken 4 (some .boolean), Cond.methodLink RX10 126 yX10_sizeAt, Cond.instanceMethod yX10_sizeAt, Cond.selects RX10 yX10_sizeAt yX10_sizeAt, Cond.code yX10_sizeAt cX10_sizeAt 2 (some .int), Cond.methodLink RX10 148 yX10_byteOf, Cond.instanceMethod yX10_byteOf, Cond.selects RX10 yX10_byteOf yX10_byteOf, Cond.code yX10_byteOf cX10_byteOf 4 (some .int), Cond.methodLink RX10 168 yX10_line, Cond.instanceMethod yX10_line, Cond.selects RX10 yX10_line yX10_line, Cond.code yX10_line cX10_line 8 (some .boolean), Cond.fieldLink RX10 29 "ChainLoaderModel" "kernel" "[I", Cond.fieldLink RX10 32 "ChainLoaderModel" "other" "[I", Cond.fieldLink RX10 35 "ChainLoaderModel" "arguments" "[I"]
def wsX10_settings : List Cond := .code yX10_settings cX10_settings 6 (some .int) :: ((wsX10_settings_r1 ++ (wsX10_settings_r2 ++ (wsX10_settings_r3 ++ wsX10_settings_r4))) ++ wsX100)
def wsX10_intOf_r1 : List Cond := [Cond.methodLink RX10 148 yX10_byteOf, Cond.instanceMethod yX10_byteOf, Cond.selects RX10 yX10_byteOf yX10_byteOf, Cond.initialized RX10, Cond.code yX10_byteOf cX10_byteOf 4 (some .int), Cond.fieldLink RX10 7 "ChainLoaderModel" "disk" "[I", Cond.methodLink RX10 90 yX10_place, Cond.instanceMethod yX10_place, Cond.selects RX10 yX10_place yX10_place, Cond.code yX10_place cX10_place 6 (some .int), Cond.fieldLink RX10 63 "ChainLoaderModel" "clusterSectors" "I", Cond.fieldLink RX10 81 "ChainLoaderModel" "clustersAt" "I", Cond.methodLink RX10 87 yX10_behind, Cond.instanceMethod yX10_behind, Cond.selects RX10 yX10_behind yX10_behind, Cond.code yX10_behind cX10_behind 3 (some .int), Cond.fieldLink RX10 78 "ChainLoaderModel" "tablesAt" "I", Cond.fieldLink RX10 66 "ChainLoaderModel" "tables" "I", Cond.fieldLink RX10 69 "ChainLoaderModel" "tableSectors" "I", Cond.methodLink RX10 47 yX10_word, Cond.instanceMethod yX10_word, Cond.selects RX10 yX10_word yX10_word, Cond.code yX10_word cX10_word 2 (some .int), Cond.methodLink RX10 84 yX10_isCluster]
def wsX10_intOf_r2 : List Cond := [Cond.instanceMethod yX10_isCluster, Cond.selects RX10 yX10_isCluster yX10_isCluster, Cond.code yX10_isCluster cX10_isCluster 2 (some .boolean), Cond.fieldLink RX10 75 "ChainLoaderModel" "clusters" "I"]
def wsX10_intOf : List Cond := .code yX10_intOf cX10_intOf 5 (some .int) :: ((wsX10_intOf_r1 ++ wsX10_intOf_r2) ++ wsX100)
def wsX10_put : List Cond := .code yX10_put cX10_put 4 none :: ([.fieldLink RX10 13 "ChainLoaderModel" "ram" "[I"] ++ wsX100)
def wsX10_fill_r1 : List Cond := [Cond.fieldLink RX10 13 "ChainLoaderModel" "ram" "[I", Cond.fieldLink RX10 165 "ChainLoaderModel" "argumentLength" "I", Cond.constant RX10 172 (732803074), Cond.fieldLink RX10 60 "ChainLoaderModel" "record" "I", Cond.fieldLink RX10 35 "ChainLoaderModel" "arguments" "[I", Cond.methodLink RX10 126 yX10_sizeAt, Cond.instanceMethod yX10_sizeAt, Cond.selects RX10 yX10_sizeAt yX10_sizeAt, Cond.initialized RX10, Cond.code yX10_sizeAt cX10_sizeAt 2 (some .int), Cond.methodLink RX10 47 yX10_word, Cond.instanceMethod yX10_word, Cond.selects RX10 yX10_word yX10_word, Cond.code yX10_word cX10_word 2 (some .int), Cond.fieldLink RX10 7 "ChainLoaderModel" "disk" "[I", Cond.methodLink RX10 148 yX10_byteOf, Cond.instanceMethod yX10_byteOf, Cond.selects RX10 yX10_byteOf yX10_byteOf, Cond.code yX10_byteOf cX10_byteOf 4 (some .int), Cond.methodLink RX10 90 yX10_place, Cond.instanceMethod yX10_place, Cond.selects RX10 yX10_place yX10_place, Cond.code yX10_place cX10_place 6 (some .int), Cond.fieldLink RX10 63 "ChainLoaderModel" "clusterSectors" "I"]
def wsX10_fill_r2 : List Cond := [Cond.fieldLink RX10 81 "ChainLoaderModel" "clustersAt" "I", Cond.methodLink RX10 87 yX10_behind, Cond.instanceMethod yX10_behind, Cond.selects RX10 yX10_behind yX10_behind, Cond.code yX10_behind cX10_behind 3 (some .int), Cond.fieldLink RX10 78 "ChainLoaderModel" "tablesAt" "I", Cond.fieldLink RX10 66 "ChainLoaderModel" "tables" "I", Cond.fieldLink RX10 69 "ChainLoaderModel" "tableSectors" "I", Cond.methodLink RX10 84 yX10_isCluster, Cond.instanceMethod yX10_isCluster, Cond.selects RX10 yX10_isCluster yX10_isCluster, Cond.code yX10_isCluster cX10_isCluster 2 (some .boolean), Cond.fieldLink RX10 75 "ChainLoaderModel" "clusters" "I", Cond.methodLink RX10 173 yX10_put, Cond.instanceMethod yX10_put, Cond.selects RX10 yX10_put yX10_put, Cond.code yX10_put cX10_put 4 none]
def wsX10_fill : List Cond := .code yX10_fill cX10_fill 8 none :: ((wsX10_fill_r1 ++ wsX10_fill_r2) ++ wsX100)
def wsX10_load_r1 : List Cond := [Cond.constant RX10 180 (464367618), Cond.fieldLink RX10 16 "ChainLoaderModel" "start" "I", Cond.methodLink RX10 139 yX10_find, Cond.instanceMethod yX10_find, Cond.selects RX10 yX10_find yX10_find, Cond.initialized RX10, Cond.code yX10_find cX10_find 4 (some .int), Cond.fieldLink RX10 72 "ChainLoaderModel" "root" "I", Cond.fieldLink RX10 107 "ChainLoaderModel" "nameCount" "I", Cond.fieldLink RX10 26 "ChainLoaderModel" "names" "[I", Cond.fieldLink RX10 7 "ChainLoaderModel" "disk" "[I", Cond.methodLink RX10 116 yX10_parse, Cond.instanceMethod yX10_parse, Cond.selects RX10 yX10_parse yX10_parse, Cond.code yX10_parse cX10_parse 6 (some .boolean), Cond.fieldLink RX10 110 "ChainLoaderModel" "pathLength" "I", Cond.fieldLink RX10 23 "ChainLoaderModel" "path" "[I", Cond.methodLink RX10 113 yX10_isLetter, Cond.instanceMethod yX10_isLetter, Cond.selects RX10 yX10_isLetter yX10_isLetter, Cond.code yX10_isLetter cX10_isLetter 2 (some .boolean), Cond.methodLink RX10 120 yX10_lookUp, Cond.instanceMethod yX10_lookUp, Cond.selects RX10 yX10_lookUp yX10_lookUp]
def wsX10_load_r2 : List Cond := [Cond.code yX10_lookUp cX10_lookUp 6 (some .int), Cond.methodLink RX10 94 yX10_chain, Cond.instanceMethod yX10_chain, Cond.selects RX10 yX10_chain yX10_chain, Cond.code yX10_chain cX10_chain 4 (some .int), Cond.fieldLink RX10 75 "ChainLoaderModel" "clusters" "I", Cond.methodLink RX10 84 yX10_isCluster, Cond.instanceMethod yX10_isCluster, Cond.selects RX10 yX10_isCluster yX10_isCluster, Cond.code yX10_isCluster cX10_isCluster 2 (some .boolean), Cond.methodLink RX10 87 yX10_behind, Cond.instanceMethod yX10_behind, Cond.selects RX10 yX10_behind yX10_behind, Cond.code yX10_behind cX10_behind 3 (some .int), Cond.fieldLink RX10 78 "ChainLoaderModel" "tablesAt" "I", Cond.fieldLink RX10 66 "ChainLoaderModel" "tables" "I", Cond.fieldLink RX10 69 "ChainLoaderModel" "tableSectors" "I", Cond.methodLink RX10 47 yX10_word, Cond.instanceMethod yX10_word, Cond.selects RX10 yX10_word yX10_word, Cond.code yX10_word cX10_word 2 (some .int), Cond.methodLink RX10 97 yX10_nth, Cond.instanceMethod yX10_nth, Cond.selects RX10 yX10_nth yX10_nth]
def wsX10_load_r3 : List Cond := [Cond.code yX10_nth cX10_nth 5 (some .int), Cond.fieldLink RX10 63 "ChainLoaderModel" "clusterSectors" "I", Cond.methodLink RX10 90 yX10_place, Cond.instanceMethod yX10_place, Cond.selects RX10 yX10_place yX10_place, Cond.code yX10_place cX10_place 6 (some .int), Cond.fieldLink RX10 81 "ChainLoaderModel" "clustersAt" "I", Cond.methodLink RX10 101 yX10_isPassed, Cond.instanceMethod yX10_isPassed, Cond.selects RX10 yX10_isPassed yX10_isPassed, Cond.code yX10_isPassed cX10_isPassed 2 (some .boolean), Cond.methodLink RX10 104 yX10_four, Cond.instanceMethod yX10_four, Cond.selects RX10 yX10_four yX10_four, Cond.code yX10_four cX10_four 2 (some .int), Cond.constant RX10 51 (65536), Cond.methodLink RX10 123 yX10_isDirectory, Cond.instanceMethod yX10_isDirectory, Cond.selects RX10 yX10_isDirectory yX10_isDirectory, Cond.code yX10_isDirectory cX10_isDirectory 2 (some .boolean), Cond.methodLink RX10 145 yX10_isBroken, Cond.instanceMethod yX10_isBroken, Cond.selects RX10 yX10_isBroken yX10_isBroken, Cond.code yX10_isBroken cX10_isBroken 4 (some .boolean)]
def wsX10_load_r4 : List Cond := [Cond.methodLink RX10 126 yX10_sizeAt, Cond.instanceMethod yX10_sizeAt, Cond.selects RX10 yX10_sizeAt yX10_sizeAt, Cond.code yX10_sizeAt cX10_sizeAt 2 (some .int), Cond.methodLink RX10 177 yX10_intOf, Cond.instanceMethod yX10_intOf, Cond.selects RX10 yX10_intOf yX10_intOf, Cond.code yX10_intOf cX10_intOf 5 (some .int), Cond.methodLink RX10 148 yX10_byteOf, Cond.instanceMethod yX10_byteOf, Cond.selects RX10 yX10_byteOf yX10_byteOf, Cond.code yX10_byteOf cX10_byteOf 4 (some .int), Cond.methodLink RX10 181 yX10_fill, Cond.instanceMethod yX10_fill, Cond.selects RX10 yX10_fill yX10_fill, Cond.code yX10_fill cX10_fill 8 none, Cond.fieldLink RX10 13 "ChainLoaderModel" "ram" "[I", Cond.fieldLink RX10 165 "ChainLoaderModel" "argumentLength" "I", Cond.constant RX10 172 (732803074), Cond.fieldLink RX10 60 "ChainLoaderModel" "record" "I", Cond.fieldLink RX10 35 "ChainLoaderModel" "arguments" "[I", Cond.methodLink RX10 173 yX10_put, Cond.instanceMethod yX10_put, Cond.selects RX10 yX10_put yX10_put]
def wsX10_load_r5 : List Cond := [Cond.code yX10_put cX10_put 4 none]
def wsX10_load : List Cond := .code yX10_load cX10_load 8 (some .int) :: ((wsX10_load_r1 ++ (wsX10_load_r2 ++ (wsX10_load_r3 ++ (wsX10_load_r4 ++ wsX10_load_r5)))) ++ wsX100)
def wsX10_boot_r1 : List Cond := [Cond.fieldLink RX10 29 "ChainLoaderModel" "kernel" "[I", Cond.fieldLink RX10 159 "ChainLoaderModel" "kernelLength" "I", Cond.fieldLink RX10 162 "ChainLoaderModel" "otherLength" "I", Cond.fieldLink RX10 32 "ChainLoaderModel" "other" "[I", Cond.methodLink RX10 132 yX10_volume, Cond.instanceMethod yX10_volume, Cond.selects RX10 yX10_volume yX10_volume, Cond.initialized RX10, Cond.code yX10_volume cX10_volume 7 (some .int), Cond.fieldLink RX10 7 "ChainLoaderModel" "disk" "[I", Cond.fieldLink RX10 60 "ChainLoaderModel" "record" "I", Cond.fieldLink RX10 63 "ChainLoaderModel" "clusterSectors" "I", Cond.fieldLink RX10 66 "ChainLoaderModel" "tables" "I", Cond.fieldLink RX10 69 "ChainLoaderModel" "tableSectors" "I", Cond.fieldLink RX10 72 "ChainLoaderModel" "root" "I", Cond.fieldLink RX10 75 "ChainLoaderModel" "clusters" "I", Cond.fieldLink RX10 78 "ChainLoaderModel" "tablesAt" "I", Cond.fieldLink RX10 81 "ChainLoaderModel" "clustersAt" "I", Cond.methodLink RX10 56 yX10_choose, Cond.instanceMethod yX10_choose, Cond.selects RX10 yX10_choose yX10_choose, Cond.code yX10_choose cX10_choose 2 (some .int), Cond.methodLink RX10 52 yX10_isUsable, Cond.instanceMethod yX10_isUsable]
def wsX10_boot_r2 : List Cond := [Cond.selects RX10 yX10_isUsable yX10_isUsable, Cond.code yX10_isUsable cX10_isUsable 3 (some .boolean), Cond.methodLink RX10 185 yX10_settings, Cond.instanceMethod yX10_settings, Cond.selects RX10 yX10_settings yX10_settings, Cond.code yX10_settings cX10_settings 6 (some .int), Cond.fieldLink RX10 23 "ChainLoaderModel" "path" "[I", Cond.fieldLink RX10 110 "ChainLoaderModel" "pathLength" "I", Cond.fieldLink RX10 165 "ChainLoaderModel" "argumentLength" "I", Cond.methodLink RX10 139 yX10_find, Cond.instanceMethod yX10_find, Cond.selects RX10 yX10_find yX10_find, Cond.code yX10_find cX10_find 4 (some .int), Cond.fieldLink RX10 107 "ChainLoaderModel" "nameCount" "I", Cond.fieldLink RX10 26 "ChainLoaderModel" "names" "[I", Cond.methodLink RX10 116 yX10_parse, Cond.instanceMethod yX10_parse, Cond.selects RX10 yX10_parse yX10_parse, Cond.code yX10_parse cX10_parse 6 (some .boolean), Cond.methodLink RX10 113 yX10_isLetter, Cond.instanceMethod yX10_isLetter, Cond.selects RX10 yX10_isLetter yX10_isLetter, Cond.code yX10_isLetter cX10_isLetter 2 (some .boolean), Cond.methodLink RX10 120 yX10_lookUp]
def wsX10_boot_r3 : List Cond := [Cond.instanceMethod yX10_lookUp, Cond.selects RX10 yX10_lookUp yX10_lookUp, Cond.code yX10_lookUp cX10_lookUp 6 (some .int), Cond.methodLink RX10 94 yX10_chain, Cond.instanceMethod yX10_chain, Cond.selects RX10 yX10_chain yX10_chain, Cond.code yX10_chain cX10_chain 4 (some .int), Cond.methodLink RX10 84 yX10_isCluster, Cond.instanceMethod yX10_isCluster, Cond.selects RX10 yX10_isCluster yX10_isCluster, Cond.code yX10_isCluster cX10_isCluster 2 (some .boolean), Cond.methodLink RX10 87 yX10_behind, Cond.instanceMethod yX10_behind, Cond.selects RX10 yX10_behind yX10_behind, Cond.code yX10_behind cX10_behind 3 (some .int), Cond.methodLink RX10 47 yX10_word, Cond.instanceMethod yX10_word, Cond.selects RX10 yX10_word yX10_word, Cond.code yX10_word cX10_word 2 (some .int), Cond.methodLink RX10 97 yX10_nth, Cond.instanceMethod yX10_nth, Cond.selects RX10 yX10_nth yX10_nth, Cond.code yX10_nth cX10_nth 5 (some .int), Cond.methodLink RX10 90 yX10_place]
def wsX10_boot_r4 : List Cond := [Cond.instanceMethod yX10_place, Cond.selects RX10 yX10_place yX10_place, Cond.code yX10_place cX10_place 6 (some .int), Cond.methodLink RX10 101 yX10_isPassed, Cond.instanceMethod yX10_isPassed, Cond.selects RX10 yX10_isPassed yX10_isPassed, Cond.code yX10_isPassed cX10_isPassed 2 (some .boolean), Cond.methodLink RX10 104 yX10_four, Cond.instanceMethod yX10_four, Cond.selects RX10 yX10_four yX10_four, Cond.code yX10_four cX10_four 2 (some .int), Cond.constant RX10 51 (65536), Cond.methodLink RX10 123 yX10_isDirectory, Cond.instanceMethod yX10_isDirectory, Cond.selects RX10 yX10_isDirectory yX10_isDirectory, Cond.code yX10_isDirectory cX10_isDirectory 2 (some .boolean), Cond.methodLink RX10 145 yX10_isBroken, Cond.instanceMethod yX10_isBroken, Cond.selects RX10 yX10_isBroken yX10_isBroken, Cond.code yX10_isBroken cX10_isBroken 4 (some .boolean), Cond.methodLink RX10 126 yX10_sizeAt, Cond.instanceMethod yX10_sizeAt, Cond.selects RX10 yX10_sizeAt yX10_sizeAt, Cond.code yX10_sizeAt cX10_sizeAt 2 (some .int)]
def wsX10_boot_r5 : List Cond := [Cond.methodLink RX10 148 yX10_byteOf, Cond.instanceMethod yX10_byteOf, Cond.selects RX10 yX10_byteOf yX10_byteOf, Cond.code yX10_byteOf cX10_byteOf 4 (some .int), Cond.methodLink RX10 168 yX10_line, Cond.instanceMethod yX10_line, Cond.selects RX10 yX10_line yX10_line, Cond.code yX10_line cX10_line 8 (some .boolean), Cond.fieldLink RX10 35 "ChainLoaderModel" "arguments" "[I", Cond.methodLink RX10 135 yX10_take, Cond.instanceMethod yX10_take, Cond.selects RX10 yX10_take yX10_take, Cond.code yX10_take cX10_take 4 none, Cond.methodLink RX10 188 yX10_load, Cond.instanceMethod yX10_load, Cond.selects RX10 yX10_load yX10_load, Cond.code yX10_load cX10_load 8 (some .int), Cond.constant RX10 180 (464367618), Cond.fieldLink RX10 16 "ChainLoaderModel" "start" "I", Cond.methodLink RX10 177 yX10_intOf, Cond.instanceMethod yX10_intOf, Cond.selects RX10 yX10_intOf yX10_intOf, Cond.code yX10_intOf cX10_intOf 5 (some .int), Cond.methodLink RX10 181 yX10_fill]
def wsX10_boot_r6 : List Cond := [Cond.instanceMethod yX10_fill, Cond.selects RX10 yX10_fill yX10_fill, Cond.code yX10_fill cX10_fill 8 none, Cond.fieldLink RX10 13 "ChainLoaderModel" "ram" "[I", Cond.constant RX10 172 (732803074), Cond.methodLink RX10 173 yX10_put, Cond.instanceMethod yX10_put, Cond.selects RX10 yX10_put yX10_put, Cond.code yX10_put cX10_put 4 none]
def wsX10_boot : List Cond := .code yX10_boot cX10_boot 3 (some .int) :: ((wsX10_boot_r1 ++ (wsX10_boot_r2 ++ (wsX10_boot_r3 ++ (wsX10_boot_r4 ++ (wsX10_boot_r5 ++ wsX10_boot_r6))))) ++ wsX100)
def wsX10_memory : List Cond := .code yX10_memory cX10_memory 2 (some .int) :: ([.fieldLink RX10 13 "ChainLoaderModel" "ram" "[I"] ++ wsX100)
def wsX10_entry : List Cond := .code yX10_entry cX10_entry 1 (some .int) :: ([.fieldLink RX10 16 "ChainLoaderModel" "start" "I"] ++ wsX100)
def wsL_law_r1 : List Cond := [Cond.classLink RL 7 RX9, Cond.instantiable RX9 11, Cond.initialized RX9, Cond.classLink RL 10 RX10, Cond.instantiable RX10 26, Cond.initialized RX10, Cond.constantLong RL 13 (4294967295), Cond.methodLink RL 9 yX9_init, Cond.instanceMethod yX9_init, Cond.code yX9_init cX9_init 1 none, Cond.methodLink RX9 1 objectInit, Cond.instanceMethod objectInit, Cond.code objectInit ⟨#[0xb1]⟩ 1 none, Cond.classLink RX9 7 RX0, Cond.instantiable RX0 1, Cond.initialized RX0, Cond.fieldLink RX9 14 "ChainLoader" "disk" "LChainLoader$Bytes;", Cond.fieldLink RX9 18 "ChainLoader" "ram" "LChainLoader$Bytes;", Cond.classLink RX9 21 RX8, Cond.instantiable RX8 9, Cond.initialized RX8, Cond.fieldLink RX9 26 "ChainLoader" "mounted" "LChainLoader$Volume;", Cond.classLink RX9 30 RX5, Cond.instantiable RX5 2]
def wsL_law_r2 : List Cond := [Cond.initialized RX5, Cond.fieldLink RX9 33 "ChainLoader" "path" "LChainLoader$Path;", Cond.classLink RX9 37 RX3, Cond.instantiable RX3 4, Cond.initialized RX3, Cond.fieldLink RX9 42 "ChainLoader" "files" "LChainLoader$Files;", Cond.classLink RX9 46 RX1, Cond.instantiable RX1 4, Cond.initialized RX1, Cond.fieldLink RX9 49 "ChainLoader" "census" "LChainLoader$Census;", Cond.classLink RX9 53 RX6, Cond.instantiable RX6 4, Cond.initialized RX6, Cond.fieldLink RX9 56 "ChainLoader" "settings" "LChainLoader$Settings;", Cond.classLink RX9 60 RX4, Cond.instantiable RX4 3, Cond.initialized RX4, Cond.fieldLink RX9 63 "ChainLoader" "kernel" "LChainLoader$Kernel;", Cond.arrayClass .int, Cond.fieldLink RX9 67 "ChainLoader" "typed" "[I", Cond.fieldLink RX9 71 "ChainLoader" "typedCount" "I", Cond.fieldLink RX9 75 "ChainLoader" "loadedEntry" "I", Cond.methodLink RX9 11 yX0_init, Cond.instanceMethod yX0_init]
def wsL_law_r3 : List Cond := [Cond.code yX0_init cX0_init 2 none, Cond.methodLink RX0 3 objectInit, Cond.arrayClass .byte, Cond.fieldLink RX0 9 "ChainLoader$Bytes" "cells" "[B", Cond.methodLink RX9 23 yX8_init, Cond.instanceMethod yX8_init, Cond.code yX8_init cX8_init 2 none, Cond.methodLink RX8 3 objectInit, Cond.fieldLink RX8 9 "ChainLoader$Volume" "disk" "LChainLoader$Bytes;", Cond.methodLink RX9 32 yX5_init, Cond.instanceMethod yX5_init, Cond.code yX5_init cX5_init 1 none, Cond.methodLink RX5 1 objectInit, Cond.fieldLink RX5 9 "ChainLoader$Path" "letters" "[I", Cond.methodLink RX9 39 yX3_init, Cond.instanceMethod yX3_init, Cond.code yX3_init cX3_init 3 none, Cond.methodLink RX3 3 objectInit, Cond.fieldLink RX3 9 "ChainLoader$Files" "disk" "LChainLoader$Bytes;", Cond.fieldLink RX3 15 "ChainLoader$Files" "mounted" "LChainLoader$Volume;", Cond.classLink RX3 19 RX2, Cond.instantiable RX2 5, Cond.initialized RX2, Cond.fieldLink RX3 24 "ChainLoader$Files" "directory" "LChainLoader$Chain;"]
def wsL_law_r4 : List Cond := [Cond.fieldLink RX3 28 "ChainLoader$Files" "content" "LChainLoader$Chain;", Cond.methodLink RX3 21 yX2_init, Cond.instanceMethod yX2_init, Cond.code yX2_init cX2_init 3 none, Cond.methodLink RX2 5 objectInit, Cond.fieldLink RX2 11 "ChainLoader$Chain" "disk" "LChainLoader$Bytes;", Cond.fieldLink RX2 15 "ChainLoader$Chain" "mounted" "LChainLoader$Volume;", Cond.fieldLink RX2 19 "ChainLoader$Chain" "places" "[I", Cond.methodLink RX9 48 yX1_init, Cond.instanceMethod yX1_init, Cond.code yX1_init cX1_init 4 none, Cond.methodLink RX1 3 objectInit, Cond.fieldLink RX1 9 "ChainLoader$Census" "mounted" "LChainLoader$Volume;", Cond.classLink RX1 15 RX2, Cond.fieldLink RX1 17 "ChainLoader$Census" "levels" "[LChainLoader$Chain;", Cond.methodLink RX1 21 yX2_init, Cond.methodLink RX9 55 yX6_init, Cond.instanceMethod yX6_init, Cond.code yX6_init cX6_init 1 none, Cond.methodLink RX6 1 objectInit, Cond.fieldLink RX6 9 "ChainLoader$Settings" "text" "[I", Cond.classLink RX6 13 RX7, Cond.instantiable RX7 3, Cond.initialized RX7]
def wsL_law_r5 : List Cond := [Cond.fieldLink RX6 16 "ChainLoader$Settings" "kernelPath" "LChainLoader$Value;", Cond.fieldLink RX6 20 "ChainLoader$Settings" "otherPath" "LChainLoader$Value;", Cond.fieldLink RX6 23 "ChainLoader$Settings" "arguments" "LChainLoader$Value;", Cond.instanceMethod yX7_init, Cond.code yX7_init cX7_init 1 none, Cond.methodLink RX7 1 objectInit, Cond.instanceMethod yX4_init, Cond.code yX4_init cX4_init 1 none, Cond.methodLink RX4 3 objectInit, Cond.methodLink RL 12 yX10_init, Cond.instanceMethod yX10_init, Cond.code yX10_init cX10_init 1 none, Cond.methodLink RX10 1 objectInit, Cond.fieldLink RX10 7 "ChainLoaderModel" "disk" "[I", Cond.fieldLink RX10 13 "ChainLoaderModel" "ram" "[I", Cond.fieldLink RX10 16 "ChainLoaderModel" "start" "I", Cond.fieldLink RX10 20 "ChainLoaderModel" "text" "[I", Cond.fieldLink RX10 23 "ChainLoaderModel" "path" "[I", Cond.fieldLink RX10 26 "ChainLoaderModel" "names" "[I", Cond.fieldLink RX10 29 "ChainLoaderModel" "kernel" "[I", Cond.fieldLink RX10 32 "ChainLoaderModel" "other" "[I", Cond.fieldLink RX10 35 "ChainLoaderModel" "arguments" "[I", Cond.fieldLink RX10 38 "ChainLoaderModel" "openAt" "[I", Cond.fieldLink RX10 41 "ChainLoaderModel" "openLength" "[I"]
def wsL_law_r6 : List Cond := [Cond.fieldLink RX10 44 "ChainLoaderModel" "openNext" "[I", Cond.methodLink RL 15 yX9_poke, Cond.instanceMethod yX9_poke, Cond.selects RX9 yX9_poke yX9_poke, Cond.code yX9_poke cX9_poke 5 (some .boolean), Cond.methodLink RX9 78 yX0_put, Cond.instanceMethod yX0_put, Cond.selects RX0 yX0_put yX0_put, Cond.code yX0_put cX0_put 6 (some .boolean), Cond.methodLink RL 19 yX10_poke, Cond.instanceMethod yX10_poke, Cond.selects RX10 yX10_poke yX10_poke, Cond.code yX10_poke cX10_poke 6 (some .boolean), Cond.methodLink RL 20 yX9_peek, Cond.instanceMethod yX9_peek, Cond.selects RX9 yX9_peek yX9_peek, Cond.code yX9_peek cX9_peek 2 (some .int), Cond.methodLink RX9 82 yX0_byteAt, Cond.instanceMethod yX0_byteAt, Cond.selects RX0 yX0_byteAt yX0_byteAt, Cond.code yX0_byteAt cX0_byteAt 2 (some .int), Cond.methodLink RL 24 yX10_peek, Cond.instanceMethod yX10_peek, Cond.selects RX10 yX10_peek yX10_peek]
def wsL_law_r7 : List Cond := [Cond.code yX10_peek cX10_peek 2 (some .int), Cond.methodLink RL 25 yX9_volume, Cond.instanceMethod yX9_volume, Cond.selects RX9 yX9_volume yX9_volume, Cond.code yX9_volume cX9_volume 1 (some .int), Cond.methodLink RX9 86 yX8_mount, Cond.instanceMethod yX8_mount, Cond.selects RX8 yX8_mount yX8_mount, Cond.code yX8_mount cX8_mount 2 (some .int), Cond.fieldLink RX8 23 "ChainLoader$Volume" "record" "I", Cond.fieldLink RX8 40 "ChainLoader$Volume" "clusters" "I", Cond.methodLink RX8 15 yX8_isSigned, Cond.instanceMethod yX8_isSigned, Cond.selects RX8 yX8_isSigned yX8_isSigned, Cond.code yX8_isSigned cX8_isSigned 2 (some .boolean), Cond.methodLink RX8 31 yX0_byteAt, Cond.methodLink RX8 19 yX8_choosePartition, Cond.instanceMethod yX8_choosePartition, Cond.selects RX8 yX8_choosePartition yX8_choosePartition, Cond.code yX8_choosePartition cX8_choosePartition 3 (some .int), Cond.methodLink RX8 43 yX8_isUsable, Cond.instanceMethod yX8_isUsable, Cond.selects RX8 yX8_isUsable yX8_isUsable, Cond.code yX8_isUsable cX8_isUsable 5 (some .boolean)]
def wsL_law_r8 : List Cond := [Cond.methodLink RX8 27 yX8_placeOfRecord, Cond.instanceMethod yX8_placeOfRecord, Cond.selects RX8 yX8_placeOfRecord yX8_placeOfRecord, Cond.code yX8_placeOfRecord cX8_placeOfRecord 2 (some .int), Cond.methodLink RX8 36 yX8_takeGeometry, Cond.instanceMethod yX8_takeGeometry, Cond.selects RX8 yX8_takeGeometry yX8_takeGeometry, Cond.code yX8_takeGeometry cX8_takeGeometry 7 (some .boolean), Cond.fieldLink RX8 46 "ChainLoader$Volume" "tables" "I", Cond.fieldLink RX8 49 "ChainLoader$Volume" "root" "I", Cond.fieldLink RX8 52 "ChainLoader$Volume" "clusterBytes" "I", Cond.fieldLink RX8 55 "ChainLoader$Volume" "tableBytes" "I", Cond.fieldLink RX8 58 "ChainLoader$Volume" "tablesPlace" "I", Cond.fieldLink RX8 61 "ChainLoader$Volume" "clustersPlace" "I", Cond.methodLink RX8 64 yX8_isCluster, Cond.instanceMethod yX8_isCluster, Cond.selects RX8 yX8_isCluster yX8_isCluster, Cond.code yX8_isCluster cX8_isCluster 2 (some .boolean), Cond.methodLink RL 29 yX10_volume, Cond.instanceMethod yX10_volume, Cond.selects RX10 yX10_volume yX10_volume, Cond.code yX10_volume cX10_volume 7 (some .int), Cond.fieldLink RX10 60 "ChainLoaderModel" "record" "I", Cond.fieldLink RX10 63 "ChainLoaderModel" "clusterSectors" "I"]
def wsL_law_r9 : List Cond := [Cond.fieldLink RX10 66 "ChainLoaderModel" "tables" "I", Cond.fieldLink RX10 69 "ChainLoaderModel" "tableSectors" "I", Cond.fieldLink RX10 72 "ChainLoaderModel" "root" "I", Cond.fieldLink RX10 75 "ChainLoaderModel" "clusters" "I", Cond.fieldLink RX10 78 "ChainLoaderModel" "tablesAt" "I", Cond.fieldLink RX10 81 "ChainLoaderModel" "clustersAt" "I", Cond.methodLink RX10 56 yX10_choose, Cond.instanceMethod yX10_choose, Cond.selects RX10 yX10_choose yX10_choose, Cond.code yX10_choose cX10_choose 2 (some .int), Cond.methodLink RX10 52 yX10_isUsable, Cond.instanceMethod yX10_isUsable, Cond.selects RX10 yX10_isUsable yX10_isUsable, Cond.code yX10_isUsable cX10_isUsable 3 (some .boolean), Cond.methodLink RL 30 yX9_type, Cond.instanceMethod yX9_type, Cond.selects RX9 yX9_type yX9_type, Cond.code yX9_type cX9_type 2 (some .boolean), Cond.methodLink RL 34 yX10_type, Cond.instanceMethod yX10_type, Cond.selects RX10 yX10_type yX10_type, Cond.code yX10_type cX10_type 2 (some .boolean), Cond.fieldLink RX10 129 "ChainLoaderModel" "textLength" "I", Cond.methodLink RL 35 yX9_scrap]
def wsL_law_r10 : List Cond := [Cond.instanceMethod yX9_scrap, Cond.selects RX9 yX9_scrap yX9_scrap, Cond.code yX9_scrap cX9_scrap 2 (some .int), Cond.methodLink RL 38 yX10_scrap, Cond.instanceMethod yX10_scrap, Cond.selects RX10 yX10_scrap yX10_scrap, Cond.code yX10_scrap cX10_scrap 2 (some .int), Cond.methodLink RL 39 yX9_size, Cond.instanceMethod yX9_size, Cond.selects RX9 yX9_size yX9_size, Cond.code yX9_size cX9_size 2 (some .int), Cond.methodLink RX9 90 yX9_findTypedFile, Cond.instanceMethod yX9_findTypedFile, Cond.selects RX9 yX9_findTypedFile yX9_findTypedFile, Cond.code yX9_findTypedFile cX9_findTypedFile 2 (some .int), Cond.methodLink RX9 136 yX5_parse, Cond.instanceMethod yX5_parse, Cond.selects RX5 yX5_parse yX5_parse, Cond.code yX5_parse cX5_parse 7 (some .boolean), Cond.fieldLink RX5 23 "ChainLoader$Path" "count" "I", Cond.methodLink RX5 13 yJ7_fill_53178, Cond.static yJ7_fill_53178, Cond.initialized RJ7, Cond.code yJ7_fill_53178 cJ7_fill_53178 4 none]
def wsL_law_r11 : List Cond := [Cond.methodLink RX5 19 yX5_isLetter, Cond.instanceMethod yX5_isLetter, Cond.selects RX5 yX5_isLetter yX5_isLetter, Cond.code yX5_isLetter cX5_isLetter 2 (some .boolean), Cond.methodLink RX9 140 yX3_findFile, Cond.instanceMethod yX3_findFile, Cond.selects RX3 yX3_findFile yX3_findFile, Cond.code yX3_findFile cX3_findFile 3 (some .int), Cond.methodLink RX3 65 yX3_find, Cond.instanceMethod yX3_find, Cond.selects RX3 yX3_find yX3_find, Cond.code yX3_find cX3_find 5 (some .int), Cond.fieldLink RX3 31 "ChainLoader$Volume" "root" "I", Cond.fieldLink RX3 37 "ChainLoader$Path" "count" "I", Cond.methodLink RX3 42 yX8_isDirectory, Cond.instanceMethod yX8_isDirectory, Cond.selects RX8 yX8_isDirectory yX8_isDirectory, Cond.code yX8_isDirectory cX8_isDirectory 2 (some .boolean), Cond.methodLink RX3 46 yX8_firstClusterOf, Cond.instanceMethod yX8_firstClusterOf, Cond.selects RX8 yX8_firstClusterOf yX8_firstClusterOf, Cond.code yX8_firstClusterOf cX8_firstClusterOf 2 (some .int), Cond.methodLink RX3 50 yX2_trace, Cond.instanceMethod yX2_trace]
def wsL_law_r12 : List Cond := [Cond.selects RX2 yX2_trace yX2_trace, Cond.code yX2_trace cX2_trace 3 (some .boolean), Cond.fieldLink RX2 23 "ChainLoader$Chain" "count" "I", Cond.fieldLink RX2 27 "ChainLoader$Chain" "nextSlot" "I", Cond.fieldLink RX2 30 "ChainLoader$Volume" "clusters" "I", Cond.methodLink RX2 35 yX8_isCluster, Cond.methodLink RX2 39 yX8_placeOfCluster, Cond.instanceMethod yX8_placeOfCluster, Cond.selects RX8 yX8_placeOfCluster yX8_placeOfCluster, Cond.code yX8_placeOfCluster cX8_placeOfCluster 2 (some .int), Cond.methodLink RX2 43 yX8_behind, Cond.instanceMethod yX8_behind, Cond.selects RX8 yX8_behind yX8_behind, Cond.code yX8_behind cX8_behind 4 (some .int), Cond.methodLink RX8 67 yX0_wordAt, Cond.instanceMethod yX0_wordAt, Cond.selects RX0 yX0_wordAt yX0_wordAt, Cond.code yX0_wordAt cX0_wordAt 2 (some .int), Cond.methodLink RX8 70 yX8_isEnd, Cond.instanceMethod yX8_isEnd, Cond.selects RX8 yX8_isEnd yX8_isEnd, Cond.code yX8_isEnd cX8_isEnd 2 (some .boolean), Cond.methodLink RX2 46 yX8_isEnd, Cond.methodLink RX3 53 yX3_findName]
def wsL_law_r13 : List Cond := [Cond.instanceMethod yX3_findName, Cond.selects RX3 yX3_findName yX3_findName, Cond.code yX3_findName cX3_findName 5 (some .int), Cond.methodLink RX3 57 yX2_nextEntry, Cond.instanceMethod yX2_nextEntry, Cond.selects RX2 yX2_nextEntry yX2_nextEntry, Cond.code yX2_nextEntry cX2_nextEntry 4 (some .int), Cond.methodLink RX2 61 yX2_bytes, Cond.instanceMethod yX2_bytes, Cond.selects RX2 yX2_bytes yX2_bytes, Cond.code yX2_bytes cX2_bytes 1 (some .int), Cond.fieldLink RX2 49 "ChainLoader$Volume" "clusterBytes" "I", Cond.methodLink RX2 52 yX2_placeOf, Cond.instanceMethod yX2_placeOf, Cond.selects RX2 yX2_placeOf yX2_placeOf, Cond.code yX2_placeOf cX2_placeOf 3 (some .int), Cond.methodLink RX2 55 yX0_byteAt, Cond.methodLink RX3 61 yX5_isNameAt, Cond.instanceMethod yX5_isNameAt, Cond.selects RX5 yX5_isNameAt yX5_isNameAt, Cond.code yX5_isNameAt cX5_isNameAt 5 (some .boolean), Cond.methodLink RX5 27 yX0_byteAt, Cond.methodLink RX9 93 yX8_sizeOf, Cond.instanceMethod yX8_sizeOf]
def wsL_law_r14 : List Cond := [Cond.selects RX8 yX8_sizeOf yX8_sizeOf, Cond.code yX8_sizeOf cX8_sizeOf 2 (some .int), Cond.methodLink RL 42 yX10_size, Cond.instanceMethod yX10_size, Cond.selects RX10 yX10_size yX10_size, Cond.code yX10_size cX10_size 2 (some .int), Cond.methodLink RX10 142 yX10_fileOfText, Cond.instanceMethod yX10_fileOfText, Cond.selects RX10 yX10_fileOfText yX10_fileOfText, Cond.code yX10_fileOfText cX10_fileOfText 3 (some .int), Cond.methodLink RX10 132 yX10_volume, Cond.methodLink RX10 135 yX10_take, Cond.instanceMethod yX10_take, Cond.selects RX10 yX10_take yX10_take, Cond.code yX10_take cX10_take 4 none, Cond.fieldLink RX10 110 "ChainLoaderModel" "pathLength" "I", Cond.methodLink RX10 139 yX10_find, Cond.instanceMethod yX10_find, Cond.selects RX10 yX10_find yX10_find, Cond.code yX10_find cX10_find 4 (some .int), Cond.fieldLink RX10 107 "ChainLoaderModel" "nameCount" "I", Cond.methodLink RX10 116 yX10_parse, Cond.instanceMethod yX10_parse, Cond.selects RX10 yX10_parse yX10_parse]
def wsL_law_r15 : List Cond := [Cond.code yX10_parse cX10_parse 6 (some .boolean), Cond.methodLink RX10 113 yX10_isLetter, Cond.instanceMethod yX10_isLetter, Cond.selects RX10 yX10_isLetter yX10_isLetter, Cond.code yX10_isLetter cX10_isLetter 2 (some .boolean), Cond.methodLink RX10 120 yX10_lookUp, Cond.instanceMethod yX10_lookUp, Cond.selects RX10 yX10_lookUp yX10_lookUp, Cond.code yX10_lookUp cX10_lookUp 6 (some .int), Cond.methodLink RX10 94 yX10_chain, Cond.instanceMethod yX10_chain, Cond.selects RX10 yX10_chain yX10_chain, Cond.code yX10_chain cX10_chain 4 (some .int), Cond.methodLink RX10 84 yX10_isCluster, Cond.instanceMethod yX10_isCluster, Cond.selects RX10 yX10_isCluster yX10_isCluster, Cond.code yX10_isCluster cX10_isCluster 2 (some .boolean), Cond.methodLink RX10 87 yX10_behind, Cond.instanceMethod yX10_behind, Cond.selects RX10 yX10_behind yX10_behind, Cond.code yX10_behind cX10_behind 3 (some .int), Cond.methodLink RX10 47 yX10_word, Cond.instanceMethod yX10_word, Cond.selects RX10 yX10_word yX10_word]
def wsL_law_r16 : List Cond := [Cond.code yX10_word cX10_word 2 (some .int), Cond.methodLink RX10 97 yX10_nth, Cond.instanceMethod yX10_nth, Cond.selects RX10 yX10_nth yX10_nth, Cond.code yX10_nth cX10_nth 5 (some .int), Cond.methodLink RX10 90 yX10_place, Cond.instanceMethod yX10_place, Cond.selects RX10 yX10_place yX10_place, Cond.code yX10_place cX10_place 6 (some .int), Cond.methodLink RX10 101 yX10_isPassed, Cond.instanceMethod yX10_isPassed, Cond.selects RX10 yX10_isPassed yX10_isPassed, Cond.code yX10_isPassed cX10_isPassed 2 (some .boolean), Cond.methodLink RX10 104 yX10_four, Cond.instanceMethod yX10_four, Cond.selects RX10 yX10_four yX10_four, Cond.code yX10_four cX10_four 2 (some .int), Cond.constant RX10 51 (65536), Cond.methodLink RX10 123 yX10_isDirectory, Cond.instanceMethod yX10_isDirectory, Cond.selects RX10 yX10_isDirectory yX10_isDirectory, Cond.code yX10_isDirectory cX10_isDirectory 2 (some .boolean), Cond.methodLink RX10 126 yX10_sizeAt, Cond.instanceMethod yX10_sizeAt]
def wsL_law_r17 : List Cond := [Cond.selects RX10 yX10_sizeAt yX10_sizeAt, Cond.code yX10_sizeAt cX10_sizeAt 2 (some .int), Cond.methodLink RL 43 yX9_read, Cond.instanceMethod yX9_read, Cond.selects RX9 yX9_read yX9_read, Cond.code yX9_read cX9_read 4 (some .int), Cond.fieldLink RX9 99 "ChainLoader$Files" "content" "LChainLoader$Chain;", Cond.methodLink RX9 96 yX3_open, Cond.instanceMethod yX3_open, Cond.selects RX3 yX3_open yX3_open, Cond.code yX3_open cX3_open 4 (some .int), Cond.methodLink RX3 69 yX8_sizeOf, Cond.methodLink RX3 72 yX2_bytes, Cond.methodLink RX9 103 yX2_byteAt, Cond.instanceMethod yX2_byteAt, Cond.selects RX2 yX2_byteAt yX2_byteAt, Cond.code yX2_byteAt cX2_byteAt 2 (some .int), Cond.methodLink RL 46 yX10_read, Cond.instanceMethod yX10_read, Cond.selects RX10 yX10_read yX10_read, Cond.code yX10_read cX10_read 3 (some .int), Cond.methodLink RX10 145 yX10_isBroken, Cond.instanceMethod yX10_isBroken, Cond.selects RX10 yX10_isBroken yX10_isBroken]
def wsL_law_r18 : List Cond := [Cond.code yX10_isBroken cX10_isBroken 4 (some .boolean), Cond.methodLink RX10 148 yX10_byteOf, Cond.instanceMethod yX10_byteOf, Cond.selects RX10 yX10_byteOf yX10_byteOf, Cond.code yX10_byteOf cX10_byteOf 4 (some .int), Cond.methodLink RL 47 yX9_list, Cond.instanceMethod yX9_list, Cond.selects RX9 yX9_list yX9_list, Cond.code yX9_list cX9_list 4 (some .long), Cond.methodLink RX9 106 yX9_findTypedDirectory, Cond.instanceMethod yX9_findTypedDirectory, Cond.selects RX9 yX9_findTypedDirectory yX9_findTypedDirectory, Cond.code yX9_findTypedDirectory cX9_findTypedDirectory 2 (some .int), Cond.fieldLink RX9 144 "ChainLoader$Volume" "root" "I", Cond.methodLink RX9 147 yX3_find, Cond.methodLink RX9 150 yX8_isDirectory, Cond.methodLink RX9 154 yX8_firstClusterOf, Cond.methodLink RX9 109 yX3_nameNumbered, Cond.instanceMethod yX3_nameNumbered, Cond.selects RX3 yX3_nameNumbered yX3_nameNumbered, Cond.code yX3_nameNumbered cX3_nameNumbered 5 (some .long), Cond.constantLong RX3 75 (-9), Cond.constantLong RX3 77 (-1), Cond.methodLink RX3 79 yX0_wordAt]
def wsL_law_r19 : List Cond := [Cond.methodLink RL 51 yX10_list, Cond.instanceMethod yX10_list, Cond.selects RX10 yX10_list yX10_list, Cond.code yX10_list cX10_list 8 (some .long), Cond.constantLong RX10 151 (-8), Cond.constantLong RX10 153 (-9), Cond.constantLong RX10 155 (4294967295), Cond.constantLong RX10 157 (-1), Cond.methodLink RL 52 yX9_survey, Cond.instanceMethod yX9_survey, Cond.selects RX9 yX9_survey yX9_survey, Cond.code yX9_survey cX9_survey 2 (some .int), Cond.methodLink RX9 113 yX1_countAll, Cond.instanceMethod yX1_countAll, Cond.selects RX1 yX1_countAll yX1_countAll, Cond.code yX1_countAll cX1_countAll 2 (some .int), Cond.fieldLink RX1 24 "ChainLoader$Census" "met" "I", Cond.fieldLink RX1 28 "ChainLoader$Census" "directories" "I", Cond.fieldLink RX1 31 "ChainLoader$Volume" "root" "I", Cond.methodLink RX1 36 yX1_countDirectory, Cond.instanceMethod yX1_countDirectory, Cond.selects RX1 yX1_countDirectory yX1_countDirectory, Cond.code yX1_countDirectory cX1_countDirectory 7 (some .int), Cond.methodLink RX1 40 yX2_trace]
def wsL_law_r20 : List Cond := [Cond.methodLink RX1 44 yX2_nextEntry, Cond.methodLink RX1 48 yX1_countEntry, Cond.instanceMethod yX1_countEntry, Cond.selects RX1 yX1_countEntry yX1_countEntry, Cond.code yX1_countEntry cX1_countEntry 3 (some .int), Cond.methodLink RX1 51 yX8_isDirectory, Cond.methodLink RX1 54 yX8_firstClusterOf, Cond.methodLink RL 55 yX10_survey, Cond.instanceMethod yX10_survey, Cond.selects RX10 yX10_survey yX10_survey, Cond.code yX10_survey cX10_survey 8 (some .int), Cond.methodLink RL 56 yX9_boot, Cond.instanceMethod yX9_boot, Cond.selects RX9 yX9_boot yX9_boot, Cond.code yX9_boot cX9_boot 4 (some .int), Cond.fieldLink RX9 119 "ChainLoader$Settings" "kernelPath" "LChainLoader$Value;", Cond.fieldLink RX9 127 "ChainLoader$Settings" "otherPath" "LChainLoader$Value;", Cond.fieldLink RX9 130 "ChainLoader$Value" "given" "Z", Cond.methodLink RX9 116 yX9_takeSettings, Cond.instanceMethod yX9_takeSettings, Cond.selects RX9 yX9_takeSettings yX9_takeSettings, Cond.code yX9_takeSettings cX9_takeSettings 3 (some .int), Cond.fieldLink RX9 157 "ChainLoader" "SETTINGS_NAME" "[I", Cond.methodLink RX9 160 yX6_take]
def wsL_law_r21 : List Cond := [Cond.instanceMethod yX6_take, Cond.selects RX6 yX6_take yX6_take, Cond.code yX6_take cX6_take 5 (some .boolean), Cond.fieldLink RX6 39 "ChainLoader$Value" "given" "Z", Cond.methodLink RX6 26 yX7_forget, Cond.instanceMethod yX7_forget, Cond.selects RX7 yX7_forget yX7_forget, Cond.code yX7_forget cX7_forget 1 none, Cond.fieldLink RX7 7 "ChainLoader$Value" "given" "Z", Cond.fieldLink RX7 13 "ChainLoader$Value" "from" "I", Cond.fieldLink RX7 17 "ChainLoader$Value" "to" "I", Cond.methodLink RX6 29 yX2_byteAt, Cond.methodLink RX6 35 yX6_takeLine, Cond.instanceMethod yX6_takeLine, Cond.selects RX6 yX6_takeLine yX6_takeLine, Cond.code yX6_takeLine cX6_takeLine 3 (some .boolean), Cond.methodLink RX6 43 yX7_set, Cond.instanceMethod yX7_set, Cond.selects RX7 yX7_set yX7_set, Cond.code yX7_set cX7_set 3 none, Cond.methodLink RX9 123 yX9_load, Cond.instanceMethod yX9_load, Cond.selects RX9 yX9_load yX9_load, Cond.code yX9_load cX9_load 4 (some .int)]
def wsL_law_r22 : List Cond := [Cond.fieldLink RX9 164 "ChainLoader$Settings" "text" "[I", Cond.fieldLink RX9 167 "ChainLoader$Value" "from" "I", Cond.fieldLink RX9 170 "ChainLoader$Value" "to" "I", Cond.fieldLink RX9 191 "ChainLoader$Kernel" "start" "I", Cond.methodLink RX9 173 yX4_takeHeader, Cond.instanceMethod yX4_takeHeader, Cond.selects RX4 yX4_takeHeader yX4_takeHeader, Cond.code yX4_takeHeader cX4_takeHeader 4 (some .boolean), Cond.fieldLink RX4 21 "ChainLoader$Kernel" "flags" "I", Cond.fieldLink RX4 25 "ChainLoader$Kernel" "address" "I", Cond.fieldLink RX4 28 "ChainLoader$Kernel" "start" "I", Cond.constant RX4 31 (464367618), Cond.methodLink RX4 9 yX4_findHeader, Cond.instanceMethod yX4_findHeader, Cond.selects RX4 yX4_findHeader yX4_findHeader, Cond.code yX4_findHeader cX4_findHeader 4 (some .int), Cond.methodLink RX4 15 yX2_intAt, Cond.instanceMethod yX2_intAt, Cond.selects RX2 yX2_intAt yX2_intAt, Cond.code yX2_intAt cX2_intAt 2 (some .int), Cond.methodLink RX2 60 yX2_byteAt, Cond.methodLink RX9 176 yX4_fits, Cond.instanceMethod yX4_fits, Cond.selects RX4 yX4_fits yX4_fits]
def wsL_law_r23 : List Cond := [Cond.code yX4_fits cX4_fits 2 (some .boolean), Cond.methodLink RX9 179 yX0_clear, Cond.instanceMethod yX0_clear, Cond.selects RX0 yX0_clear yX0_clear, Cond.code yX0_clear cX0_clear 1 none, Cond.methodLink RX0 15 yJ7_fill_031fb, Cond.static yJ7_fill_031fb, Cond.code yJ7_fill_031fb cJ7_fill_031fb 4 none, Cond.methodLink RX9 182 yX9_copyKernel, Cond.instanceMethod yX9_copyKernel, Cond.selects RX9 yX9_copyKernel yX9_copyKernel, Cond.code yX9_copyKernel cX9_copyKernel 3 none, Cond.fieldLink RX9 194 "ChainLoader$Kernel" "address" "I", Cond.methodLink RX9 185 yX9_writeInformation, Cond.instanceMethod yX9_writeInformation, Cond.selects RX9 yX9_writeInformation yX9_writeInformation, Cond.code yX9_writeInformation cX9_writeInformation 5 none, Cond.fieldLink RX9 201 "ChainLoader$Settings" "arguments" "LChainLoader$Value;", Cond.constantLong RX9 204 (732803074), Cond.fieldLink RX9 206 "ChainLoader$Volume" "record" "I", Cond.constant RX9 209 (732803074), Cond.methodLink RX9 197 yX4_wantsMemoryBytes, Cond.instanceMethod yX4_wantsMemoryBytes, Cond.selects RX4 yX4_wantsMemoryBytes yX4_wantsMemoryBytes]
def wsL_law_r24 : List Cond := [Cond.code yX4_wantsMemoryBytes cX4_wantsMemoryBytes 1 (some .boolean), Cond.methodLink RX9 188 yX9_copyArguments, Cond.instanceMethod yX9_copyArguments, Cond.selects RX9 yX9_copyArguments yX9_copyArguments, Cond.code yX9_copyArguments cX9_copyArguments 3 none, Cond.methodLink RL 59 yX10_boot, Cond.instanceMethod yX10_boot, Cond.selects RX10 yX10_boot yX10_boot, Cond.code yX10_boot cX10_boot 3 (some .int), Cond.fieldLink RX10 159 "ChainLoaderModel" "kernelLength" "I", Cond.fieldLink RX10 162 "ChainLoaderModel" "otherLength" "I", Cond.methodLink RX10 185 yX10_settings, Cond.instanceMethod yX10_settings, Cond.selects RX10 yX10_settings yX10_settings, Cond.code yX10_settings cX10_settings 6 (some .int), Cond.fieldLink RX10 165 "ChainLoaderModel" "argumentLength" "I", Cond.methodLink RX10 168 yX10_line, Cond.instanceMethod yX10_line, Cond.selects RX10 yX10_line yX10_line, Cond.code yX10_line cX10_line 8 (some .boolean), Cond.methodLink RX10 188 yX10_load, Cond.instanceMethod yX10_load, Cond.selects RX10 yX10_load yX10_load, Cond.code yX10_load cX10_load 8 (some .int)]
def wsL_law_r25 : List Cond := [Cond.constant RX10 180 (464367618), Cond.methodLink RX10 177 yX10_intOf, Cond.instanceMethod yX10_intOf, Cond.selects RX10 yX10_intOf yX10_intOf, Cond.code yX10_intOf cX10_intOf 5 (some .int), Cond.methodLink RX10 181 yX10_fill, Cond.instanceMethod yX10_fill, Cond.selects RX10 yX10_fill yX10_fill, Cond.code yX10_fill cX10_fill 8 none, Cond.constant RX10 172 (732803074), Cond.methodLink RX10 173 yX10_put, Cond.instanceMethod yX10_put, Cond.selects RX10 yX10_put yX10_put, Cond.code yX10_put cX10_put 4 none, Cond.methodLink RL 60 yX9_memory, Cond.instanceMethod yX9_memory, Cond.selects RX9 yX9_memory yX9_memory, Cond.code yX9_memory cX9_memory 2 (some .int), Cond.methodLink RL 63 yX10_memory, Cond.instanceMethod yX10_memory, Cond.selects RX10 yX10_memory yX10_memory, Cond.code yX10_memory cX10_memory 2 (some .int), Cond.methodLink RL 64 yX9_entry, Cond.instanceMethod yX9_entry]
def wsL_law_r26 : List Cond := [Cond.selects RX9 yX9_entry yX9_entry, Cond.code yX9_entry cX9_entry 1 (some .int), Cond.methodLink RL 67 yX10_entry, Cond.instanceMethod yX10_entry, Cond.selects RX10 yX10_entry yX10_entry, Cond.code yX10_entry cX10_entry 1 (some .int)]
def wsL_law : List Cond := (wsL_law_r1 ++ (wsL_law_r2 ++ (wsL_law_r3 ++ (wsL_law_r4 ++ (wsL_law_r5 ++ (wsL_law_r6 ++ (wsL_law_r7 ++ (wsL_law_r8 ++ (wsL_law_r9 ++ (wsL_law_r10 ++ (wsL_law_r11 ++ (wsL_law_r12 ++ (wsL_law_r13 ++ (wsL_law_r14 ++ (wsL_law_r15 ++ (wsL_law_r16 ++ (wsL_law_r17 ++ (wsL_law_r18 ++ (wsL_law_r19 ++ (wsL_law_r20 ++ (wsL_law_r21 ++ (wsL_law_r22 ++ (wsL_law_r23 ++ (wsL_law_r24 ++ (wsL_law_r25 ++ wsL_law_r26))))))))))))))))))))))))) ++ wsX90 ++ wsX100 ++ wsX00 ++ wsX80 ++ wsX50 ++ wsX30 ++ wsX10 ++ wsX60 ++ wsX40 ++ wsX20 ++ wsX70 ++ ([] : List Cond)
theorem inlX0 : ∀ w ∈ wsX00, w ∈ wsL_law := fun _ h => List.mem_append_left _ (List.mem_append_left _ (List.mem_append_left _ (List.mem_append_left _ (List.mem_append_left _ (List.mem_append_left _ (List.mem_append_left _ (List.mem_append_left _ (List.mem_append_left _ (List.mem_append_right _ h)))))))))
theorem inlX1 : ∀ w ∈ wsX10, w ∈ wsL_law := fun _ h => List.mem_append_left _ (List.mem_append_left _ (List.mem_append_left _ (List.mem_append_left _ (List.mem_append_left _ (List.mem_append_right _ h)))))
theorem inlX2 : ∀ w ∈ wsX20, w ∈ wsL_law := fun _ h => List.mem_append_left _ (List.mem_append_left _ (List.mem_append_right _ h))
theorem inlX3 : ∀ w ∈ wsX30, w ∈ wsL_law := fun _ h => List.mem_append_left _ (List.mem_append_left _ (List.mem_append_left _ (List.mem_append_left _ (List.mem_append_left _ (List.mem_append_left _ (List.mem_append_right _ h))))))
theorem inlX4 : ∀ w ∈ wsX40, w ∈ wsL_law := fun _ h => List.mem_append_left _ (List.mem_append_left _ (List.mem_append_left _ (List.mem_append_right _ h)))
theorem inlX5 : ∀ w ∈ wsX50, w ∈ wsL_law := fun _ h => List.mem_append_left _ (List.mem_append_left _ (List.mem_append_left _ (List.mem_append_left _ (List.mem_append_left _ (List.mem_append_left _ (List.mem_append_left _ (List.mem_append_right _ h)))))))
theorem inlX6 : ∀ w ∈ wsX60, w ∈ wsL_law := fun _ h => List.mem_append_left _ (List.mem_append_left _ (List.mem_append_left _ (List.mem_append_left _ (List.mem_append_right _ h))))
theorem inlX7 : ∀ w ∈ wsX70, w ∈ wsL_law := fun _ h => List.mem_append_left _ (List.mem_append_right _ h)
theorem inlX8 : ∀ w ∈ wsX80, w ∈ wsL_law := fun _ h => List.mem_append_left _ (List.mem_append_left _ (List.mem_append_left _ (List.mem_append_left _ (List.mem_append_left _ (List.mem_append_left _ (List.mem_append_left _ (List.mem_append_left _ (List.mem_append_right _ h))))))))
theorem inlX9 : ∀ w ∈ wsX90, w ∈ wsL_law := fun _ h => List.mem_append_left _ (List.mem_append_left _ (List.mem_append_left _ (List.mem_append_left _ (List.mem_append_left _ (List.mem_append_left _ (List.mem_append_left _ (List.mem_append_left _ (List.mem_append_left _ (List.mem_append_left _ (List.mem_append_left _ (List.mem_append_right _ h)))))))))))
theorem inlX10 : ∀ w ∈ wsX100, w ∈ wsL_law := fun _ h => List.mem_append_left _ (List.mem_append_left _ (List.mem_append_left _ (List.mem_append_left _ (List.mem_append_left _ (List.mem_append_left _ (List.mem_append_left _ (List.mem_append_left _ (List.mem_append_left _ (List.mem_append_left _ (List.mem_append_right _ h))))))))))
abbrev vwCl : List vw_C := [(RX0, TX0, 1), (RX1, TX1, 4), (RX2, TX2, 5), (RX3, TX3, 4), (RX4, TX4, 3), (RX5, TX5, 2), (RX6, TX6, 4), (RX7, TX7, 3), (RX8, TX8, 9), (RX9, TX9, 11), (RX10, TX10, 26)]
end
section
theorem dX0_init_0 : decode cX0_init 0 = .ok (.aload_n 0, 1) := by decide +kernel
theorem dX0_init_1 : decode cX0_init 1 = .ok (.invokespecial 3, 3) := by decide +kernel
theorem dX0_init_4 : decode cX0_init 4 = .ok (.aload_n 0, 1) := by decide +kernel
theorem dX0_init_5 : decode cX0_init 5 = .ok (.iload_n 1, 1) := by decide +kernel
theorem dX0_init_6 : decode cX0_init 6 = .ok (.newarray .byte, 2) := by decide +kernel
theorem dX0_init_8 : decode cX0_init 8 = .ok (.putfield 9, 3) := by decide +kernel
theorem dX0_init_11 : decode cX0_init 11 = .ok (.return_, 1) := by decide +kernel
theorem dX0_byteAt_0 : decode cX0_byteAt 0 = .ok (.iload_n 1, 1) := by decide +kernel
theorem dX0_byteAt_1 : decode cX0_byteAt 1 = .ok (.ifCond .lt 25, 3) := by decide +kernel
theorem dX0_byteAt_4 : decode cX0_byteAt 4 = .ok (.iload_n 1, 1) := by decide +kernel
theorem dX0_byteAt_5 : decode cX0_byteAt 5 = .ok (.aload_n 0, 1) := by decide +kernel
theorem dX0_byteAt_6 : decode cX0_byteAt 6 = .ok (.getfield 9, 3) := by decide +kernel
theorem dX0_byteAt_9 : decode cX0_byteAt 9 = .ok (.arraylength, 1) := by decide +kernel
theorem dX0_byteAt_10 : decode cX0_byteAt 10 = .ok (.if_icmp .ge 16, 3) := by decide +kernel
theorem dX0_byteAt_13 : decode cX0_byteAt 13 = .ok (.aload_n 0, 1) := by decide +kernel
theorem dX0_byteAt_14 : decode cX0_byteAt 14 = .ok (.getfield 9, 3) := by decide +kernel
theorem dX0_byteAt_17 : decode cX0_byteAt 17 = .ok (.iload_n 1, 1) := by decide +kernel
theorem dX0_byteAt_18 : decode cX0_byteAt 18 = .ok (.baload, 1) := by decide +kernel
theorem dX0_byteAt_19 : decode cX0_byteAt 19 = .ok (.sipush 255, 3) := by decide +kernel
theorem dX0_byteAt_22 : decode cX0_byteAt 22 = .ok (.iand, 1) := by decide +kernel
theorem dX0_byteAt_23 : decode cX0_byteAt 23 = .ok (.goto 4, 3) := by decide +kernel
theorem dX0_byteAt_26 : decode cX0_byteAt 26 = .ok (.iconst (-1), 1) := by decide +kernel
theorem dX0_byteAt_27 : decode cX0_byteAt 27 = .ok (.ireturn, 1) := by decide +kernel
theorem dX0_wordAt_0 : decode cX0_wordAt 0 = .ok (.iload_n 1, 1) := by decide +kernel
theorem dX0_wordAt_1 : decode cX0_wordAt 1 = .ok (.ifCond .lt 14, 3) := by decide +kernel
theorem dX0_wordAt_4 : decode cX0_wordAt 4 = .ok (.iload_n 1, 1) := by decide +kernel
theorem dX0_wordAt_5 : decode cX0_wordAt 5 = .ok (.aload_n 0, 1) := by decide +kernel
theorem dX0_wordAt_6 : decode cX0_wordAt 6 = .ok (.getfield 9, 3) := by decide +kernel
theorem dX0_wordAt_9 : decode cX0_wordAt 9 = .ok (.arraylength, 1) := by decide +kernel
theorem dX0_wordAt_10 : decode cX0_wordAt 10 = .ok (.iconst 1, 1) := by decide +kernel
theorem dX0_wordAt_11 : decode cX0_wordAt 11 = .ok (.isub, 1) := by decide +kernel
theorem dX0_wordAt_12 : decode cX0_wordAt 12 = .ok (.if_icmp .lt 5, 3) := by decide +kernel
theorem dX0_wordAt_15 : decode cX0_wordAt 15 = .ok (.iconst 0, 1) := by decide +kernel
theorem dX0_wordAt_16 : decode cX0_wordAt 16 = .ok (.ireturn, 1) := by decide +kernel
theorem dX0_wordAt_17 : decode cX0_wordAt 17 = .ok (.aload_n 0, 1) := by decide +kernel
theorem dX0_wordAt_18 : decode cX0_wordAt 18 = .ok (.getfield 9, 3) := by decide +kernel
theorem dX0_wordAt_21 : decode cX0_wordAt 21 = .ok (.iload_n 1, 1) := by decide +kernel
theorem dX0_wordAt_22 : decode cX0_wordAt 22 = .ok (.baload, 1) := by decide +kernel
theorem dX0_wordAt_23 : decode cX0_wordAt 23 = .ok (.sipush 255, 3) := by decide +kernel
theorem dX0_wordAt_26 : decode cX0_wordAt 26 = .ok (.iand, 1) := by decide +kernel
theorem dX0_wordAt_27 : decode cX0_wordAt 27 = .ok (.aload_n 0, 1) := by decide +kernel
theorem dX0_wordAt_28 : decode cX0_wordAt 28 = .ok (.getfield 9, 3) := by decide +kernel
theorem dX0_wordAt_31 : decode cX0_wordAt 31 = .ok (.iload_n 1, 1) := by decide +kernel
theorem dX0_wordAt_32 : decode cX0_wordAt 32 = .ok (.iconst 1, 1) := by decide +kernel
theorem dX0_wordAt_33 : decode cX0_wordAt 33 = .ok (.iadd, 1) := by decide +kernel
theorem dX0_wordAt_34 : decode cX0_wordAt 34 = .ok (.baload, 1) := by decide +kernel
theorem dX0_wordAt_35 : decode cX0_wordAt 35 = .ok (.sipush 255, 3) := by decide +kernel
theorem dX0_wordAt_38 : decode cX0_wordAt 38 = .ok (.iand, 1) := by decide +kernel
theorem dX0_wordAt_39 : decode cX0_wordAt 39 = .ok (.bipush 8, 2) := by decide +kernel
theorem dX0_wordAt_41 : decode cX0_wordAt 41 = .ok (.ishl, 1) := by decide +kernel
theorem dX0_wordAt_42 : decode cX0_wordAt 42 = .ok (.ior, 1) := by decide +kernel
theorem dX0_wordAt_43 : decode cX0_wordAt 43 = .ok (.ireturn, 1) := by decide +kernel
theorem dX0_put_0 : decode cX0_put 0 = .ok (.iload 4, 2) := by decide +kernel
theorem dX0_put_2 : decode cX0_put 2 = .ok (.iconst 1, 1) := by decide +kernel
theorem dX0_put_3 : decode cX0_put 3 = .ok (.if_icmp .lt 26, 3) := by decide +kernel
theorem dX0_put_6 : decode cX0_put 6 = .ok (.iload 4, 2) := by decide +kernel
theorem dX0_put_8 : decode cX0_put 8 = .ok (.bipush 8, 2) := by decide +kernel
theorem dX0_put_10 : decode cX0_put 10 = .ok (.if_icmp .gt 19, 3) := by decide +kernel
theorem dX0_put_13 : decode cX0_put 13 = .ok (.iload_n 1, 1) := by decide +kernel
theorem dX0_put_14 : decode cX0_put 14 = .ok (.ifCond .lt 15, 3) := by decide +kernel
theorem dX0_put_17 : decode cX0_put 17 = .ok (.iload_n 1, 1) := by decide +kernel
theorem dX0_put_18 : decode cX0_put 18 = .ok (.aload_n 0, 1) := by decide +kernel
theorem dX0_put_19 : decode cX0_put 19 = .ok (.getfield 9, 3) := by decide +kernel
theorem dX0_put_22 : decode cX0_put 22 = .ok (.arraylength, 1) := by decide +kernel
theorem dX0_put_23 : decode cX0_put 23 = .ok (.iload 4, 2) := by decide +kernel
theorem dX0_put_25 : decode cX0_put 25 = .ok (.isub, 1) := by decide +kernel
theorem dX0_put_26 : decode cX0_put 26 = .ok (.if_icmp .le 5, 3) := by decide +kernel
theorem dX0_put_29 : decode cX0_put 29 = .ok (.iconst 0, 1) := by decide +kernel
theorem dX0_put_30 : decode cX0_put 30 = .ok (.ireturn, 1) := by decide +kernel
theorem dX0_put_31 : decode cX0_put 31 = .ok (.iconst 0, 1) := by decide +kernel
theorem dX0_put_32 : decode cX0_put 32 = .ok (.istore 5, 2) := by decide +kernel
theorem dX0_put_34 : decode cX0_put 34 = .ok (.iload 5, 2) := by decide +kernel
theorem dX0_put_36 : decode cX0_put 36 = .ok (.iload 4, 2) := by decide +kernel
theorem dX0_put_38 : decode cX0_put 38 = .ok (.if_icmp .ge 27, 3) := by decide +kernel
theorem dX0_put_41 : decode cX0_put 41 = .ok (.aload_n 0, 1) := by decide +kernel
theorem dX0_put_42 : decode cX0_put 42 = .ok (.getfield 9, 3) := by decide +kernel
theorem dX0_put_45 : decode cX0_put 45 = .ok (.iload_n 1, 1) := by decide +kernel
theorem dX0_put_46 : decode cX0_put 46 = .ok (.iload 5, 2) := by decide +kernel
theorem dX0_put_48 : decode cX0_put 48 = .ok (.iadd, 1) := by decide +kernel
theorem dX0_put_49 : decode cX0_put 49 = .ok (.lload_n 2, 1) := by decide +kernel
theorem dX0_put_50 : decode cX0_put 50 = .ok (.bipush 8, 2) := by decide +kernel
theorem dX0_put_52 : decode cX0_put 52 = .ok (.iload 5, 2) := by decide +kernel
theorem dX0_put_54 : decode cX0_put 54 = .ok (.imul, 1) := by decide +kernel
theorem dX0_put_55 : decode cX0_put 55 = .ok (.lshr, 1) := by decide +kernel
theorem dX0_put_56 : decode cX0_put 56 = .ok (.l2i, 1) := by decide +kernel
theorem dX0_put_57 : decode cX0_put 57 = .ok (.i2b, 1) := by decide +kernel
theorem dX0_put_58 : decode cX0_put 58 = .ok (.bastore, 1) := by decide +kernel
theorem dX0_put_59 : decode cX0_put 59 = .ok (.iinc 5 1, 3) := by decide +kernel
theorem dX0_put_62 : decode cX0_put 62 = .ok (.goto (-28), 3) := by decide +kernel
theorem dX0_put_65 : decode cX0_put 65 = .ok (.iconst 1, 1) := by decide +kernel
theorem dX0_put_66 : decode cX0_put 66 = .ok (.ireturn, 1) := by decide +kernel
set_option maxRecDepth 20000 in
theorem ggX0_clear_J7_fill_031fb : GoodIn wsX0_clear wsJ7_fill_031fb := goodIn_r _ [5] (by decide +kernel) (by decide +kernel)
set_option maxRecDepth 20000 in
theorem gX0_clear_J7_fill_031fb : GoodIn wsX0_clear (va_wsS RX0 15 yJ7_fill_031fb wsJ7_fill_031fb) := goodIn_app (goodIn_of _ (by decide +kernel)) ggX0_clear_J7_fill_031fb
theorem dX0_clear_0 : decode cX0_clear 0 = .ok (.aload_n 0, 1) := by decide +kernel
theorem dX0_clear_1 : decode cX0_clear 1 = .ok (.getfield 9, 3) := by decide +kernel
theorem dX0_clear_4 : decode cX0_clear 4 = .ok (.iconst 0, 1) := by decide +kernel
theorem dX0_clear_5 : decode cX0_clear 5 = .ok (.invokestatic 15, 3) := by decide +kernel
theorem dX0_clear_8 : decode cX0_clear 8 = .ok (.return_, 1) := by decide +kernel
set_option maxRecDepth 20000 in
theorem ggX1_init_X2_init : GoodIn wsX1_init wsX2_init := goodIn_r _ [11, 12, 2, 3, 13, 14, 15, 16, 21, 22, 23, 24, 25] (by decide +kernel) (by decide +kernel)
set_option maxRecDepth 20000 in
theorem gX1_init_X2_init : GoodIn wsX1_init (wsX2_init) := ggX1_init_X2_init
theorem dX1_init_0 : decode cX1_init 0 = .ok (.aload_n 0, 1) := by decide +kernel
theorem dX1_init_1 : decode cX1_init 1 = .ok (.invokespecial 3, 3) := by decide +kernel
theorem dX1_init_4 : decode cX1_init 4 = .ok (.aload_n 0, 1) := by decide +kernel
theorem dX1_init_5 : decode cX1_init 5 = .ok (.aload_n 2, 1) := by decide +kernel
theorem dX1_init_6 : decode cX1_init 6 = .ok (.putfield 9, 3) := by decide +kernel
theorem dX1_init_9 : decode cX1_init 9 = .ok (.aload_n 0, 1) := by decide +kernel
theorem dX1_init_10 : decode cX1_init 10 = .ok (.iconst 5, 1) := by decide +kernel
theorem dX1_init_11 : decode cX1_init 11 = .ok (.anewarray 15, 3) := by decide +kernel
theorem dX1_init_14 : decode cX1_init 14 = .ok (.putfield 17, 3) := by decide +kernel
theorem dX1_init_17 : decode cX1_init 17 = .ok (.iconst 0, 1) := by decide +kernel
theorem dX1_init_18 : decode cX1_init 18 = .ok (.istore_n 3, 1) := by decide +kernel
theorem dX1_init_19 : decode cX1_init 19 = .ok (.iload_n 3, 1) := by decide +kernel
theorem dX1_init_20 : decode cX1_init 20 = .ok (.iconst 5, 1) := by decide +kernel
theorem dX1_init_21 : decode cX1_init 21 = .ok (.if_icmp .ge 24, 3) := by decide +kernel
theorem dX1_init_24 : decode cX1_init 24 = .ok (.aload_n 0, 1) := by decide +kernel
theorem dX1_init_25 : decode cX1_init 25 = .ok (.getfield 17, 3) := by decide +kernel
theorem dX1_init_28 : decode cX1_init 28 = .ok (.iload_n 3, 1) := by decide +kernel
theorem dX1_init_29 : decode cX1_init 29 = .ok (.new 15, 3) := by decide +kernel
theorem dX1_init_32 : decode cX1_init 32 = .ok (.dup, 1) := by decide +kernel
theorem dX1_init_33 : decode cX1_init 33 = .ok (.aload_n 1, 1) := by decide +kernel
theorem dX1_init_34 : decode cX1_init 34 = .ok (.aload_n 2, 1) := by decide +kernel
theorem dX1_init_35 : decode cX1_init 35 = .ok (.invokespecial 21, 3) := by decide +kernel
theorem dX1_init_38 : decode cX1_init 38 = .ok (.aastore, 1) := by decide +kernel
theorem dX1_init_39 : decode cX1_init 39 = .ok (.iinc 3 1, 3) := by decide +kernel
theorem dX1_init_42 : decode cX1_init 42 = .ok (.goto (-23), 3) := by decide +kernel
theorem dX1_init_45 : decode cX1_init 45 = .ok (.return_, 1) := by decide +kernel
set_option maxRecDepth 20000 in
theorem ggX1_countAll_X1_countDirectory : GoodIn wsX1_countAll wsX1_countDirectory := goodIn_r _ [9, 10, 11, 12, 13, 14, 15, 16, 17, 18, 19, 20, 21, 22, 23, 24, 25, 26, 27, 28, 29, 30, 31, 32, 33, 34, 35, 36, 37, 38, 39, 40, 41, 42, 43, 44, 45, 46, 47, 48, 49, 50, 51, 52, 53, 54, 55, 56, 57, 58, 59, 60, 61, 62, 63, 64, 65, 66, 67, 68, 69, 70, 71, 72, 73, 8, 74, 1, 3, 2, 75, 76, 77, 78, 79, 80, 81, 82, 83, 5, 6, 7, 84, 85, 86, 87, 97, 98, 99, 100, 101, 88, 89, 90, 91, 92, 93, 94, 95, 96, 102] (by decide +kernel) (by decide +kernel)
set_option maxRecDepth 20000 in
theorem gX1_countAll_X1_countDirectory : GoodIn wsX1_countAll (wsV RX1 36 RX1 yX1_countDirectory wsX1_countDirectory) := goodIn_app (goodIn_of _ (by decide +kernel)) ggX1_countAll_X1_countDirectory
theorem dX1_countAll_0 : decode cX1_countAll 0 = .ok (.aload_n 0, 1) := by decide +kernel
theorem dX1_countAll_1 : decode cX1_countAll 1 = .ok (.iconst 0, 1) := by decide +kernel
theorem dX1_countAll_2 : decode cX1_countAll 2 = .ok (.putfield 24, 3) := by decide +kernel
theorem dX1_countAll_5 : decode cX1_countAll 5 = .ok (.aload_n 0, 1) := by decide +kernel
theorem dX1_countAll_6 : decode cX1_countAll 6 = .ok (.iconst 0, 1) := by decide +kernel
theorem dX1_countAll_7 : decode cX1_countAll 7 = .ok (.putfield 28, 3) := by decide +kernel
theorem dX1_countAll_10 : decode cX1_countAll 10 = .ok (.aload_n 0, 1) := by decide +kernel
theorem dX1_countAll_11 : decode cX1_countAll 11 = .ok (.aload_n 0, 1) := by decide +kernel
theorem dX1_countAll_12 : decode cX1_countAll 12 = .ok (.getfield 9, 3) := by decide +kernel
theorem dX1_countAll_15 : decode cX1_countAll 15 = .ok (.getfield 31, 3) := by decide +kernel
theorem dX1_countAll_18 : decode cX1_countAll 18 = .ok (.iconst 0, 1) := by decide +kernel
theorem dX1_countAll_19 : decode cX1_countAll 19 = .ok (.invokevirtual 36, 3) := by decide +kernel
theorem dX1_countAll_22 : decode cX1_countAll 22 = .ok (.istore_n 1, 1) := by decide +kernel
theorem dX1_countAll_23 : decode cX1_countAll 23 = .ok (.iload_n 1, 1) := by decide +kernel
theorem dX1_countAll_24 : decode cX1_countAll 24 = .ok (.ifCond .ge 7, 3) := by decide +kernel
theorem dX1_countAll_27 : decode cX1_countAll 27 = .ok (.iload_n 1, 1) := by decide +kernel
theorem dX1_countAll_28 : decode cX1_countAll 28 = .ok (.goto 21, 3) := by decide +kernel
theorem dX1_countAll_31 : decode cX1_countAll 31 = .ok (.aload_n 0, 1) := by decide +kernel
theorem dX1_countAll_32 : decode cX1_countAll 32 = .ok (.getfield 24, 3) := by decide +kernel
theorem dX1_countAll_35 : decode cX1_countAll 35 = .ok (.aload_n 0, 1) := by decide +kernel
theorem dX1_countAll_36 : decode cX1_countAll 36 = .ok (.getfield 28, 3) := by decide +kernel
theorem dX1_countAll_39 : decode cX1_countAll 39 = .ok (.isub, 1) := by decide +kernel
theorem dX1_countAll_40 : decode cX1_countAll 40 = .ok (.sipush 1000, 3) := by decide +kernel
theorem dX1_countAll_43 : decode cX1_countAll 43 = .ok (.aload_n 0, 1) := by decide +kernel
theorem dX1_countAll_44 : decode cX1_countAll 44 = .ok (.getfield 28, 3) := by decide +kernel
theorem dX1_countAll_47 : decode cX1_countAll 47 = .ok (.imul, 1) := by decide +kernel
theorem dX1_countAll_48 : decode cX1_countAll 48 = .ok (.iadd, 1) := by decide +kernel
theorem dX1_countAll_49 : decode cX1_countAll 49 = .ok (.ireturn, 1) := by decide +kernel
set_option maxRecDepth 20000 in
theorem ggX1_countDirectory_X2_trace : GoodIn wsX1_countDirectory wsX2_trace := goodIn_r _ [6, 7, 8, 9, 10, 11, 12, 13, 14, 15, 16, 17, 18, 19, 20, 21, 22, 23, 24, 25, 26, 27, 28, 29, 30, 31, 32, 33, 34, 35, 36, 37, 38, 39, 40, 41, 42, 43, 86, 87, 88, 89, 90, 91, 92, 93, 94, 95, 96, 97, 98, 99, 100] (by decide +kernel) (by decide +kernel)
set_option maxRecDepth 20000 in
theorem gX1_countDirectory_X2_trace : GoodIn wsX1_countDirectory (wsV RX1 40 RX2 yX2_trace wsX2_trace) := goodIn_app (goodIn_of _ (by decide +kernel)) ggX1_countDirectory_X2_trace
set_option maxRecDepth 20000 in
theorem ggX1_countDirectory_X2_nextEntry : GoodIn wsX1_countDirectory wsX2_nextEntry := goodIn_r _ [47, 8, 48, 49, 50, 51, 5, 52, 7, 9, 53, 54, 55, 56, 57, 11, 58, 59, 60, 35, 61, 37, 86, 87, 88, 89, 90, 91, 92, 93, 94, 95, 96, 97, 98, 99, 100] (by decide +kernel) (by decide +kernel)
set_option maxRecDepth 20000 in
theorem gX1_countDirectory_X2_nextEntry : GoodIn wsX1_countDirectory (wsV RX1 44 RX2 yX2_nextEntry wsX2_nextEntry) := goodIn_app (goodIn_of _ (by decide +kernel)) ggX1_countDirectory_X2_nextEntry
set_option maxRecDepth 20000 in
theorem ggX1_countDirectory_X1_countEntry : GoodIn wsX1_countDirectory wsX1_countEntry := goodIn_r _ [66, 67, 68, 69, 70, 71, 72, 15, 73, 29, 74, 59, 60, 35, 61, 37, 75, 76, 77, 78, 79, 80, 81, 65, 0, 1, 2, 3, 4, 5, 6, 7, 8, 9, 10, 11, 12, 13, 14, 16, 17, 18, 19, 20, 21, 22, 23, 24, 25, 26, 27, 28, 30, 31, 32, 33, 34, 36, 38, 39, 40, 41, 42, 43, 44, 45, 46, 47, 48, 49, 50, 51, 52, 53, 54, 55, 56, 57, 58, 62, 63, 64, 82, 83, 84, 85, 86, 87, 88, 89, 90, 91, 92, 93, 94, 95, 96, 97, 98, 99, 100] (by decide +kernel) (by decide +kernel)
set_option maxRecDepth 20000 in
theorem gX1_countDirectory_X1_countEntry : GoodIn wsX1_countDirectory (wsV RX1 48 RX1 yX1_countEntry wsX1_countEntry) := goodIn_app (goodIn_of _ (by decide +kernel)) ggX1_countDirectory_X1_countEntry
theorem dX1_countDirectory_0 : decode cX1_countDirectory 0 = .ok (.iload_n 2, 1) := by decide +kernel
theorem dX1_countDirectory_1 : decode cX1_countDirectory 1 = .ok (.iconst 5, 1) := by decide +kernel
theorem dX1_countDirectory_2 : decode cX1_countDirectory 2 = .ok (.if_icmp .lt 6, 3) := by decide +kernel
theorem dX1_countDirectory_5 : decode cX1_countDirectory 5 = .ok (.bipush (-13), 2) := by decide +kernel
theorem dX1_countDirectory_7 : decode cX1_countDirectory 7 = .ok (.ireturn, 1) := by decide +kernel
theorem dX1_countDirectory_8 : decode cX1_countDirectory 8 = .ok (.aload_n 0, 1) := by decide +kernel
theorem dX1_countDirectory_9 : decode cX1_countDirectory 9 = .ok (.getfield 17, 3) := by decide +kernel
theorem dX1_countDirectory_12 : decode cX1_countDirectory 12 = .ok (.iload_n 2, 1) := by decide +kernel
theorem dX1_countDirectory_13 : decode cX1_countDirectory 13 = .ok (.aaload, 1) := by decide +kernel
theorem dX1_countDirectory_14 : decode cX1_countDirectory 14 = .ok (.astore_n 3, 1) := by decide +kernel
theorem dX1_countDirectory_15 : decode cX1_countDirectory 15 = .ok (.aload_n 3, 1) := by decide +kernel
theorem dX1_countDirectory_16 : decode cX1_countDirectory 16 = .ok (.iload_n 1, 1) := by decide +kernel
theorem dX1_countDirectory_17 : decode cX1_countDirectory 17 = .ok (.invokevirtual 40, 3) := by decide +kernel
theorem dX1_countDirectory_20 : decode cX1_countDirectory 20 = .ok (.ifCond .ne 6, 3) := by decide +kernel
theorem dX1_countDirectory_23 : decode cX1_countDirectory 23 = .ok (.bipush (-9), 2) := by decide +kernel
theorem dX1_countDirectory_25 : decode cX1_countDirectory 25 = .ok (.ireturn, 1) := by decide +kernel
theorem dX1_countDirectory_26 : decode cX1_countDirectory 26 = .ok (.iconst 0, 1) := by decide +kernel
theorem dX1_countDirectory_27 : decode cX1_countDirectory 27 = .ok (.istore 4, 2) := by decide +kernel
theorem dX1_countDirectory_29 : decode cX1_countDirectory 29 = .ok (.iload 4, 2) := by decide +kernel
theorem dX1_countDirectory_31 : decode cX1_countDirectory 31 = .ok (.sipush 256, 3) := by decide +kernel
theorem dX1_countDirectory_34 : decode cX1_countDirectory 34 = .ok (.if_icmp .ge 39, 3) := by decide +kernel
theorem dX1_countDirectory_37 : decode cX1_countDirectory 37 = .ok (.aload_n 3, 1) := by decide +kernel
theorem dX1_countDirectory_38 : decode cX1_countDirectory 38 = .ok (.invokevirtual 44, 3) := by decide +kernel
theorem dX1_countDirectory_41 : decode cX1_countDirectory 41 = .ok (.istore 5, 2) := by decide +kernel
theorem dX1_countDirectory_43 : decode cX1_countDirectory 43 = .ok (.iload 5, 2) := by decide +kernel
theorem dX1_countDirectory_45 : decode cX1_countDirectory 45 = .ok (.ifCond .ge 5, 3) := by decide +kernel
theorem dX1_countDirectory_48 : decode cX1_countDirectory 48 = .ok (.iconst 0, 1) := by decide +kernel
theorem dX1_countDirectory_49 : decode cX1_countDirectory 49 = .ok (.ireturn, 1) := by decide +kernel
theorem dX1_countDirectory_50 : decode cX1_countDirectory 50 = .ok (.aload_n 0, 1) := by decide +kernel
theorem dX1_countDirectory_51 : decode cX1_countDirectory 51 = .ok (.iload 5, 2) := by decide +kernel
theorem dX1_countDirectory_53 : decode cX1_countDirectory 53 = .ok (.iload_n 2, 1) := by decide +kernel
theorem dX1_countDirectory_54 : decode cX1_countDirectory 54 = .ok (.invokevirtual 48, 3) := by decide +kernel
theorem dX1_countDirectory_57 : decode cX1_countDirectory 57 = .ok (.istore 6, 2) := by decide +kernel
theorem dX1_countDirectory_59 : decode cX1_countDirectory 59 = .ok (.iload 6, 2) := by decide +kernel
theorem dX1_countDirectory_61 : decode cX1_countDirectory 61 = .ok (.ifCond .ge 6, 3) := by decide +kernel
theorem dX1_countDirectory_64 : decode cX1_countDirectory 64 = .ok (.iload 6, 2) := by decide +kernel
theorem dX1_countDirectory_66 : decode cX1_countDirectory 66 = .ok (.ireturn, 1) := by decide +kernel
theorem dX1_countDirectory_67 : decode cX1_countDirectory 67 = .ok (.iinc 4 1, 3) := by decide +kernel
theorem dX1_countDirectory_70 : decode cX1_countDirectory 70 = .ok (.goto (-41), 3) := by decide +kernel
theorem dX1_countDirectory_73 : decode cX1_countDirectory 73 = .ok (.iconst 0, 1) := by decide +kernel
theorem dX1_countDirectory_74 : decode cX1_countDirectory 74 = .ok (.ireturn, 1) := by decide +kernel
set_option maxRecDepth 20000 in
theorem ggX1_countEntry_X8_isDirectory : GoodIn wsX1_countEntry wsX8_isDirectory := goodIn_r _ [8, 9, 10, 11, 12, 13, 14, 15, 91, 92, 93, 94, 95, 96, 97, 98, 99, 100] (by decide +kernel) (by decide +kernel)
set_option maxRecDepth 20000 in
theorem gX1_countEntry_X8_isDirectory : GoodIn wsX1_countEntry (wsV RX1 51 RX8 yX8_isDirectory wsX8_isDirectory) := goodIn_app (goodIn_of _ (by decide +kernel)) ggX1_countEntry_X8_isDirectory
set_option maxRecDepth 20000 in
theorem ggX1_countEntry_X8_firstClusterOf : GoodIn wsX1_countEntry wsX8_firstClusterOf := goodIn_r _ [19, 9, 10, 11, 12, 13, 14, 15, 91, 92, 93, 94, 95, 96, 97, 98, 99, 100] (by decide +kernel) (by decide +kernel)
set_option maxRecDepth 20000 in
theorem gX1_countEntry_X8_firstClusterOf : GoodIn wsX1_countEntry (wsV RX1 54 RX8 yX8_firstClusterOf wsX8_firstClusterOf) := goodIn_app (goodIn_of _ (by decide +kernel)) ggX1_countEntry_X8_firstClusterOf
set_option maxRecDepth 20000 in
theorem ggX1_countEntry_X1_countDirectory : GoodIn wsX1_countEntry wsX1_countDirectory := goodIn_r _ [24, 25, 26, 27, 28, 29, 30, 31, 32, 33, 34, 35, 36, 37, 38, 7, 39, 40, 41, 42, 43, 44, 45, 46, 47, 48, 49, 50, 51, 9, 52, 53, 54, 55, 56, 13, 57, 15, 58, 59, 60, 61, 62, 63, 64, 65, 66, 67, 68, 69, 70, 71, 72, 73, 74, 75, 76, 77, 78, 11, 12, 14, 79, 80, 81, 23, 0, 1, 2, 3, 4, 5, 6, 8, 10, 16, 17, 18, 19, 20, 21, 22, 82, 83, 84, 85, 86, 87, 88, 89, 90, 91, 92, 93, 94, 95, 96, 97, 98, 99, 100] (by decide +kernel) (by decide +kernel)
set_option maxRecDepth 20000 in
theorem gX1_countEntry_X1_countDirectory : GoodIn wsX1_countEntry (wsV RX1 36 RX1 yX1_countDirectory wsX1_countDirectory) := goodIn_app (goodIn_of _ (by decide +kernel)) ggX1_countEntry_X1_countDirectory
theorem dX1_countEntry_0 : decode cX1_countEntry 0 = .ok (.aload_n 0, 1) := by decide +kernel
theorem dX1_countEntry_1 : decode cX1_countEntry 1 = .ok (.dup, 1) := by decide +kernel
theorem dX1_countEntry_2 : decode cX1_countEntry 2 = .ok (.getfield 24, 3) := by decide +kernel
theorem dX1_countEntry_5 : decode cX1_countEntry 5 = .ok (.iconst 1, 1) := by decide +kernel
theorem dX1_countEntry_6 : decode cX1_countEntry 6 = .ok (.iadd, 1) := by decide +kernel
theorem dX1_countEntry_7 : decode cX1_countEntry 7 = .ok (.putfield 24, 3) := by decide +kernel
theorem dX1_countEntry_10 : decode cX1_countEntry 10 = .ok (.aload_n 0, 1) := by decide +kernel
theorem dX1_countEntry_11 : decode cX1_countEntry 11 = .ok (.getfield 24, 3) := by decide +kernel
theorem dX1_countEntry_14 : decode cX1_countEntry 14 = .ok (.sipush 250, 3) := by decide +kernel
theorem dX1_countEntry_17 : decode cX1_countEntry 17 = .ok (.if_icmp .le 6, 3) := by decide +kernel
theorem dX1_countEntry_20 : decode cX1_countEntry 20 = .ok (.bipush (-14), 2) := by decide +kernel
theorem dX1_countEntry_22 : decode cX1_countEntry 22 = .ok (.ireturn, 1) := by decide +kernel
theorem dX1_countEntry_23 : decode cX1_countEntry 23 = .ok (.aload_n 0, 1) := by decide +kernel
theorem dX1_countEntry_24 : decode cX1_countEntry 24 = .ok (.getfield 9, 3) := by decide +kernel
theorem dX1_countEntry_27 : decode cX1_countEntry 27 = .ok (.iload_n 1, 1) := by decide +kernel
theorem dX1_countEntry_28 : decode cX1_countEntry 28 = .ok (.invokevirtual 51, 3) := by decide +kernel
theorem dX1_countEntry_31 : decode cX1_countEntry 31 = .ok (.ifCond .ne 5, 3) := by decide +kernel
theorem dX1_countEntry_34 : decode cX1_countEntry 34 = .ok (.iconst 0, 1) := by decide +kernel
theorem dX1_countEntry_35 : decode cX1_countEntry 35 = .ok (.ireturn, 1) := by decide +kernel
theorem dX1_countEntry_36 : decode cX1_countEntry 36 = .ok (.aload_n 0, 1) := by decide +kernel
theorem dX1_countEntry_37 : decode cX1_countEntry 37 = .ok (.dup, 1) := by decide +kernel
theorem dX1_countEntry_38 : decode cX1_countEntry 38 = .ok (.getfield 28, 3) := by decide +kernel
theorem dX1_countEntry_41 : decode cX1_countEntry 41 = .ok (.iconst 1, 1) := by decide +kernel
theorem dX1_countEntry_42 : decode cX1_countEntry 42 = .ok (.iadd, 1) := by decide +kernel
theorem dX1_countEntry_43 : decode cX1_countEntry 43 = .ok (.putfield 28, 3) := by decide +kernel
theorem dX1_countEntry_46 : decode cX1_countEntry 46 = .ok (.aload_n 0, 1) := by decide +kernel
theorem dX1_countEntry_47 : decode cX1_countEntry 47 = .ok (.aload_n 0, 1) := by decide +kernel
theorem dX1_countEntry_48 : decode cX1_countEntry 48 = .ok (.getfield 9, 3) := by decide +kernel
theorem dX1_countEntry_51 : decode cX1_countEntry 51 = .ok (.iload_n 1, 1) := by decide +kernel
theorem dX1_countEntry_52 : decode cX1_countEntry 52 = .ok (.invokevirtual 54, 3) := by decide +kernel
theorem dX1_countEntry_55 : decode cX1_countEntry 55 = .ok (.iload_n 2, 1) := by decide +kernel
theorem dX1_countEntry_56 : decode cX1_countEntry 56 = .ok (.iconst 1, 1) := by decide +kernel
theorem dX1_countEntry_57 : decode cX1_countEntry 57 = .ok (.iadd, 1) := by decide +kernel
theorem dX1_countEntry_58 : decode cX1_countEntry 58 = .ok (.invokevirtual 36, 3) := by decide +kernel
theorem dX1_countEntry_61 : decode cX1_countEntry 61 = .ok (.ireturn, 1) := by decide +kernel
theorem dX2_init_0 : decode cX2_init 0 = .ok (.aload_n 0, 1) := by decide +kernel
theorem dX2_init_1 : decode cX2_init 1 = .ok (.invokespecial 5, 3) := by decide +kernel
theorem dX2_init_4 : decode cX2_init 4 = .ok (.aload_n 0, 1) := by decide +kernel
theorem dX2_init_5 : decode cX2_init 5 = .ok (.aload_n 1, 1) := by decide +kernel
theorem dX2_init_6 : decode cX2_init 6 = .ok (.putfield 11, 3) := by decide +kernel
theorem dX2_init_9 : decode cX2_init 9 = .ok (.aload_n 0, 1) := by decide +kernel
theorem dX2_init_10 : decode cX2_init 10 = .ok (.aload_n 2, 1) := by decide +kernel
theorem dX2_init_11 : decode cX2_init 11 = .ok (.putfield 15, 3) := by decide +kernel
theorem dX2_init_14 : decode cX2_init 14 = .ok (.aload_n 0, 1) := by decide +kernel
theorem dX2_init_15 : decode cX2_init 15 = .ok (.bipush 64, 2) := by decide +kernel
theorem dX2_init_17 : decode cX2_init 17 = .ok (.newarray .int, 2) := by decide +kernel
theorem dX2_init_19 : decode cX2_init 19 = .ok (.putfield 19, 3) := by decide +kernel
theorem dX2_init_22 : decode cX2_init 22 = .ok (.return_, 1) := by decide +kernel
set_option maxRecDepth 20000 in
theorem ggX2_trace_X8_isCluster : GoodIn wsX2_trace wsX8_isCluster := goodIn_r _ [10, 11, 43, 44, 45, 46, 47, 48, 49, 50, 51] (by decide +kernel) (by decide +kernel)
set_option maxRecDepth 20000 in
theorem gX2_trace_X8_isCluster : GoodIn wsX2_trace (wsV RX2 35 RX8 yX8_isCluster wsX8_isCluster) := goodIn_app (goodIn_of _ (by decide +kernel)) ggX2_trace_X8_isCluster
set_option maxRecDepth 20000 in
theorem ggX2_trace_X8_placeOfCluster : GoodIn wsX2_trace wsX8_placeOfCluster := goodIn_r _ [15, 16, 17, 43, 44, 45, 46, 47, 48, 49, 50, 51] (by decide +kernel) (by decide +kernel)
set_option maxRecDepth 20000 in
theorem gX2_trace_X8_placeOfCluster : GoodIn wsX2_trace (wsV RX2 39 RX8 yX8_placeOfCluster wsX8_placeOfCluster) := goodIn_app (goodIn_of _ (by decide +kernel)) ggX2_trace_X8_placeOfCluster
set_option maxRecDepth 20000 in
theorem ggX2_trace_X8_behind : GoodIn wsX2_trace wsX8_behind := goodIn_r _ [21, 22, 23, 24, 25, 26, 27, 28, 29, 30, 31, 32, 7, 8, 9, 10, 11, 33, 34, 35, 36, 43, 44, 45, 46, 47, 48, 49, 50, 51, 52] (by decide +kernel) (by decide +kernel)
set_option maxRecDepth 20000 in
theorem gX2_trace_X8_behind : GoodIn wsX2_trace (wsV RX2 43 RX8 yX8_behind wsX8_behind) := goodIn_app (goodIn_of _ (by decide +kernel)) ggX2_trace_X8_behind
set_option maxRecDepth 20000 in
theorem ggX2_trace_X8_isEnd : GoodIn wsX2_trace wsX8_isEnd := goodIn_r _ [36] (by decide +kernel) (by decide +kernel)
set_option maxRecDepth 20000 in
theorem gX2_trace_X8_isEnd : GoodIn wsX2_trace (wsV RX2 46 RX8 yX8_isEnd wsX8_isEnd) := goodIn_app (goodIn_of _ (by decide +kernel)) ggX2_trace_X8_isEnd
theorem dX2_trace_0 : decode cX2_trace 0 = .ok (.aload_n 0, 1) := by decide +kernel
theorem dX2_trace_1 : decode cX2_trace 1 = .ok (.iconst 0, 1) := by decide +kernel
theorem dX2_trace_2 : decode cX2_trace 2 = .ok (.putfield 23, 3) := by decide +kernel
theorem dX2_trace_5 : decode cX2_trace 5 = .ok (.aload_n 0, 1) := by decide +kernel
theorem dX2_trace_6 : decode cX2_trace 6 = .ok (.iconst 0, 1) := by decide +kernel
theorem dX2_trace_7 : decode cX2_trace 7 = .ok (.putfield 27, 3) := by decide +kernel
theorem dX2_trace_10 : decode cX2_trace 10 = .ok (.iload_n 1, 1) := by decide +kernel
theorem dX2_trace_11 : decode cX2_trace 11 = .ok (.istore_n 2, 1) := by decide +kernel
theorem dX2_trace_12 : decode cX2_trace 12 = .ok (.aload_n 0, 1) := by decide +kernel
theorem dX2_trace_13 : decode cX2_trace 13 = .ok (.getfield 23, 3) := by decide +kernel
theorem dX2_trace_16 : decode cX2_trace 16 = .ok (.aload_n 0, 1) := by decide +kernel
theorem dX2_trace_17 : decode cX2_trace 17 = .ok (.getfield 15, 3) := by decide +kernel
theorem dX2_trace_20 : decode cX2_trace 20 = .ok (.getfield 30, 3) := by decide +kernel
theorem dX2_trace_23 : decode cX2_trace 23 = .ok (.if_icmp .ge 74, 3) := by decide +kernel
theorem dX2_trace_26 : decode cX2_trace 26 = .ok (.aload_n 0, 1) := by decide +kernel
theorem dX2_trace_27 : decode cX2_trace 27 = .ok (.getfield 23, 3) := by decide +kernel
theorem dX2_trace_30 : decode cX2_trace 30 = .ok (.bipush 64, 2) := by decide +kernel
theorem dX2_trace_32 : decode cX2_trace 32 = .ok (.if_icmp .ge 65, 3) := by decide +kernel
theorem dX2_trace_35 : decode cX2_trace 35 = .ok (.aload_n 0, 1) := by decide +kernel
theorem dX2_trace_36 : decode cX2_trace 36 = .ok (.getfield 15, 3) := by decide +kernel
theorem dX2_trace_39 : decode cX2_trace 39 = .ok (.iload_n 2, 1) := by decide +kernel
theorem dX2_trace_40 : decode cX2_trace 40 = .ok (.invokevirtual 35, 3) := by decide +kernel
theorem dX2_trace_43 : decode cX2_trace 43 = .ok (.ifCond .ne 5, 3) := by decide +kernel
theorem dX2_trace_46 : decode cX2_trace 46 = .ok (.iconst 0, 1) := by decide +kernel
theorem dX2_trace_47 : decode cX2_trace 47 = .ok (.ireturn, 1) := by decide +kernel
theorem dX2_trace_48 : decode cX2_trace 48 = .ok (.aload_n 0, 1) := by decide +kernel
theorem dX2_trace_49 : decode cX2_trace 49 = .ok (.getfield 19, 3) := by decide +kernel
theorem dX2_trace_52 : decode cX2_trace 52 = .ok (.aload_n 0, 1) := by decide +kernel
theorem dX2_trace_53 : decode cX2_trace 53 = .ok (.getfield 23, 3) := by decide +kernel
theorem dX2_trace_56 : decode cX2_trace 56 = .ok (.aload_n 0, 1) := by decide +kernel
theorem dX2_trace_57 : decode cX2_trace 57 = .ok (.getfield 15, 3) := by decide +kernel
theorem dX2_trace_60 : decode cX2_trace 60 = .ok (.iload_n 2, 1) := by decide +kernel
theorem dX2_trace_61 : decode cX2_trace 61 = .ok (.invokevirtual 39, 3) := by decide +kernel
theorem dX2_trace_64 : decode cX2_trace 64 = .ok (.iastore, 1) := by decide +kernel
theorem dX2_trace_65 : decode cX2_trace 65 = .ok (.aload_n 0, 1) := by decide +kernel
theorem dX2_trace_66 : decode cX2_trace 66 = .ok (.dup, 1) := by decide +kernel
theorem dX2_trace_67 : decode cX2_trace 67 = .ok (.getfield 23, 3) := by decide +kernel
theorem dX2_trace_70 : decode cX2_trace 70 = .ok (.iconst 1, 1) := by decide +kernel
theorem dX2_trace_71 : decode cX2_trace 71 = .ok (.iadd, 1) := by decide +kernel
theorem dX2_trace_72 : decode cX2_trace 72 = .ok (.putfield 23, 3) := by decide +kernel
theorem dX2_trace_75 : decode cX2_trace 75 = .ok (.aload_n 0, 1) := by decide +kernel
theorem dX2_trace_76 : decode cX2_trace 76 = .ok (.getfield 15, 3) := by decide +kernel
theorem dX2_trace_79 : decode cX2_trace 79 = .ok (.iload_n 2, 1) := by decide +kernel
theorem dX2_trace_80 : decode cX2_trace 80 = .ok (.invokevirtual 43, 3) := by decide +kernel
theorem dX2_trace_83 : decode cX2_trace 83 = .ok (.istore_n 2, 1) := by decide +kernel
theorem dX2_trace_84 : decode cX2_trace 84 = .ok (.aload_n 0, 1) := by decide +kernel
theorem dX2_trace_85 : decode cX2_trace 85 = .ok (.getfield 15, 3) := by decide +kernel
theorem dX2_trace_88 : decode cX2_trace 88 = .ok (.iload_n 2, 1) := by decide +kernel
theorem dX2_trace_89 : decode cX2_trace 89 = .ok (.invokevirtual 46, 3) := by decide +kernel
theorem dX2_trace_92 : decode cX2_trace 92 = .ok (.ifCond .eq (-80), 3) := by decide +kernel
theorem dX2_trace_95 : decode cX2_trace 95 = .ok (.iconst 1, 1) := by decide +kernel
theorem dX2_trace_96 : decode cX2_trace 96 = .ok (.ireturn, 1) := by decide +kernel
theorem dX2_trace_97 : decode cX2_trace 97 = .ok (.iconst 0, 1) := by decide +kernel
theorem dX2_trace_98 : decode cX2_trace 98 = .ok (.ireturn, 1) := by decide +kernel
theorem dX2_bytes_0 : decode cX2_bytes 0 = .ok (.aload_n 0, 1) := by decide +kernel
theorem dX2_bytes_1 : decode cX2_bytes 1 = .ok (.getfield 23, 3) := by decide +kernel
theorem dX2_bytes_4 : decode cX2_bytes 4 = .ok (.aload_n 0, 1) := by decide +kernel
theorem dX2_bytes_5 : decode cX2_bytes 5 = .ok (.getfield 15, 3) := by decide +kernel
theorem dX2_bytes_8 : decode cX2_bytes 8 = .ok (.getfield 49, 3) := by decide +kernel
theorem dX2_bytes_11 : decode cX2_bytes 11 = .ok (.imul, 1) := by decide +kernel
theorem dX2_bytes_12 : decode cX2_bytes 12 = .ok (.ireturn, 1) := by decide +kernel
theorem dX2_placeOf_0 : decode cX2_placeOf 0 = .ok (.aload_n 0, 1) := by decide +kernel
theorem dX2_placeOf_1 : decode cX2_placeOf 1 = .ok (.getfield 15, 3) := by decide +kernel
theorem dX2_placeOf_4 : decode cX2_placeOf 4 = .ok (.getfield 49, 3) := by decide +kernel
theorem dX2_placeOf_7 : decode cX2_placeOf 7 = .ok (.istore_n 2, 1) := by decide +kernel
theorem dX2_placeOf_8 : decode cX2_placeOf 8 = .ok (.iload_n 1, 1) := by decide +kernel
theorem dX2_placeOf_9 : decode cX2_placeOf 9 = .ok (.ifCond .lt 18, 3) := by decide +kernel
theorem dX2_placeOf_12 : decode cX2_placeOf 12 = .ok (.iload_n 2, 1) := by decide +kernel
theorem dX2_placeOf_13 : decode cX2_placeOf 13 = .ok (.iconst 1, 1) := by decide +kernel
theorem dX2_placeOf_14 : decode cX2_placeOf 14 = .ok (.if_icmp .lt 13, 3) := by decide +kernel
theorem dX2_placeOf_17 : decode cX2_placeOf 17 = .ok (.iload_n 1, 1) := by decide +kernel
theorem dX2_placeOf_18 : decode cX2_placeOf 18 = .ok (.iload_n 2, 1) := by decide +kernel
theorem dX2_placeOf_19 : decode cX2_placeOf 19 = .ok (.idiv, 1) := by decide +kernel
theorem dX2_placeOf_20 : decode cX2_placeOf 20 = .ok (.aload_n 0, 1) := by decide +kernel
theorem dX2_placeOf_21 : decode cX2_placeOf 21 = .ok (.getfield 23, 3) := by decide +kernel
theorem dX2_placeOf_24 : decode cX2_placeOf 24 = .ok (.if_icmp .lt 5, 3) := by decide +kernel
theorem dX2_placeOf_27 : decode cX2_placeOf 27 = .ok (.iconst (-1), 1) := by decide +kernel
theorem dX2_placeOf_28 : decode cX2_placeOf 28 = .ok (.ireturn, 1) := by decide +kernel
theorem dX2_placeOf_29 : decode cX2_placeOf 29 = .ok (.aload_n 0, 1) := by decide +kernel
theorem dX2_placeOf_30 : decode cX2_placeOf 30 = .ok (.getfield 19, 3) := by decide +kernel
theorem dX2_placeOf_33 : decode cX2_placeOf 33 = .ok (.iload_n 1, 1) := by decide +kernel
theorem dX2_placeOf_34 : decode cX2_placeOf 34 = .ok (.iload_n 2, 1) := by decide +kernel
theorem dX2_placeOf_35 : decode cX2_placeOf 35 = .ok (.idiv, 1) := by decide +kernel
theorem dX2_placeOf_36 : decode cX2_placeOf 36 = .ok (.iaload, 1) := by decide +kernel
theorem dX2_placeOf_37 : decode cX2_placeOf 37 = .ok (.iload_n 1, 1) := by decide +kernel
theorem dX2_placeOf_38 : decode cX2_placeOf 38 = .ok (.iload_n 2, 1) := by decide +kernel
theorem dX2_placeOf_39 : decode cX2_placeOf 39 = .ok (.irem, 1) := by decide +kernel
theorem dX2_placeOf_40 : decode cX2_placeOf 40 = .ok (.iadd, 1) := by decide +kernel
theorem dX2_placeOf_41 : decode cX2_placeOf 41 = .ok (.ireturn, 1) := by decide +kernel
set_option maxRecDepth 20000 in
theorem ggX2_byteAt_X2_placeOf : GoodIn wsX2_byteAt wsX2_placeOf := goodIn_r _ [6, 7, 8, 9, 10, 17, 18, 19, 20, 21, 22, 23, 24, 25, 26, 27, 28, 29, 30] (by decide +kernel) (by decide +kernel)
set_option maxRecDepth 20000 in
theorem gX2_byteAt_X2_placeOf : GoodIn wsX2_byteAt (wsV RX2 52 RX2 yX2_placeOf wsX2_placeOf) := goodIn_app (goodIn_of _ (by decide +kernel)) ggX2_byteAt_X2_placeOf
set_option maxRecDepth 20000 in
theorem ggX2_byteAt_X0_byteAt : GoodIn wsX2_byteAt wsX0_byteAt := goodIn_r _ [15, 16, 31] (by decide +kernel) (by decide +kernel)
set_option maxRecDepth 20000 in
theorem gX2_byteAt_X0_byteAt : GoodIn wsX2_byteAt (wsV RX2 55 RX0 yX0_byteAt wsX0_byteAt) := goodIn_app (goodIn_of _ (by decide +kernel)) ggX2_byteAt_X0_byteAt
theorem dX2_byteAt_0 : decode cX2_byteAt 0 = .ok (.aload_n 0, 1) := by decide +kernel
theorem dX2_byteAt_1 : decode cX2_byteAt 1 = .ok (.getfield 11, 3) := by decide +kernel
theorem dX2_byteAt_4 : decode cX2_byteAt 4 = .ok (.aload_n 0, 1) := by decide +kernel
theorem dX2_byteAt_5 : decode cX2_byteAt 5 = .ok (.iload_n 1, 1) := by decide +kernel
theorem dX2_byteAt_6 : decode cX2_byteAt 6 = .ok (.invokevirtual 52, 3) := by decide +kernel
theorem dX2_byteAt_9 : decode cX2_byteAt 9 = .ok (.invokevirtual 55, 3) := by decide +kernel
theorem dX2_byteAt_12 : decode cX2_byteAt 12 = .ok (.ireturn, 1) := by decide +kernel
set_option maxRecDepth 20000 in
theorem ggX2_intAt_X2_byteAt : GoodIn wsX2_intAt wsX2_byteAt := goodIn_r _ [5, 6, 7, 8, 9, 4, 10, 11, 12, 13, 14, 15, 16, 17, 18, 19, 20, 21, 22, 23, 24, 25, 26, 27, 28, 29, 30, 31, 32, 33, 34, 35] (by decide +kernel) (by decide +kernel)
set_option maxRecDepth 20000 in
theorem gX2_intAt_X2_byteAt : GoodIn wsX2_intAt (wsV RX2 60 RX2 yX2_byteAt wsX2_byteAt) := goodIn_app (goodIn_of _ (by decide +kernel)) ggX2_intAt_X2_byteAt
theorem dX2_intAt_0 : decode cX2_intAt 0 = .ok (.aload_n 0, 1) := by decide +kernel
theorem dX2_intAt_1 : decode cX2_intAt 1 = .ok (.iload_n 1, 1) := by decide +kernel
theorem dX2_intAt_2 : decode cX2_intAt 2 = .ok (.invokevirtual 60, 3) := by decide +kernel
theorem dX2_intAt_5 : decode cX2_intAt 5 = .ok (.aload_n 0, 1) := by decide +kernel
theorem dX2_intAt_6 : decode cX2_intAt 6 = .ok (.iload_n 1, 1) := by decide +kernel
theorem dX2_intAt_7 : decode cX2_intAt 7 = .ok (.iconst 1, 1) := by decide +kernel
theorem dX2_intAt_8 : decode cX2_intAt 8 = .ok (.iadd, 1) := by decide +kernel
theorem dX2_intAt_9 : decode cX2_intAt 9 = .ok (.invokevirtual 60, 3) := by decide +kernel
theorem dX2_intAt_12 : decode cX2_intAt 12 = .ok (.bipush 8, 2) := by decide +kernel
theorem dX2_intAt_14 : decode cX2_intAt 14 = .ok (.ishl, 1) := by decide +kernel
theorem dX2_intAt_15 : decode cX2_intAt 15 = .ok (.ior, 1) := by decide +kernel
theorem dX2_intAt_16 : decode cX2_intAt 16 = .ok (.aload_n 0, 1) := by decide +kernel
theorem dX2_intAt_17 : decode cX2_intAt 17 = .ok (.iload_n 1, 1) := by decide +kernel
theorem dX2_intAt_18 : decode cX2_intAt 18 = .ok (.iconst 2, 1) := by decide +kernel
theorem dX2_intAt_19 : decode cX2_intAt 19 = .ok (.iadd, 1) := by decide +kernel
theorem dX2_intAt_20 : decode cX2_intAt 20 = .ok (.invokevirtual 60, 3) := by decide +kernel
theorem dX2_intAt_23 : decode cX2_intAt 23 = .ok (.bipush 16, 2) := by decide +kernel
theorem dX2_intAt_25 : decode cX2_intAt 25 = .ok (.ishl, 1) := by decide +kernel
theorem dX2_intAt_26 : decode cX2_intAt 26 = .ok (.ior, 1) := by decide +kernel
theorem dX2_intAt_27 : decode cX2_intAt 27 = .ok (.aload_n 0, 1) := by decide +kernel
theorem dX2_intAt_28 : decode cX2_intAt 28 = .ok (.iload_n 1, 1) := by decide +kernel
theorem dX2_intAt_29 : decode cX2_intAt 29 = .ok (.iconst 3, 1) := by decide +kernel
theorem dX2_intAt_30 : decode cX2_intAt 30 = .ok (.iadd, 1) := by decide +kernel
theorem dX2_intAt_31 : decode cX2_intAt 31 = .ok (.invokevirtual 60, 3) := by decide +kernel
theorem dX2_intAt_34 : decode cX2_intAt 34 = .ok (.bipush 24, 2) := by decide +kernel
theorem dX2_intAt_36 : decode cX2_intAt 36 = .ok (.ishl, 1) := by decide +kernel
theorem dX2_intAt_37 : decode cX2_intAt 37 = .ok (.ior, 1) := by decide +kernel
theorem dX2_intAt_38 : decode cX2_intAt 38 = .ok (.ireturn, 1) := by decide +kernel
set_option maxRecDepth 20000 in
theorem ggX2_nextEntry_X2_bytes : GoodIn wsX2_nextEntry wsX2_bytes := goodIn_r _ [7, 8, 9, 10, 22, 23, 24, 25, 26, 27, 28, 29, 30, 31, 32, 33, 34, 35] (by decide +kernel) (by decide +kernel)
set_option maxRecDepth 20000 in
theorem gX2_nextEntry_X2_bytes : GoodIn wsX2_nextEntry (wsV RX2 61 RX2 yX2_bytes wsX2_bytes) := goodIn_app (goodIn_of _ (by decide +kernel)) ggX2_nextEntry_X2_bytes
set_option maxRecDepth 20000 in
theorem ggX2_nextEntry_X2_placeOf : GoodIn wsX2_nextEntry wsX2_placeOf := goodIn_r _ [14, 9, 10, 8, 15, 22, 23, 24, 25, 26, 27, 28, 29, 30, 31, 32, 33, 34, 35] (by decide +kernel) (by decide +kernel)
set_option maxRecDepth 20000 in
theorem gX2_nextEntry_X2_placeOf : GoodIn wsX2_nextEntry (wsV RX2 52 RX2 yX2_placeOf wsX2_placeOf) := goodIn_app (goodIn_of _ (by decide +kernel)) ggX2_nextEntry_X2_placeOf
set_option maxRecDepth 20000 in
theorem ggX2_nextEntry_X0_byteAt : GoodIn wsX2_nextEntry wsX0_byteAt := goodIn_r _ [20, 21, 36] (by decide +kernel) (by decide +kernel)
set_option maxRecDepth 20000 in
theorem gX2_nextEntry_X0_byteAt : GoodIn wsX2_nextEntry (wsV RX2 55 RX0 yX0_byteAt wsX0_byteAt) := goodIn_app (goodIn_of _ (by decide +kernel)) ggX2_nextEntry_X0_byteAt
theorem dX2_nextEntry_0 : decode cX2_nextEntry 0 = .ok (.aload_n 0, 1) := by decide +kernel
theorem dX2_nextEntry_1 : decode cX2_nextEntry 1 = .ok (.invokevirtual 61, 3) := by decide +kernel
theorem dX2_nextEntry_4 : decode cX2_nextEntry 4 = .ok (.bipush 8, 2) := by decide +kernel
theorem dX2_nextEntry_6 : decode cX2_nextEntry 6 = .ok (.idiv, 1) := by decide +kernel
theorem dX2_nextEntry_7 : decode cX2_nextEntry 7 = .ok (.istore_n 1, 1) := by decide +kernel
theorem dX2_nextEntry_8 : decode cX2_nextEntry 8 = .ok (.aload_n 0, 1) := by decide +kernel
theorem dX2_nextEntry_9 : decode cX2_nextEntry 9 = .ok (.getfield 27, 3) := by decide +kernel
theorem dX2_nextEntry_12 : decode cX2_nextEntry 12 = .ok (.iload_n 1, 1) := by decide +kernel
theorem dX2_nextEntry_13 : decode cX2_nextEntry 13 = .ok (.if_icmp .ge 68, 3) := by decide +kernel
theorem dX2_nextEntry_16 : decode cX2_nextEntry 16 = .ok (.aload_n 0, 1) := by decide +kernel
theorem dX2_nextEntry_17 : decode cX2_nextEntry 17 = .ok (.aload_n 0, 1) := by decide +kernel
theorem dX2_nextEntry_18 : decode cX2_nextEntry 18 = .ok (.getfield 27, 3) := by decide +kernel
theorem dX2_nextEntry_21 : decode cX2_nextEntry 21 = .ok (.bipush 8, 2) := by decide +kernel
theorem dX2_nextEntry_23 : decode cX2_nextEntry 23 = .ok (.imul, 1) := by decide +kernel
theorem dX2_nextEntry_24 : decode cX2_nextEntry 24 = .ok (.invokevirtual 52, 3) := by decide +kernel
theorem dX2_nextEntry_27 : decode cX2_nextEntry 27 = .ok (.istore_n 2, 1) := by decide +kernel
theorem dX2_nextEntry_28 : decode cX2_nextEntry 28 = .ok (.aload_n 0, 1) := by decide +kernel
theorem dX2_nextEntry_29 : decode cX2_nextEntry 29 = .ok (.getfield 11, 3) := by decide +kernel
theorem dX2_nextEntry_32 : decode cX2_nextEntry 32 = .ok (.iload_n 2, 1) := by decide +kernel
theorem dX2_nextEntry_33 : decode cX2_nextEntry 33 = .ok (.invokevirtual 55, 3) := by decide +kernel
theorem dX2_nextEntry_36 : decode cX2_nextEntry 36 = .ok (.istore_n 3, 1) := by decide +kernel
theorem dX2_nextEntry_37 : decode cX2_nextEntry 37 = .ok (.iload_n 3, 1) := by decide +kernel
theorem dX2_nextEntry_38 : decode cX2_nextEntry 38 = .ok (.ifCond .ne 5, 3) := by decide +kernel
theorem dX2_nextEntry_41 : decode cX2_nextEntry 41 = .ok (.iconst (-1), 1) := by decide +kernel
theorem dX2_nextEntry_42 : decode cX2_nextEntry 42 = .ok (.ireturn, 1) := by decide +kernel
theorem dX2_nextEntry_43 : decode cX2_nextEntry 43 = .ok (.aload_n 0, 1) := by decide +kernel
theorem dX2_nextEntry_44 : decode cX2_nextEntry 44 = .ok (.dup, 1) := by decide +kernel
theorem dX2_nextEntry_45 : decode cX2_nextEntry 45 = .ok (.getfield 27, 3) := by decide +kernel
theorem dX2_nextEntry_48 : decode cX2_nextEntry 48 = .ok (.iconst 1, 1) := by decide +kernel
theorem dX2_nextEntry_49 : decode cX2_nextEntry 49 = .ok (.iadd, 1) := by decide +kernel
theorem dX2_nextEntry_50 : decode cX2_nextEntry 50 = .ok (.putfield 27, 3) := by decide +kernel
theorem dX2_nextEntry_53 : decode cX2_nextEntry 53 = .ok (.iload_n 3, 1) := by decide +kernel
theorem dX2_nextEntry_54 : decode cX2_nextEntry 54 = .ok (.sipush 229, 3) := by decide +kernel
theorem dX2_nextEntry_57 : decode cX2_nextEntry 57 = .ok (.if_icmp .eq 21, 3) := by decide +kernel
theorem dX2_nextEntry_60 : decode cX2_nextEntry 60 = .ok (.aload_n 0, 1) := by decide +kernel
theorem dX2_nextEntry_61 : decode cX2_nextEntry 61 = .ok (.getfield 11, 3) := by decide +kernel
theorem dX2_nextEntry_64 : decode cX2_nextEntry 64 = .ok (.iload_n 2, 1) := by decide +kernel
theorem dX2_nextEntry_65 : decode cX2_nextEntry 65 = .ok (.iconst 4, 1) := by decide +kernel
theorem dX2_nextEntry_66 : decode cX2_nextEntry 66 = .ok (.iadd, 1) := by decide +kernel
theorem dX2_nextEntry_67 : decode cX2_nextEntry 67 = .ok (.invokevirtual 55, 3) := by decide +kernel
theorem dX2_nextEntry_70 : decode cX2_nextEntry 70 = .ok (.bipush 8, 2) := by decide +kernel
theorem dX2_nextEntry_72 : decode cX2_nextEntry 72 = .ok (.iand, 1) := by decide +kernel
theorem dX2_nextEntry_73 : decode cX2_nextEntry 73 = .ok (.ifCond .ne 5, 3) := by decide +kernel
theorem dX2_nextEntry_76 : decode cX2_nextEntry 76 = .ok (.iload_n 2, 1) := by decide +kernel
theorem dX2_nextEntry_77 : decode cX2_nextEntry 77 = .ok (.ireturn, 1) := by decide +kernel
theorem dX2_nextEntry_78 : decode cX2_nextEntry 78 = .ok (.goto (-70), 3) := by decide +kernel
theorem dX2_nextEntry_81 : decode cX2_nextEntry 81 = .ok (.iconst (-1), 1) := by decide +kernel
theorem dX2_nextEntry_82 : decode cX2_nextEntry 82 = .ok (.ireturn, 1) := by decide +kernel
set_option maxRecDepth 20000 in
theorem ggX3_init_X2_init : GoodIn wsX3_init wsX2_init := goodIn_r _ [13, 14, 2, 3, 15, 16, 17, 18, 23, 24, 25, 26, 27] (by decide +kernel) (by decide +kernel)
set_option maxRecDepth 20000 in
theorem gX3_init_X2_init : GoodIn wsX3_init (wsX2_init) := ggX3_init_X2_init
theorem dX3_init_0 : decode cX3_init 0 = .ok (.aload_n 0, 1) := by decide +kernel
theorem dX3_init_1 : decode cX3_init 1 = .ok (.invokespecial 3, 3) := by decide +kernel
theorem dX3_init_4 : decode cX3_init 4 = .ok (.aload_n 0, 1) := by decide +kernel
theorem dX3_init_5 : decode cX3_init 5 = .ok (.aload_n 1, 1) := by decide +kernel
theorem dX3_init_6 : decode cX3_init 6 = .ok (.putfield 9, 3) := by decide +kernel
theorem dX3_init_9 : decode cX3_init 9 = .ok (.aload_n 0, 1) := by decide +kernel
theorem dX3_init_10 : decode cX3_init 10 = .ok (.aload_n 2, 1) := by decide +kernel
theorem dX3_init_11 : decode cX3_init 11 = .ok (.putfield 15, 3) := by decide +kernel
theorem dX3_init_14 : decode cX3_init 14 = .ok (.aload_n 0, 1) := by decide +kernel
theorem dX3_init_15 : decode cX3_init 15 = .ok (.new 19, 3) := by decide +kernel
theorem dX3_init_18 : decode cX3_init 18 = .ok (.dup, 1) := by decide +kernel
theorem dX3_init_19 : decode cX3_init 19 = .ok (.aload_n 1, 1) := by decide +kernel
theorem dX3_init_20 : decode cX3_init 20 = .ok (.aload_n 2, 1) := by decide +kernel
theorem dX3_init_21 : decode cX3_init 21 = .ok (.invokespecial 21, 3) := by decide +kernel
theorem dX3_init_24 : decode cX3_init 24 = .ok (.putfield 24, 3) := by decide +kernel
theorem dX3_init_27 : decode cX3_init 27 = .ok (.aload_n 0, 1) := by decide +kernel
theorem dX3_init_28 : decode cX3_init 28 = .ok (.new 19, 3) := by decide +kernel
theorem dX3_init_31 : decode cX3_init 31 = .ok (.dup, 1) := by decide +kernel
theorem dX3_init_32 : decode cX3_init 32 = .ok (.aload_n 1, 1) := by decide +kernel
theorem dX3_init_33 : decode cX3_init 33 = .ok (.aload_n 2, 1) := by decide +kernel
theorem dX3_init_34 : decode cX3_init 34 = .ok (.invokespecial 21, 3) := by decide +kernel
theorem dX3_init_37 : decode cX3_init 37 = .ok (.putfield 28, 3) := by decide +kernel
theorem dX3_init_40 : decode cX3_init 40 = .ok (.return_, 1) := by decide +kernel
set_option maxRecDepth 20000 in
theorem ggX3_find_X8_isDirectory : GoodIn wsX3_find wsX8_isDirectory := goodIn_r _ [9, 10, 11, 12, 13, 14, 15, 16, 91, 92, 93, 94, 95, 96, 97, 98, 99, 102] (by decide +kernel) (by decide +kernel)
set_option maxRecDepth 20000 in
theorem gX3_find_X8_isDirectory : GoodIn wsX3_find (wsV RX3 42 RX8 yX8_isDirectory wsX8_isDirectory) := goodIn_app (goodIn_of _ (by decide +kernel)) ggX3_find_X8_isDirectory
set_option maxRecDepth 20000 in
theorem ggX3_find_X8_firstClusterOf : GoodIn wsX3_find wsX8_firstClusterOf := goodIn_r _ [20, 10, 11, 12, 13, 14, 15, 16, 91, 92, 93, 94, 95, 96, 97, 98, 99, 102] (by decide +kernel) (by decide +kernel)
set_option maxRecDepth 20000 in
theorem gX3_find_X8_firstClusterOf : GoodIn wsX3_find (wsV RX3 46 RX8 yX8_firstClusterOf wsX8_firstClusterOf) := goodIn_app (goodIn_of _ (by decide +kernel)) ggX3_find_X8_firstClusterOf
set_option maxRecDepth 20000 in
theorem ggX3_find_X2_trace : GoodIn wsX3_find wsX2_trace := goodIn_r _ [25, 26, 27, 28, 29, 30, 31, 32, 33, 8, 34, 35, 36, 37, 38, 39, 40, 41, 42, 43, 44, 45, 46, 10, 47, 48, 49, 50, 51, 14, 52, 16, 53, 54, 55, 56, 57, 58, 103, 104, 105, 106, 107, 91, 92, 93, 94, 95, 96, 97, 98, 99, 102] (by decide +kernel) (by decide +kernel)
set_option maxRecDepth 20000 in
theorem gX3_find_X2_trace : GoodIn wsX3_find (wsV RX3 50 RX2 yX2_trace wsX2_trace) := goodIn_app (goodIn_of _ (by decide +kernel)) ggX3_find_X2_trace
set_option maxRecDepth 20000 in
theorem ggX3_find_X3_findName : GoodIn wsX3_find wsX3_findName := goodIn_r _ [63, 4, 64, 65, 66, 67, 24, 68, 27, 69, 70, 71, 72, 73, 26, 28, 74, 75, 76, 77, 78, 30, 79, 12, 13, 14, 15, 16, 80, 81, 82, 83, 84, 85, 86, 87, 88, 89, 90, 103, 104, 105, 106, 107, 91, 92, 93, 94, 95, 96, 97, 98, 99, 102, 100, 101] (by decide +kernel) (by decide +kernel)
set_option maxRecDepth 20000 in
theorem gX3_find_X3_findName : GoodIn wsX3_find (wsV RX3 53 RX3 yX3_findName wsX3_findName) := goodIn_app (goodIn_of _ (by decide +kernel)) ggX3_find_X3_findName
theorem dX3_find_0 : decode cX3_find 0 = .ok (.aload_n 0, 1) := by decide +kernel
theorem dX3_find_1 : decode cX3_find 1 = .ok (.getfield 15, 3) := by decide +kernel
theorem dX3_find_4 : decode cX3_find 4 = .ok (.getfield 31, 3) := by decide +kernel
theorem dX3_find_7 : decode cX3_find 7 = .ok (.istore_n 2, 1) := by decide +kernel
theorem dX3_find_8 : decode cX3_find 8 = .ok (.bipush (-6), 2) := by decide +kernel
theorem dX3_find_10 : decode cX3_find 10 = .ok (.istore_n 3, 1) := by decide +kernel
theorem dX3_find_11 : decode cX3_find 11 = .ok (.iconst 0, 1) := by decide +kernel
theorem dX3_find_12 : decode cX3_find 12 = .ok (.istore 4, 2) := by decide +kernel
theorem dX3_find_14 : decode cX3_find 14 = .ok (.iload 4, 2) := by decide +kernel
theorem dX3_find_16 : decode cX3_find 16 = .ok (.aload_n 1, 1) := by decide +kernel
theorem dX3_find_17 : decode cX3_find 17 = .ok (.getfield 37, 3) := by decide +kernel
theorem dX3_find_20 : decode cX3_find 20 = .ok (.if_icmp .ge 66, 3) := by decide +kernel
theorem dX3_find_23 : decode cX3_find 23 = .ok (.iload 4, 2) := by decide +kernel
theorem dX3_find_25 : decode cX3_find 25 = .ok (.ifCond .le 26, 3) := by decide +kernel
theorem dX3_find_28 : decode cX3_find 28 = .ok (.aload_n 0, 1) := by decide +kernel
theorem dX3_find_29 : decode cX3_find 29 = .ok (.getfield 15, 3) := by decide +kernel
theorem dX3_find_32 : decode cX3_find 32 = .ok (.iload_n 3, 1) := by decide +kernel
theorem dX3_find_33 : decode cX3_find 33 = .ok (.invokevirtual 42, 3) := by decide +kernel
theorem dX3_find_36 : decode cX3_find 36 = .ok (.ifCond .ne 6, 3) := by decide +kernel
theorem dX3_find_39 : decode cX3_find 39 = .ok (.bipush (-8), 2) := by decide +kernel
theorem dX3_find_41 : decode cX3_find 41 = .ok (.ireturn, 1) := by decide +kernel
theorem dX3_find_42 : decode cX3_find 42 = .ok (.aload_n 0, 1) := by decide +kernel
theorem dX3_find_43 : decode cX3_find 43 = .ok (.getfield 15, 3) := by decide +kernel
theorem dX3_find_46 : decode cX3_find 46 = .ok (.iload_n 3, 1) := by decide +kernel
theorem dX3_find_47 : decode cX3_find 47 = .ok (.invokevirtual 46, 3) := by decide +kernel
theorem dX3_find_50 : decode cX3_find 50 = .ok (.istore_n 2, 1) := by decide +kernel
theorem dX3_find_51 : decode cX3_find 51 = .ok (.aload_n 0, 1) := by decide +kernel
theorem dX3_find_52 : decode cX3_find 52 = .ok (.getfield 24, 3) := by decide +kernel
theorem dX3_find_55 : decode cX3_find 55 = .ok (.iload_n 2, 1) := by decide +kernel
theorem dX3_find_56 : decode cX3_find 56 = .ok (.invokevirtual 50, 3) := by decide +kernel
theorem dX3_find_59 : decode cX3_find 59 = .ok (.ifCond .ne 6, 3) := by decide +kernel
theorem dX3_find_62 : decode cX3_find 62 = .ok (.bipush (-9), 2) := by decide +kernel
theorem dX3_find_64 : decode cX3_find 64 = .ok (.ireturn, 1) := by decide +kernel
theorem dX3_find_65 : decode cX3_find 65 = .ok (.aload_n 0, 1) := by decide +kernel
theorem dX3_find_66 : decode cX3_find 66 = .ok (.aload_n 1, 1) := by decide +kernel
theorem dX3_find_67 : decode cX3_find 67 = .ok (.iload 4, 2) := by decide +kernel
theorem dX3_find_69 : decode cX3_find 69 = .ok (.invokevirtual 53, 3) := by decide +kernel
theorem dX3_find_72 : decode cX3_find 72 = .ok (.istore_n 3, 1) := by decide +kernel
theorem dX3_find_73 : decode cX3_find 73 = .ok (.iload_n 3, 1) := by decide +kernel
theorem dX3_find_74 : decode cX3_find 74 = .ok (.ifCond .ge 6, 3) := by decide +kernel
theorem dX3_find_77 : decode cX3_find 77 = .ok (.bipush (-6), 2) := by decide +kernel
theorem dX3_find_79 : decode cX3_find 79 = .ok (.ireturn, 1) := by decide +kernel
theorem dX3_find_80 : decode cX3_find 80 = .ok (.iinc 4 1, 3) := by decide +kernel
theorem dX3_find_83 : decode cX3_find 83 = .ok (.goto (-69), 3) := by decide +kernel
theorem dX3_find_86 : decode cX3_find 86 = .ok (.iload_n 3, 1) := by decide +kernel
theorem dX3_find_87 : decode cX3_find 87 = .ok (.ireturn, 1) := by decide +kernel
set_option maxRecDepth 20000 in
theorem ggX3_findName_X2_nextEntry : GoodIn wsX3_findName wsX2_nextEntry := goodIn_r _ [7, 8, 9, 10, 11, 12, 6, 13, 14, 15, 16, 17, 18, 19, 20, 21, 22, 23, 24, 25, 26, 27, 39, 40, 41, 42, 43, 44, 45, 46, 47, 48, 49, 50, 51, 52, 53] (by decide +kernel) (by decide +kernel)
set_option maxRecDepth 20000 in
theorem gX3_findName_X2_nextEntry : GoodIn wsX3_findName (wsV RX3 57 RX2 yX2_nextEntry wsX2_nextEntry) := goodIn_app (goodIn_of _ (by decide +kernel)) ggX3_findName_X2_nextEntry
set_option maxRecDepth 20000 in
theorem ggX3_findName_X5_isNameAt : GoodIn wsX3_findName wsX5_isNameAt := goodIn_r _ [32, 33, 34, 23, 24, 25, 26, 27, 54, 55, 53] (by decide +kernel) (by decide +kernel)
set_option maxRecDepth 20000 in
theorem gX3_findName_X5_isNameAt : GoodIn wsX3_findName (wsV RX3 61 RX5 yX5_isNameAt wsX5_isNameAt) := goodIn_app (goodIn_of _ (by decide +kernel)) ggX3_findName_X5_isNameAt
theorem dX3_findName_0 : decode cX3_findName 0 = .ok (.iconst 0, 1) := by decide +kernel
theorem dX3_findName_1 : decode cX3_findName 1 = .ok (.istore_n 3, 1) := by decide +kernel
theorem dX3_findName_2 : decode cX3_findName 2 = .ok (.iload_n 3, 1) := by decide +kernel
theorem dX3_findName_3 : decode cX3_findName 3 = .ok (.sipush 256, 3) := by decide +kernel
theorem dX3_findName_6 : decode cX3_findName 6 = .ok (.if_icmp .ge 40, 3) := by decide +kernel
theorem dX3_findName_9 : decode cX3_findName 9 = .ok (.aload_n 0, 1) := by decide +kernel
theorem dX3_findName_10 : decode cX3_findName 10 = .ok (.getfield 24, 3) := by decide +kernel
theorem dX3_findName_13 : decode cX3_findName 13 = .ok (.invokevirtual 57, 3) := by decide +kernel
theorem dX3_findName_16 : decode cX3_findName 16 = .ok (.istore 4, 2) := by decide +kernel
theorem dX3_findName_18 : decode cX3_findName 18 = .ok (.iload 4, 2) := by decide +kernel
theorem dX3_findName_20 : decode cX3_findName 20 = .ok (.ifCond .lt 17, 3) := by decide +kernel
theorem dX3_findName_23 : decode cX3_findName 23 = .ok (.aload_n 1, 1) := by decide +kernel
theorem dX3_findName_24 : decode cX3_findName 24 = .ok (.iload_n 2, 1) := by decide +kernel
theorem dX3_findName_25 : decode cX3_findName 25 = .ok (.aload_n 0, 1) := by decide +kernel
theorem dX3_findName_26 : decode cX3_findName 26 = .ok (.getfield 9, 3) := by decide +kernel
theorem dX3_findName_29 : decode cX3_findName 29 = .ok (.iload 4, 2) := by decide +kernel
theorem dX3_findName_31 : decode cX3_findName 31 = .ok (.invokevirtual 61, 3) := by decide +kernel
theorem dX3_findName_34 : decode cX3_findName 34 = .ok (.ifCond .eq 6, 3) := by decide +kernel
theorem dX3_findName_37 : decode cX3_findName 37 = .ok (.iload 4, 2) := by decide +kernel
theorem dX3_findName_39 : decode cX3_findName 39 = .ok (.ireturn, 1) := by decide +kernel
theorem dX3_findName_40 : decode cX3_findName 40 = .ok (.iinc 3 1, 3) := by decide +kernel
theorem dX3_findName_43 : decode cX3_findName 43 = .ok (.goto (-41), 3) := by decide +kernel
theorem dX3_findName_46 : decode cX3_findName 46 = .ok (.iconst (-1), 1) := by decide +kernel
theorem dX3_findName_47 : decode cX3_findName 47 = .ok (.ireturn, 1) := by decide +kernel
set_option maxRecDepth 20000 in
theorem ggX3_findFile_X3_find : GoodIn wsX3_findFile wsX3_find := goodIn_r _ [6, 1, 7, 8, 9, 10, 11, 12, 13, 14, 15, 16, 17, 18, 19, 20, 21, 22, 23, 24, 25, 26, 27, 28, 29, 30, 31, 32, 33, 34, 35, 36, 37, 38, 39, 40, 41, 42, 43, 44, 45, 46, 47, 48, 49, 50, 51, 52, 53, 54, 55, 56, 57, 58, 59, 60, 61, 62, 63, 64, 65, 66, 5, 67, 68, 69, 70, 71, 72, 73, 74, 75, 76, 77, 78, 79, 80, 81, 82, 83, 84, 85, 86, 87, 88, 89, 90, 91, 92, 93, 94, 95, 96, 97, 98, 99, 100, 101, 102, 103, 104, 105, 106, 107, 108, 109, 110, 111] (by decide +kernel) (by decide +kernel)
set_option maxRecDepth 20000 in
theorem gX3_findFile_X3_find : GoodIn wsX3_findFile (wsV RX3 65 RX3 yX3_find wsX3_find) := goodIn_app (goodIn_of _ (by decide +kernel)) ggX3_findFile_X3_find
set_option maxRecDepth 20000 in
theorem ggX3_findFile_X8_isDirectory : GoodIn wsX3_findFile wsX8_isDirectory := goodIn_r _ [14, 15, 16, 17, 18, 19, 20, 21, 95, 96, 97, 98, 99, 100, 101, 102, 103, 106] (by decide +kernel) (by decide +kernel)
set_option maxRecDepth 20000 in
theorem gX3_findFile_X8_isDirectory : GoodIn wsX3_findFile (wsV RX3 42 RX8 yX8_isDirectory wsX8_isDirectory) := goodIn_app (goodIn_of _ (by decide +kernel)) ggX3_findFile_X8_isDirectory
theorem dX3_findFile_0 : decode cX3_findFile 0 = .ok (.aload_n 0, 1) := by decide +kernel
theorem dX3_findFile_1 : decode cX3_findFile 1 = .ok (.aload_n 1, 1) := by decide +kernel
theorem dX3_findFile_2 : decode cX3_findFile 2 = .ok (.invokevirtual 65, 3) := by decide +kernel
theorem dX3_findFile_5 : decode cX3_findFile 5 = .ok (.istore_n 2, 1) := by decide +kernel
theorem dX3_findFile_6 : decode cX3_findFile 6 = .ok (.iload_n 2, 1) := by decide +kernel
theorem dX3_findFile_7 : decode cX3_findFile 7 = .ok (.ifCond .lt 19, 3) := by decide +kernel
theorem dX3_findFile_10 : decode cX3_findFile 10 = .ok (.aload_n 0, 1) := by decide +kernel
theorem dX3_findFile_11 : decode cX3_findFile 11 = .ok (.getfield 15, 3) := by decide +kernel
theorem dX3_findFile_14 : decode cX3_findFile 14 = .ok (.iload_n 2, 1) := by decide +kernel
theorem dX3_findFile_15 : decode cX3_findFile 15 = .ok (.invokevirtual 42, 3) := by decide +kernel
theorem dX3_findFile_18 : decode cX3_findFile 18 = .ok (.ifCond .eq 8, 3) := by decide +kernel
theorem dX3_findFile_21 : decode cX3_findFile 21 = .ok (.bipush (-7), 2) := by decide +kernel
theorem dX3_findFile_23 : decode cX3_findFile 23 = .ok (.goto 4, 3) := by decide +kernel
theorem dX3_findFile_26 : decode cX3_findFile 26 = .ok (.iload_n 2, 1) := by decide +kernel
theorem dX3_findFile_27 : decode cX3_findFile 27 = .ok (.ireturn, 1) := by decide +kernel
set_option maxRecDepth 20000 in
theorem ggX3_open_X8_sizeOf : GoodIn wsX3_open wsX8_sizeOf := goodIn_r _ [7, 8, 9, 10, 11, 12, 13, 14, 66, 67, 68, 69, 70, 71, 72, 73, 74, 75] (by decide +kernel) (by decide +kernel)
set_option maxRecDepth 20000 in
theorem gX3_open_X8_sizeOf : GoodIn wsX3_open (wsV RX3 69 RX8 yX8_sizeOf wsX8_sizeOf) := goodIn_app (goodIn_of _ (by decide +kernel)) ggX3_open_X8_sizeOf
set_option maxRecDepth 20000 in
theorem ggX3_open_X8_firstClusterOf : GoodIn wsX3_open wsX8_firstClusterOf := goodIn_r _ [18, 8, 19, 20, 21, 12, 22, 14, 66, 67, 68, 69, 70, 71, 72, 73, 74, 75] (by decide +kernel) (by decide +kernel)
set_option maxRecDepth 20000 in
theorem gX3_open_X8_firstClusterOf : GoodIn wsX3_open (wsV RX3 46 RX8 yX8_firstClusterOf wsX8_firstClusterOf) := goodIn_app (goodIn_of _ (by decide +kernel)) ggX3_open_X8_firstClusterOf
set_option maxRecDepth 20000 in
theorem ggX3_open_X2_trace : GoodIn wsX3_open wsX2_trace := goodIn_r _ [27, 28, 29, 30, 31, 32, 33, 34, 35, 6, 36, 37, 38, 39, 40, 41, 42, 43, 44, 45, 46, 47, 48, 8, 49, 50, 9, 10, 11, 12, 13, 14, 51, 52, 53, 54, 55, 56, 76, 77, 78, 79, 80, 66, 67, 68, 69, 70, 71, 72, 73, 74, 75] (by decide +kernel) (by decide +kernel)
set_option maxRecDepth 20000 in
theorem gX3_open_X2_trace : GoodIn wsX3_open (wsV RX3 50 RX2 yX2_trace wsX2_trace) := goodIn_app (goodIn_of _ (by decide +kernel)) ggX3_open_X2_trace
set_option maxRecDepth 20000 in
theorem ggX3_open_X2_bytes : GoodIn wsX3_open wsX2_bytes := goodIn_r _ [60, 28, 30, 61, 76, 77, 78, 79, 80, 66, 67, 68, 69, 70, 71, 72, 73, 74] (by decide +kernel) (by decide +kernel)
set_option maxRecDepth 20000 in
theorem gX3_open_X2_bytes : GoodIn wsX3_open (wsV RX3 72 RX2 yX2_bytes wsX2_bytes) := goodIn_app (goodIn_of _ (by decide +kernel)) ggX3_open_X2_bytes
theorem dX3_open_0 : decode cX3_open 0 = .ok (.aload_n 0, 1) := by decide +kernel
theorem dX3_open_1 : decode cX3_open 1 = .ok (.getfield 15, 3) := by decide +kernel
theorem dX3_open_4 : decode cX3_open 4 = .ok (.iload_n 1, 1) := by decide +kernel
theorem dX3_open_5 : decode cX3_open 5 = .ok (.invokevirtual 69, 3) := by decide +kernel
theorem dX3_open_8 : decode cX3_open 8 = .ok (.istore_n 2, 1) := by decide +kernel
theorem dX3_open_9 : decode cX3_open 9 = .ok (.iload_n 2, 1) := by decide +kernel
theorem dX3_open_10 : decode cX3_open 10 = .ok (.ifCond .ne 5, 3) := by decide +kernel
theorem dX3_open_13 : decode cX3_open 13 = .ok (.iconst 0, 1) := by decide +kernel
theorem dX3_open_14 : decode cX3_open 14 = .ok (.ireturn, 1) := by decide +kernel
theorem dX3_open_15 : decode cX3_open 15 = .ok (.aload_n 0, 1) := by decide +kernel
theorem dX3_open_16 : decode cX3_open 16 = .ok (.getfield 28, 3) := by decide +kernel
theorem dX3_open_19 : decode cX3_open 19 = .ok (.aload_n 0, 1) := by decide +kernel
theorem dX3_open_20 : decode cX3_open 20 = .ok (.getfield 15, 3) := by decide +kernel
theorem dX3_open_23 : decode cX3_open 23 = .ok (.iload_n 1, 1) := by decide +kernel
theorem dX3_open_24 : decode cX3_open 24 = .ok (.invokevirtual 46, 3) := by decide +kernel
theorem dX3_open_27 : decode cX3_open 27 = .ok (.invokevirtual 50, 3) := by decide +kernel
theorem dX3_open_30 : decode cX3_open 30 = .ok (.ifCond .eq 18, 3) := by decide +kernel
theorem dX3_open_33 : decode cX3_open 33 = .ok (.aload_n 0, 1) := by decide +kernel
theorem dX3_open_34 : decode cX3_open 34 = .ok (.getfield 28, 3) := by decide +kernel
theorem dX3_open_37 : decode cX3_open 37 = .ok (.invokevirtual 72, 3) := by decide +kernel
theorem dX3_open_40 : decode cX3_open 40 = .ok (.iload_n 2, 1) := by decide +kernel
theorem dX3_open_41 : decode cX3_open 41 = .ok (.if_icmp .lt 7, 3) := by decide +kernel
theorem dX3_open_44 : decode cX3_open 44 = .ok (.iconst 1, 1) := by decide +kernel
theorem dX3_open_45 : decode cX3_open 45 = .ok (.goto 4, 3) := by decide +kernel
theorem dX3_open_48 : decode cX3_open 48 = .ok (.iconst 0, 1) := by decide +kernel
theorem dX3_open_49 : decode cX3_open 49 = .ok (.istore_n 3, 1) := by decide +kernel
theorem dX3_open_50 : decode cX3_open 50 = .ok (.iload_n 3, 1) := by decide +kernel
theorem dX3_open_51 : decode cX3_open 51 = .ok (.ifCond .eq 7, 3) := by decide +kernel
theorem dX3_open_54 : decode cX3_open 54 = .ok (.iload_n 2, 1) := by decide +kernel
theorem dX3_open_55 : decode cX3_open 55 = .ok (.goto 5, 3) := by decide +kernel
theorem dX3_open_58 : decode cX3_open 58 = .ok (.bipush (-9), 2) := by decide +kernel
theorem dX3_open_60 : decode cX3_open 60 = .ok (.ireturn, 1) := by decide +kernel
set_option maxRecDepth 20000 in
theorem ggX3_nameNumbered_X2_trace : GoodIn wsX3_nameNumbered wsX2_trace := goodIn_r _ [9, 10, 11, 12, 13, 14, 15, 16, 17, 18, 19, 20, 21, 22, 23, 24, 25, 26, 27, 28, 29, 30, 31, 32, 33, 34, 35, 36, 37, 38, 39, 40, 41, 42, 43, 44, 45, 46, 70, 71, 72, 73, 74, 75, 76, 77, 78, 79, 80, 81, 82, 83, 84] (by decide +kernel) (by decide +kernel)
set_option maxRecDepth 20000 in
theorem gX3_nameNumbered_X2_trace : GoodIn wsX3_nameNumbered (wsV RX3 50 RX2 yX2_trace wsX2_trace) := goodIn_app (goodIn_of _ (by decide +kernel)) ggX3_nameNumbered_X2_trace
set_option maxRecDepth 20000 in
theorem ggX3_nameNumbered_X2_nextEntry : GoodIn wsX3_nameNumbered wsX2_nextEntry := goodIn_r _ [50, 11, 51, 52, 53, 54, 8, 55, 10, 12, 56, 57, 58, 59, 60, 14, 61, 62, 63, 38, 64, 40, 70, 71, 72, 73, 74, 75, 76, 77, 78, 79, 80, 81, 82, 83, 84] (by decide +kernel) (by decide +kernel)
set_option maxRecDepth 20000 in
theorem gX3_nameNumbered_X2_nextEntry : GoodIn wsX3_nameNumbered (wsV RX3 57 RX2 yX2_nextEntry wsX2_nextEntry) := goodIn_app (goodIn_of _ (by decide +kernel)) ggX3_nameNumbered_X2_nextEntry
set_option maxRecDepth 20000 in
theorem ggX3_nameNumbered_X0_wordAt : GoodIn wsX3_nameNumbered wsX0_wordAt := goodIn_r _ [39, 40, 84] (by decide +kernel) (by decide +kernel)
set_option maxRecDepth 20000 in
theorem gX3_nameNumbered_X0_wordAt : GoodIn wsX3_nameNumbered (wsV RX3 79 RX0 yX0_wordAt wsX0_wordAt) := goodIn_app (goodIn_of _ (by decide +kernel)) ggX3_nameNumbered_X0_wordAt
theorem dX3_nameNumbered_0 : decode cX3_nameNumbered 0 = .ok (.aload_n 0, 1) := by decide +kernel
theorem dX3_nameNumbered_1 : decode cX3_nameNumbered 1 = .ok (.getfield 24, 3) := by decide +kernel
theorem dX3_nameNumbered_4 : decode cX3_nameNumbered 4 = .ok (.iload_n 1, 1) := by decide +kernel
theorem dX3_nameNumbered_5 : decode cX3_nameNumbered 5 = .ok (.invokevirtual 50, 3) := by decide +kernel
theorem dX3_nameNumbered_8 : decode cX3_nameNumbered 8 = .ok (.ifCond .ne 7, 3) := by decide +kernel
theorem dX3_nameNumbered_11 : decode cX3_nameNumbered 11 = .ok (.ldc2_w 75, 3) := by decide +kernel
theorem dX3_nameNumbered_14 : decode cX3_nameNumbered 14 = .ok (.lreturn, 1) := by decide +kernel
theorem dX3_nameNumbered_15 : decode cX3_nameNumbered 15 = .ok (.iconst 0, 1) := by decide +kernel
theorem dX3_nameNumbered_16 : decode cX3_nameNumbered 16 = .ok (.istore_n 3, 1) := by decide +kernel
theorem dX3_nameNumbered_17 : decode cX3_nameNumbered 17 = .ok (.iload_n 3, 1) := by decide +kernel
theorem dX3_nameNumbered_18 : decode cX3_nameNumbered 18 = .ok (.sipush 256, 3) := by decide +kernel
theorem dX3_nameNumbered_21 : decode cX3_nameNumbered 21 = .ok (.if_icmp .ge 59, 3) := by decide +kernel
theorem dX3_nameNumbered_24 : decode cX3_nameNumbered 24 = .ok (.aload_n 0, 1) := by decide +kernel
theorem dX3_nameNumbered_25 : decode cX3_nameNumbered 25 = .ok (.getfield 24, 3) := by decide +kernel
theorem dX3_nameNumbered_28 : decode cX3_nameNumbered 28 = .ok (.invokevirtual 57, 3) := by decide +kernel
theorem dX3_nameNumbered_31 : decode cX3_nameNumbered 31 = .ok (.istore 4, 2) := by decide +kernel
theorem dX3_nameNumbered_33 : decode cX3_nameNumbered 33 = .ok (.iload 4, 2) := by decide +kernel
theorem dX3_nameNumbered_35 : decode cX3_nameNumbered 35 = .ok (.ifCond .ge 7, 3) := by decide +kernel
theorem dX3_nameNumbered_38 : decode cX3_nameNumbered 38 = .ok (.ldc2_w 77, 3) := by decide +kernel
theorem dX3_nameNumbered_41 : decode cX3_nameNumbered 41 = .ok (.lreturn, 1) := by decide +kernel
theorem dX3_nameNumbered_42 : decode cX3_nameNumbered 42 = .ok (.iload_n 3, 1) := by decide +kernel
theorem dX3_nameNumbered_43 : decode cX3_nameNumbered 43 = .ok (.iload_n 2, 1) := by decide +kernel
theorem dX3_nameNumbered_44 : decode cX3_nameNumbered 44 = .ok (.if_icmp .ne 30, 3) := by decide +kernel
theorem dX3_nameNumbered_47 : decode cX3_nameNumbered 47 = .ok (.aload_n 0, 1) := by decide +kernel
theorem dX3_nameNumbered_48 : decode cX3_nameNumbered 48 = .ok (.getfield 9, 3) := by decide +kernel
theorem dX3_nameNumbered_51 : decode cX3_nameNumbered 51 = .ok (.iload 4, 2) := by decide +kernel
theorem dX3_nameNumbered_53 : decode cX3_nameNumbered 53 = .ok (.invokevirtual 79, 3) := by decide +kernel
theorem dX3_nameNumbered_56 : decode cX3_nameNumbered 56 = .ok (.i2l, 1) := by decide +kernel
theorem dX3_nameNumbered_57 : decode cX3_nameNumbered 57 = .ok (.aload_n 0, 1) := by decide +kernel
theorem dX3_nameNumbered_58 : decode cX3_nameNumbered 58 = .ok (.getfield 9, 3) := by decide +kernel
theorem dX3_nameNumbered_61 : decode cX3_nameNumbered 61 = .ok (.iload 4, 2) := by decide +kernel
theorem dX3_nameNumbered_63 : decode cX3_nameNumbered 63 = .ok (.iconst 2, 1) := by decide +kernel
theorem dX3_nameNumbered_64 : decode cX3_nameNumbered 64 = .ok (.iadd, 1) := by decide +kernel
theorem dX3_nameNumbered_65 : decode cX3_nameNumbered 65 = .ok (.invokevirtual 79, 3) := by decide +kernel
theorem dX3_nameNumbered_68 : decode cX3_nameNumbered 68 = .ok (.i2l, 1) := by decide +kernel
theorem dX3_nameNumbered_69 : decode cX3_nameNumbered 69 = .ok (.bipush 16, 2) := by decide +kernel
theorem dX3_nameNumbered_71 : decode cX3_nameNumbered 71 = .ok (.lshl, 1) := by decide +kernel
theorem dX3_nameNumbered_72 : decode cX3_nameNumbered 72 = .ok (.lor, 1) := by decide +kernel
theorem dX3_nameNumbered_73 : decode cX3_nameNumbered 73 = .ok (.lreturn, 1) := by decide +kernel
theorem dX3_nameNumbered_74 : decode cX3_nameNumbered 74 = .ok (.iinc 3 1, 3) := by decide +kernel
theorem dX3_nameNumbered_77 : decode cX3_nameNumbered 77 = .ok (.goto (-60), 3) := by decide +kernel
theorem dX3_nameNumbered_80 : decode cX3_nameNumbered 80 = .ok (.ldc2_w 77, 3) := by decide +kernel
theorem dX3_nameNumbered_83 : decode cX3_nameNumbered 83 = .ok (.lreturn, 1) := by decide +kernel
theorem dX4_init_0 : decode cX4_init 0 = .ok (.aload_n 0, 1) := by decide +kernel
theorem dX4_init_1 : decode cX4_init 1 = .ok (.invokespecial 3, 3) := by decide +kernel
theorem dX4_init_4 : decode cX4_init 4 = .ok (.return_, 1) := by decide +kernel
set_option maxRecDepth 20000 in
theorem ggX4_takeHeader_X4_findHeader : GoodIn wsX4_takeHeader wsX4_findHeader := goodIn_r _ [9, 4, 10, 11, 12, 13, 14, 15, 16, 17, 18, 19, 20, 21, 22, 23, 24, 25, 26, 27, 28, 29, 30, 31, 32, 33, 37, 38, 39, 40, 41, 42, 43, 44, 45, 46, 47, 48, 49, 50, 51] (by decide +kernel) (by decide +kernel)
set_option maxRecDepth 20000 in
theorem gX4_takeHeader_X4_findHeader : GoodIn wsX4_takeHeader (wsV RX4 9 RX4 yX4_findHeader wsX4_findHeader) := goodIn_app (goodIn_of _ (by decide +kernel)) ggX4_takeHeader_X4_findHeader
set_option maxRecDepth 20000 in
theorem ggX4_takeHeader_X2_intAt : GoodIn wsX4_takeHeader wsX2_intAt := goodIn_r _ [14, 15, 16, 17, 13, 18, 19, 20, 21, 22, 23, 24, 25, 26, 27, 28, 29, 30, 31, 32, 33, 37, 38, 39, 40, 41, 42, 43, 44, 45, 46, 47, 48, 49, 50, 51] (by decide +kernel) (by decide +kernel)
set_option maxRecDepth 20000 in
theorem gX4_takeHeader_X2_intAt : GoodIn wsX4_takeHeader (wsV RX4 15 RX2 yX2_intAt wsX2_intAt) := goodIn_app (goodIn_of _ (by decide +kernel)) ggX4_takeHeader_X2_intAt
theorem dX4_takeHeader_0 : decode cX4_takeHeader 0 = .ok (.aload_n 0, 1) := by decide +kernel
theorem dX4_takeHeader_1 : decode cX4_takeHeader 1 = .ok (.aload_n 1, 1) := by decide +kernel
theorem dX4_takeHeader_2 : decode cX4_takeHeader 2 = .ok (.iload_n 2, 1) := by decide +kernel
theorem dX4_takeHeader_3 : decode cX4_takeHeader 3 = .ok (.invokevirtual 9, 3) := by decide +kernel
theorem dX4_takeHeader_6 : decode cX4_takeHeader 6 = .ok (.istore_n 3, 1) := by decide +kernel
theorem dX4_takeHeader_7 : decode cX4_takeHeader 7 = .ok (.iload_n 3, 1) := by decide +kernel
theorem dX4_takeHeader_8 : decode cX4_takeHeader 8 = .ok (.ifCond .ge 5, 3) := by decide +kernel
theorem dX4_takeHeader_11 : decode cX4_takeHeader 11 = .ok (.iconst 0, 1) := by decide +kernel
theorem dX4_takeHeader_12 : decode cX4_takeHeader 12 = .ok (.ireturn, 1) := by decide +kernel
theorem dX4_takeHeader_13 : decode cX4_takeHeader 13 = .ok (.aload_n 0, 1) := by decide +kernel
theorem dX4_takeHeader_14 : decode cX4_takeHeader 14 = .ok (.aload_n 1, 1) := by decide +kernel
theorem dX4_takeHeader_15 : decode cX4_takeHeader 15 = .ok (.iload_n 3, 1) := by decide +kernel
theorem dX4_takeHeader_16 : decode cX4_takeHeader 16 = .ok (.iconst 4, 1) := by decide +kernel
theorem dX4_takeHeader_17 : decode cX4_takeHeader 17 = .ok (.iadd, 1) := by decide +kernel
theorem dX4_takeHeader_18 : decode cX4_takeHeader 18 = .ok (.invokevirtual 15, 3) := by decide +kernel
theorem dX4_takeHeader_21 : decode cX4_takeHeader 21 = .ok (.putfield 21, 3) := by decide +kernel
theorem dX4_takeHeader_24 : decode cX4_takeHeader 24 = .ok (.aload_n 0, 1) := by decide +kernel
theorem dX4_takeHeader_25 : decode cX4_takeHeader 25 = .ok (.aload_n 1, 1) := by decide +kernel
theorem dX4_takeHeader_26 : decode cX4_takeHeader 26 = .ok (.iload_n 3, 1) := by decide +kernel
theorem dX4_takeHeader_27 : decode cX4_takeHeader 27 = .ok (.bipush 12, 2) := by decide +kernel
theorem dX4_takeHeader_29 : decode cX4_takeHeader 29 = .ok (.iadd, 1) := by decide +kernel
theorem dX4_takeHeader_30 : decode cX4_takeHeader 30 = .ok (.invokevirtual 15, 3) := by decide +kernel
theorem dX4_takeHeader_33 : decode cX4_takeHeader 33 = .ok (.putfield 25, 3) := by decide +kernel
theorem dX4_takeHeader_36 : decode cX4_takeHeader 36 = .ok (.aload_n 0, 1) := by decide +kernel
theorem dX4_takeHeader_37 : decode cX4_takeHeader 37 = .ok (.aload_n 1, 1) := by decide +kernel
theorem dX4_takeHeader_38 : decode cX4_takeHeader 38 = .ok (.iload_n 3, 1) := by decide +kernel
theorem dX4_takeHeader_39 : decode cX4_takeHeader 39 = .ok (.bipush 16, 2) := by decide +kernel
theorem dX4_takeHeader_41 : decode cX4_takeHeader 41 = .ok (.iadd, 1) := by decide +kernel
theorem dX4_takeHeader_42 : decode cX4_takeHeader 42 = .ok (.invokevirtual 15, 3) := by decide +kernel
theorem dX4_takeHeader_45 : decode cX4_takeHeader 45 = .ok (.putfield 28, 3) := by decide +kernel
theorem dX4_takeHeader_48 : decode cX4_takeHeader 48 = .ok (.ldc 31, 2) := by decide +kernel
theorem dX4_takeHeader_50 : decode cX4_takeHeader 50 = .ok (.aload_n 0, 1) := by decide +kernel
theorem dX4_takeHeader_51 : decode cX4_takeHeader 51 = .ok (.getfield 21, 3) := by decide +kernel
theorem dX4_takeHeader_54 : decode cX4_takeHeader 54 = .ok (.iadd, 1) := by decide +kernel
theorem dX4_takeHeader_55 : decode cX4_takeHeader 55 = .ok (.aload_n 1, 1) := by decide +kernel
theorem dX4_takeHeader_56 : decode cX4_takeHeader 56 = .ok (.iload_n 3, 1) := by decide +kernel
theorem dX4_takeHeader_57 : decode cX4_takeHeader 57 = .ok (.bipush 8, 2) := by decide +kernel
theorem dX4_takeHeader_59 : decode cX4_takeHeader 59 = .ok (.iadd, 1) := by decide +kernel
theorem dX4_takeHeader_60 : decode cX4_takeHeader 60 = .ok (.invokevirtual 15, 3) := by decide +kernel
theorem dX4_takeHeader_63 : decode cX4_takeHeader 63 = .ok (.iadd, 1) := by decide +kernel
theorem dX4_takeHeader_64 : decode cX4_takeHeader 64 = .ok (.ifCond .eq 5, 3) := by decide +kernel
theorem dX4_takeHeader_67 : decode cX4_takeHeader 67 = .ok (.iconst 0, 1) := by decide +kernel
theorem dX4_takeHeader_68 : decode cX4_takeHeader 68 = .ok (.ireturn, 1) := by decide +kernel
theorem dX4_takeHeader_69 : decode cX4_takeHeader 69 = .ok (.aload_n 0, 1) := by decide +kernel
theorem dX4_takeHeader_70 : decode cX4_takeHeader 70 = .ok (.getfield 21, 3) := by decide +kernel
theorem dX4_takeHeader_73 : decode cX4_takeHeader 73 = .ok (.bipush (-4), 2) := by decide +kernel
theorem dX4_takeHeader_75 : decode cX4_takeHeader 75 = .ok (.iand, 1) := by decide +kernel
theorem dX4_takeHeader_76 : decode cX4_takeHeader 76 = .ok (.ifCond .eq 5, 3) := by decide +kernel
theorem dX4_takeHeader_79 : decode cX4_takeHeader 79 = .ok (.iconst 0, 1) := by decide +kernel
theorem dX4_takeHeader_80 : decode cX4_takeHeader 80 = .ok (.ireturn, 1) := by decide +kernel
theorem dX4_takeHeader_81 : decode cX4_takeHeader 81 = .ok (.aload_n 0, 1) := by decide +kernel
theorem dX4_takeHeader_82 : decode cX4_takeHeader 82 = .ok (.getfield 21, 3) := by decide +kernel
theorem dX4_takeHeader_85 : decode cX4_takeHeader 85 = .ok (.iconst 1, 1) := by decide +kernel
theorem dX4_takeHeader_86 : decode cX4_takeHeader 86 = .ok (.iand, 1) := by decide +kernel
theorem dX4_takeHeader_87 : decode cX4_takeHeader 87 = .ok (.ifCond .eq 13, 3) := by decide +kernel
theorem dX4_takeHeader_90 : decode cX4_takeHeader 90 = .ok (.aload_n 0, 1) := by decide +kernel
theorem dX4_takeHeader_91 : decode cX4_takeHeader 91 = .ok (.getfield 25, 3) := by decide +kernel
theorem dX4_takeHeader_94 : decode cX4_takeHeader 94 = .ok (.bipush 16, 2) := by decide +kernel
theorem dX4_takeHeader_96 : decode cX4_takeHeader 96 = .ok (.irem, 1) := by decide +kernel
theorem dX4_takeHeader_97 : decode cX4_takeHeader 97 = .ok (.ifCond .ne 7, 3) := by decide +kernel
theorem dX4_takeHeader_100 : decode cX4_takeHeader 100 = .ok (.iconst 1, 1) := by decide +kernel
theorem dX4_takeHeader_101 : decode cX4_takeHeader 101 = .ok (.goto 4, 3) := by decide +kernel
theorem dX4_takeHeader_104 : decode cX4_takeHeader 104 = .ok (.iconst 0, 1) := by decide +kernel
theorem dX4_takeHeader_105 : decode cX4_takeHeader 105 = .ok (.ireturn, 1) := by decide +kernel
set_option maxRecDepth 20000 in
theorem ggX4_findHeader_X2_intAt : GoodIn wsX4_findHeader wsX2_intAt := goodIn_r _ [6, 7, 8, 9, 5, 10, 11, 12, 13, 14, 15, 16, 17, 18, 19, 20, 21, 22, 23, 24, 25, 26, 27, 28, 29, 30, 31, 32, 33, 34, 35, 36, 37, 38, 39, 40] (by decide +kernel) (by decide +kernel)
set_option maxRecDepth 20000 in
theorem gX4_findHeader_X2_intAt : GoodIn wsX4_findHeader (wsV RX4 15 RX2 yX2_intAt wsX2_intAt) := goodIn_app (goodIn_of _ (by decide +kernel)) ggX4_findHeader_X2_intAt
theorem dX4_findHeader_0 : decode cX4_findHeader 0 = .ok (.iconst 0, 1) := by decide +kernel
theorem dX4_findHeader_1 : decode cX4_findHeader 1 = .ok (.istore_n 3, 1) := by decide +kernel
theorem dX4_findHeader_2 : decode cX4_findHeader 2 = .ok (.iload_n 3, 1) := by decide +kernel
theorem dX4_findHeader_3 : decode cX4_findHeader 3 = .ok (.bipush 28, 2) := by decide +kernel
theorem dX4_findHeader_5 : decode cX4_findHeader 5 = .ok (.if_icmp .gt 29, 3) := by decide +kernel
theorem dX4_findHeader_8 : decode cX4_findHeader 8 = .ok (.iload_n 3, 1) := by decide +kernel
theorem dX4_findHeader_9 : decode cX4_findHeader 9 = .ok (.bipush 20, 2) := by decide +kernel
theorem dX4_findHeader_11 : decode cX4_findHeader 11 = .ok (.iadd, 1) := by decide +kernel
theorem dX4_findHeader_12 : decode cX4_findHeader 12 = .ok (.iload_n 2, 1) := by decide +kernel
theorem dX4_findHeader_13 : decode cX4_findHeader 13 = .ok (.if_icmp .gt 21, 3) := by decide +kernel
theorem dX4_findHeader_16 : decode cX4_findHeader 16 = .ok (.aload_n 1, 1) := by decide +kernel
theorem dX4_findHeader_17 : decode cX4_findHeader 17 = .ok (.iload_n 3, 1) := by decide +kernel
theorem dX4_findHeader_18 : decode cX4_findHeader 18 = .ok (.invokevirtual 15, 3) := by decide +kernel
theorem dX4_findHeader_21 : decode cX4_findHeader 21 = .ok (.ldc 31, 2) := by decide +kernel
theorem dX4_findHeader_23 : decode cX4_findHeader 23 = .ok (.if_icmp .ne 5, 3) := by decide +kernel
theorem dX4_findHeader_26 : decode cX4_findHeader 26 = .ok (.iload_n 3, 1) := by decide +kernel
theorem dX4_findHeader_27 : decode cX4_findHeader 27 = .ok (.ireturn, 1) := by decide +kernel
theorem dX4_findHeader_28 : decode cX4_findHeader 28 = .ok (.iinc 3 4, 3) := by decide +kernel
theorem dX4_findHeader_31 : decode cX4_findHeader 31 = .ok (.goto (-29), 3) := by decide +kernel
theorem dX4_findHeader_34 : decode cX4_findHeader 34 = .ok (.iconst (-1), 1) := by decide +kernel
theorem dX4_findHeader_35 : decode cX4_findHeader 35 = .ok (.ireturn, 1) := by decide +kernel
theorem dX4_fits_0 : decode cX4_fits 0 = .ok (.aload_n 0, 1) := by decide +kernel
theorem dX4_fits_1 : decode cX4_fits 1 = .ok (.getfield 25, 3) := by decide +kernel
theorem dX4_fits_4 : decode cX4_fits 4 = .ok (.bipush 64, 2) := by decide +kernel
theorem dX4_fits_6 : decode cX4_fits 6 = .ok (.if_icmp .lt 43, 3) := by decide +kernel
theorem dX4_fits_9 : decode cX4_fits 9 = .ok (.aload_n 0, 1) := by decide +kernel
theorem dX4_fits_10 : decode cX4_fits 10 = .ok (.getfield 25, 3) := by decide +kernel
theorem dX4_fits_13 : decode cX4_fits 13 = .ok (.sipush 1024, 3) := by decide +kernel
theorem dX4_fits_16 : decode cX4_fits 16 = .ok (.iload_n 1, 1) := by decide +kernel
theorem dX4_fits_17 : decode cX4_fits 17 = .ok (.isub, 1) := by decide +kernel
theorem dX4_fits_18 : decode cX4_fits 18 = .ok (.if_icmp .gt 31, 3) := by decide +kernel
theorem dX4_fits_21 : decode cX4_fits 21 = .ok (.aload_n 0, 1) := by decide +kernel
theorem dX4_fits_22 : decode cX4_fits 22 = .ok (.getfield 28, 3) := by decide +kernel
theorem dX4_fits_25 : decode cX4_fits 25 = .ok (.aload_n 0, 1) := by decide +kernel
theorem dX4_fits_26 : decode cX4_fits 26 = .ok (.getfield 25, 3) := by decide +kernel
theorem dX4_fits_29 : decode cX4_fits 29 = .ok (.if_icmp .lt 20, 3) := by decide +kernel
theorem dX4_fits_32 : decode cX4_fits 32 = .ok (.aload_n 0, 1) := by decide +kernel
theorem dX4_fits_33 : decode cX4_fits 33 = .ok (.getfield 28, 3) := by decide +kernel
theorem dX4_fits_36 : decode cX4_fits 36 = .ok (.aload_n 0, 1) := by decide +kernel
theorem dX4_fits_37 : decode cX4_fits 37 = .ok (.getfield 25, 3) := by decide +kernel
theorem dX4_fits_40 : decode cX4_fits 40 = .ok (.iload_n 1, 1) := by decide +kernel
theorem dX4_fits_41 : decode cX4_fits 41 = .ok (.iadd, 1) := by decide +kernel
theorem dX4_fits_42 : decode cX4_fits 42 = .ok (.if_icmp .ge 7, 3) := by decide +kernel
theorem dX4_fits_45 : decode cX4_fits 45 = .ok (.iconst 1, 1) := by decide +kernel
theorem dX4_fits_46 : decode cX4_fits 46 = .ok (.goto 4, 3) := by decide +kernel
theorem dX4_fits_49 : decode cX4_fits 49 = .ok (.iconst 0, 1) := by decide +kernel
theorem dX4_fits_50 : decode cX4_fits 50 = .ok (.ireturn, 1) := by decide +kernel
theorem dX4_wantsMemoryBytes_0 : decode cX4_wantsMemoryBytes 0 = .ok (.aload_n 0, 1) := by decide +kernel
theorem dX4_wantsMemoryBytes_1 : decode cX4_wantsMemoryBytes 1 = .ok (.getfield 21, 3) := by decide +kernel
theorem dX4_wantsMemoryBytes_4 : decode cX4_wantsMemoryBytes 4 = .ok (.iconst 2, 1) := by decide +kernel
theorem dX4_wantsMemoryBytes_5 : decode cX4_wantsMemoryBytes 5 = .ok (.iand, 1) := by decide +kernel
theorem dX4_wantsMemoryBytes_6 : decode cX4_wantsMemoryBytes 6 = .ok (.ifCond .eq 7, 3) := by decide +kernel
theorem dX4_wantsMemoryBytes_9 : decode cX4_wantsMemoryBytes 9 = .ok (.iconst 1, 1) := by decide +kernel
theorem dX4_wantsMemoryBytes_10 : decode cX4_wantsMemoryBytes 10 = .ok (.goto 4, 3) := by decide +kernel
theorem dX4_wantsMemoryBytes_13 : decode cX4_wantsMemoryBytes 13 = .ok (.iconst 0, 1) := by decide +kernel
theorem dX4_wantsMemoryBytes_14 : decode cX4_wantsMemoryBytes 14 = .ok (.ireturn, 1) := by decide +kernel
theorem dX5_init_0 : decode cX5_init 0 = .ok (.aload_n 0, 1) := by decide +kernel
theorem dX5_init_1 : decode cX5_init 1 = .ok (.invokespecial 1, 3) := by decide +kernel
theorem dX5_init_4 : decode cX5_init 4 = .ok (.aload_n 0, 1) := by decide +kernel
theorem dX5_init_5 : decode cX5_init 5 = .ok (.bipush 16, 2) := by decide +kernel
theorem dX5_init_7 : decode cX5_init 7 = .ok (.newarray .int, 2) := by decide +kernel
theorem dX5_init_9 : decode cX5_init 9 = .ok (.putfield 9, 3) := by decide +kernel
theorem dX5_init_12 : decode cX5_init 12 = .ok (.return_, 1) := by decide +kernel
set_option maxRecDepth 20000 in
theorem ggX5_parse_J7_fill_53178 : GoodIn wsX5_parse wsJ7_fill_53178 := goodIn_r _ [6] (by decide +kernel) (by decide +kernel)
set_option maxRecDepth 20000 in
theorem gX5_parse_J7_fill_53178 : GoodIn wsX5_parse (va_wsS RX5 13 yJ7_fill_53178 wsJ7_fill_53178) := goodIn_app (goodIn_of _ (by decide +kernel)) ggX5_parse_J7_fill_53178
set_option maxRecDepth 20000 in
theorem ggX5_parse_X5_isLetter : GoodIn wsX5_parse wsX5_isLetter := goodIn_r _ [11] (by decide +kernel) (by decide +kernel)
set_option maxRecDepth 20000 in
theorem gX5_parse_X5_isLetter : GoodIn wsX5_parse (wsV RX5 19 RX5 yX5_isLetter wsX5_isLetter) := goodIn_app (goodIn_of _ (by decide +kernel)) ggX5_parse_X5_isLetter
theorem dX5_parse_0 : decode cX5_parse 0 = .ok (.aload_n 0, 1) := by decide +kernel
theorem dX5_parse_1 : decode cX5_parse 1 = .ok (.getfield 9, 3) := by decide +kernel
theorem dX5_parse_4 : decode cX5_parse 4 = .ok (.bipush 32, 2) := by decide +kernel
theorem dX5_parse_6 : decode cX5_parse 6 = .ok (.invokestatic 13, 3) := by decide +kernel
theorem dX5_parse_9 : decode cX5_parse 9 = .ok (.iconst 0, 1) := by decide +kernel
theorem dX5_parse_10 : decode cX5_parse 10 = .ok (.istore 4, 2) := by decide +kernel
theorem dX5_parse_12 : decode cX5_parse 12 = .ok (.iconst 0, 1) := by decide +kernel
theorem dX5_parse_13 : decode cX5_parse 13 = .ok (.istore 5, 2) := by decide +kernel
theorem dX5_parse_15 : decode cX5_parse 15 = .ok (.iload_n 2, 1) := by decide +kernel
theorem dX5_parse_16 : decode cX5_parse 16 = .ok (.istore 6, 2) := by decide +kernel
theorem dX5_parse_18 : decode cX5_parse 18 = .ok (.iload 6, 2) := by decide +kernel
theorem dX5_parse_20 : decode cX5_parse 20 = .ok (.iload_n 3, 1) := by decide +kernel
theorem dX5_parse_21 : decode cX5_parse 21 = .ok (.if_icmp .ge 78, 3) := by decide +kernel
theorem dX5_parse_24 : decode cX5_parse 24 = .ok (.aload_n 1, 1) := by decide +kernel
theorem dX5_parse_25 : decode cX5_parse 25 = .ok (.iload 6, 2) := by decide +kernel
theorem dX5_parse_27 : decode cX5_parse 27 = .ok (.iaload, 1) := by decide +kernel
theorem dX5_parse_28 : decode cX5_parse 28 = .ok (.bipush 47, 2) := by decide +kernel
theorem dX5_parse_30 : decode cX5_parse 30 = .ok (.if_icmp .ne 25, 3) := by decide +kernel
theorem dX5_parse_33 : decode cX5_parse 33 = .ok (.iinc 4 1, 3) := by decide +kernel
theorem dX5_parse_36 : decode cX5_parse 36 = .ok (.iload 5, 2) := by decide +kernel
theorem dX5_parse_38 : decode cX5_parse 38 = .ok (.ifCond .eq 9, 3) := by decide +kernel
theorem dX5_parse_41 : decode cX5_parse 41 = .ok (.iload 4, 2) := by decide +kernel
theorem dX5_parse_43 : decode cX5_parse 43 = .ok (.iconst 4, 1) := by decide +kernel
theorem dX5_parse_44 : decode cX5_parse 44 = .ok (.if_icmp .ne 5, 3) := by decide +kernel
theorem dX5_parse_47 : decode cX5_parse 47 = .ok (.iconst 0, 1) := by decide +kernel
theorem dX5_parse_48 : decode cX5_parse 48 = .ok (.ireturn, 1) := by decide +kernel
theorem dX5_parse_49 : decode cX5_parse 49 = .ok (.iconst 0, 1) := by decide +kernel
theorem dX5_parse_50 : decode cX5_parse 50 = .ok (.istore 5, 2) := by decide +kernel
theorem dX5_parse_52 : decode cX5_parse 52 = .ok (.goto 41, 3) := by decide +kernel
theorem dX5_parse_55 : decode cX5_parse 55 = .ok (.iload 5, 2) := by decide +kernel
theorem dX5_parse_57 : decode cX5_parse 57 = .ok (.iconst 4, 1) := by decide +kernel
theorem dX5_parse_58 : decode cX5_parse 58 = .ok (.if_icmp .eq 14, 3) := by decide +kernel
theorem dX5_parse_61 : decode cX5_parse 61 = .ok (.aload_n 0, 1) := by decide +kernel
theorem dX5_parse_62 : decode cX5_parse 62 = .ok (.aload_n 1, 1) := by decide +kernel
theorem dX5_parse_63 : decode cX5_parse 63 = .ok (.iload 6, 2) := by decide +kernel
theorem dX5_parse_65 : decode cX5_parse 65 = .ok (.iaload, 1) := by decide +kernel
theorem dX5_parse_66 : decode cX5_parse 66 = .ok (.invokevirtual 19, 3) := by decide +kernel
theorem dX5_parse_69 : decode cX5_parse 69 = .ok (.ifCond .ne 5, 3) := by decide +kernel
theorem dX5_parse_72 : decode cX5_parse 72 = .ok (.iconst 0, 1) := by decide +kernel
theorem dX5_parse_73 : decode cX5_parse 73 = .ok (.ireturn, 1) := by decide +kernel
theorem dX5_parse_74 : decode cX5_parse 74 = .ok (.aload_n 0, 1) := by decide +kernel
theorem dX5_parse_75 : decode cX5_parse 75 = .ok (.getfield 9, 3) := by decide +kernel
theorem dX5_parse_78 : decode cX5_parse 78 = .ok (.iload 4, 2) := by decide +kernel
theorem dX5_parse_80 : decode cX5_parse 80 = .ok (.iconst 4, 1) := by decide +kernel
theorem dX5_parse_81 : decode cX5_parse 81 = .ok (.imul, 1) := by decide +kernel
theorem dX5_parse_82 : decode cX5_parse 82 = .ok (.iload 5, 2) := by decide +kernel
theorem dX5_parse_84 : decode cX5_parse 84 = .ok (.iadd, 1) := by decide +kernel
theorem dX5_parse_85 : decode cX5_parse 85 = .ok (.aload_n 1, 1) := by decide +kernel
theorem dX5_parse_86 : decode cX5_parse 86 = .ok (.iload 6, 2) := by decide +kernel
theorem dX5_parse_88 : decode cX5_parse 88 = .ok (.iaload, 1) := by decide +kernel
theorem dX5_parse_89 : decode cX5_parse 89 = .ok (.iastore, 1) := by decide +kernel
theorem dX5_parse_90 : decode cX5_parse 90 = .ok (.iinc 5 1, 3) := by decide +kernel
theorem dX5_parse_93 : decode cX5_parse 93 = .ok (.iinc 6 1, 3) := by decide +kernel
theorem dX5_parse_96 : decode cX5_parse 96 = .ok (.goto (-78), 3) := by decide +kernel
theorem dX5_parse_99 : decode cX5_parse 99 = .ok (.aload_n 0, 1) := by decide +kernel
theorem dX5_parse_100 : decode cX5_parse 100 = .ok (.iload 4, 2) := by decide +kernel
theorem dX5_parse_102 : decode cX5_parse 102 = .ok (.iconst 1, 1) := by decide +kernel
theorem dX5_parse_103 : decode cX5_parse 103 = .ok (.iadd, 1) := by decide +kernel
theorem dX5_parse_104 : decode cX5_parse 104 = .ok (.putfield 23, 3) := by decide +kernel
theorem dX5_parse_107 : decode cX5_parse 107 = .ok (.iload 5, 2) := by decide +kernel
theorem dX5_parse_109 : decode cX5_parse 109 = .ok (.ifCond .le 7, 3) := by decide +kernel
theorem dX5_parse_112 : decode cX5_parse 112 = .ok (.iconst 1, 1) := by decide +kernel
theorem dX5_parse_113 : decode cX5_parse 113 = .ok (.goto 4, 3) := by decide +kernel
theorem dX5_parse_116 : decode cX5_parse 116 = .ok (.iconst 0, 1) := by decide +kernel
theorem dX5_parse_117 : decode cX5_parse 117 = .ok (.ireturn, 1) := by decide +kernel
theorem dX5_isLetter_0 : decode cX5_isLetter 0 = .ok (.iload_n 1, 1) := by decide +kernel
theorem dX5_isLetter_1 : decode cX5_isLetter 1 = .ok (.bipush 65, 2) := by decide +kernel
theorem dX5_isLetter_3 : decode cX5_isLetter 3 = .ok (.if_icmp .lt 9, 3) := by decide +kernel
theorem dX5_isLetter_6 : decode cX5_isLetter 6 = .ok (.iload_n 1, 1) := by decide +kernel
theorem dX5_isLetter_7 : decode cX5_isLetter 7 = .ok (.bipush 90, 2) := by decide +kernel
theorem dX5_isLetter_9 : decode cX5_isLetter 9 = .ok (.if_icmp .le 15, 3) := by decide +kernel
theorem dX5_isLetter_12 : decode cX5_isLetter 12 = .ok (.iload_n 1, 1) := by decide +kernel
theorem dX5_isLetter_13 : decode cX5_isLetter 13 = .ok (.bipush 48, 2) := by decide +kernel
theorem dX5_isLetter_15 : decode cX5_isLetter 15 = .ok (.if_icmp .lt 13, 3) := by decide +kernel
theorem dX5_isLetter_18 : decode cX5_isLetter 18 = .ok (.iload_n 1, 1) := by decide +kernel
theorem dX5_isLetter_19 : decode cX5_isLetter 19 = .ok (.bipush 57, 2) := by decide +kernel
theorem dX5_isLetter_21 : decode cX5_isLetter 21 = .ok (.if_icmp .gt 7, 3) := by decide +kernel
theorem dX5_isLetter_24 : decode cX5_isLetter 24 = .ok (.iconst 1, 1) := by decide +kernel
theorem dX5_isLetter_25 : decode cX5_isLetter 25 = .ok (.goto 4, 3) := by decide +kernel
theorem dX5_isLetter_28 : decode cX5_isLetter 28 = .ok (.iconst 0, 1) := by decide +kernel
theorem dX5_isLetter_29 : decode cX5_isLetter 29 = .ok (.ireturn, 1) := by decide +kernel
set_option maxRecDepth 20000 in
theorem ggX5_isNameAt_X0_byteAt : GoodIn wsX5_isNameAt wsX0_byteAt := goodIn_r _ [6, 7, 10] (by decide +kernel) (by decide +kernel)
set_option maxRecDepth 20000 in
theorem gX5_isNameAt_X0_byteAt : GoodIn wsX5_isNameAt (wsV RX5 27 RX0 yX0_byteAt wsX0_byteAt) := goodIn_app (goodIn_of _ (by decide +kernel)) ggX5_isNameAt_X0_byteAt
theorem dX5_isNameAt_0 : decode cX5_isNameAt 0 = .ok (.iconst 0, 1) := by decide +kernel
theorem dX5_isNameAt_1 : decode cX5_isNameAt 1 = .ok (.istore 4, 2) := by decide +kernel
theorem dX5_isNameAt_3 : decode cX5_isNameAt 3 = .ok (.iload 4, 2) := by decide +kernel
theorem dX5_isNameAt_5 : decode cX5_isNameAt 5 = .ok (.iconst 4, 1) := by decide +kernel
theorem dX5_isNameAt_6 : decode cX5_isNameAt 6 = .ok (.if_icmp .ge 33, 3) := by decide +kernel
theorem dX5_isNameAt_9 : decode cX5_isNameAt 9 = .ok (.aload_n 2, 1) := by decide +kernel
theorem dX5_isNameAt_10 : decode cX5_isNameAt 10 = .ok (.iload_n 3, 1) := by decide +kernel
theorem dX5_isNameAt_11 : decode cX5_isNameAt 11 = .ok (.iload 4, 2) := by decide +kernel
theorem dX5_isNameAt_13 : decode cX5_isNameAt 13 = .ok (.iadd, 1) := by decide +kernel
theorem dX5_isNameAt_14 : decode cX5_isNameAt 14 = .ok (.invokevirtual 27, 3) := by decide +kernel
theorem dX5_isNameAt_17 : decode cX5_isNameAt 17 = .ok (.aload_n 0, 1) := by decide +kernel
theorem dX5_isNameAt_18 : decode cX5_isNameAt 18 = .ok (.getfield 9, 3) := by decide +kernel
theorem dX5_isNameAt_21 : decode cX5_isNameAt 21 = .ok (.iload_n 1, 1) := by decide +kernel
theorem dX5_isNameAt_22 : decode cX5_isNameAt 22 = .ok (.iconst 4, 1) := by decide +kernel
theorem dX5_isNameAt_23 : decode cX5_isNameAt 23 = .ok (.imul, 1) := by decide +kernel
theorem dX5_isNameAt_24 : decode cX5_isNameAt 24 = .ok (.iload 4, 2) := by decide +kernel
theorem dX5_isNameAt_26 : decode cX5_isNameAt 26 = .ok (.iadd, 1) := by decide +kernel
theorem dX5_isNameAt_27 : decode cX5_isNameAt 27 = .ok (.iaload, 1) := by decide +kernel
theorem dX5_isNameAt_28 : decode cX5_isNameAt 28 = .ok (.if_icmp .eq 5, 3) := by decide +kernel
theorem dX5_isNameAt_31 : decode cX5_isNameAt 31 = .ok (.iconst 0, 1) := by decide +kernel
theorem dX5_isNameAt_32 : decode cX5_isNameAt 32 = .ok (.ireturn, 1) := by decide +kernel
theorem dX5_isNameAt_33 : decode cX5_isNameAt 33 = .ok (.iinc 4 1, 3) := by decide +kernel
theorem dX5_isNameAt_36 : decode cX5_isNameAt 36 = .ok (.goto (-33), 3) := by decide +kernel
theorem dX5_isNameAt_39 : decode cX5_isNameAt 39 = .ok (.iconst 1, 1) := by decide +kernel
theorem dX5_isNameAt_40 : decode cX5_isNameAt 40 = .ok (.ireturn, 1) := by decide +kernel
set_option maxRecDepth 20000 in
theorem ggX6_init_X7_init : GoodIn wsX6_init wsX7_init := goodIn_r _ [13, 14, 2, 3] (by decide +kernel) (by decide +kernel)
set_option maxRecDepth 20000 in
theorem gX6_init_X7_init_n15 : GoodIn wsX6_init (wsX7_init) := ggX6_init_X7_init
theorem dX6_init_0 : decode cX6_init 0 = .ok (.aload_n 0, 1) := by decide +kernel
theorem dX6_init_1 : decode cX6_init 1 = .ok (.invokespecial 1, 3) := by decide +kernel
theorem dX6_init_4 : decode cX6_init 4 = .ok (.aload_n 0, 1) := by decide +kernel
theorem dX6_init_5 : decode cX6_init 5 = .ok (.sipush 200, 3) := by decide +kernel
theorem dX6_init_8 : decode cX6_init 8 = .ok (.newarray .int, 2) := by decide +kernel
theorem dX6_init_10 : decode cX6_init 10 = .ok (.putfield 9, 3) := by decide +kernel
theorem dX6_init_13 : decode cX6_init 13 = .ok (.aload_n 0, 1) := by decide +kernel
theorem dX6_init_14 : decode cX6_init 14 = .ok (.new 13, 3) := by decide +kernel
theorem dX6_init_17 : decode cX6_init 17 = .ok (.dup, 1) := by decide +kernel
theorem dX6_init_18 : decode cX6_init 18 = .ok (.invokespecial 15, 3) := by decide +kernel
theorem dX6_init_21 : decode cX6_init 21 = .ok (.putfield 16, 3) := by decide +kernel
theorem dX6_init_24 : decode cX6_init 24 = .ok (.aload_n 0, 1) := by decide +kernel
theorem dX6_init_25 : decode cX6_init 25 = .ok (.new 13, 3) := by decide +kernel
theorem dX6_init_28 : decode cX6_init 28 = .ok (.dup, 1) := by decide +kernel
theorem dX6_init_29 : decode cX6_init 29 = .ok (.invokespecial 15, 3) := by decide +kernel
theorem dX6_init_32 : decode cX6_init 32 = .ok (.putfield 20, 3) := by decide +kernel
theorem dX6_init_35 : decode cX6_init 35 = .ok (.aload_n 0, 1) := by decide +kernel
theorem dX6_init_36 : decode cX6_init 36 = .ok (.new 13, 3) := by decide +kernel
theorem dX6_init_39 : decode cX6_init 39 = .ok (.dup, 1) := by decide +kernel
theorem dX6_init_40 : decode cX6_init 40 = .ok (.invokespecial 15, 3) := by decide +kernel
theorem dX6_init_43 : decode cX6_init 43 = .ok (.putfield 23, 3) := by decide +kernel
theorem dX6_init_46 : decode cX6_init 46 = .ok (.return_, 1) := by decide +kernel
set_option maxRecDepth 20000 in
theorem ggX6_take_X7_forget : GoodIn wsX6_take wsX7_forget := goodIn_r _ [10, 11, 12, 13, 47, 48, 49] (by decide +kernel) (by decide +kernel)
set_option maxRecDepth 20000 in
theorem gX6_take_X7_forget : GoodIn wsX6_take (wsV RX6 26 RX7 yX7_forget wsX7_forget) := goodIn_app (goodIn_of _ (by decide +kernel)) ggX6_take_X7_forget
set_option maxRecDepth 20000 in
theorem ggX6_take_X2_byteAt : GoodIn wsX6_take wsX2_byteAt := goodIn_r _ [18, 19, 20, 21, 22, 17, 23, 24, 25, 26, 27, 28, 29, 30, 31, 32, 33, 50, 51, 52, 53, 54, 55, 56, 57, 58, 59, 60, 61, 62, 63, 64] (by decide +kernel) (by decide +kernel)
set_option maxRecDepth 20000 in
theorem gX6_take_X2_byteAt : GoodIn wsX6_take (wsV RX6 29 RX2 yX2_byteAt wsX2_byteAt) := goodIn_app (goodIn_of _ (by decide +kernel)) ggX6_take_X2_byteAt
set_option maxRecDepth 20000 in
theorem ggX6_take_X6_takeLine : GoodIn wsX6_take wsX6_takeLine := goodIn_r _ [38, 4, 1, 2, 3, 39, 40, 41, 9, 42, 11, 12, 13, 43, 44, 45, 46, 47, 48, 49] (by decide +kernel) (by decide +kernel)
set_option maxRecDepth 20000 in
theorem gX6_take_X6_takeLine : GoodIn wsX6_take (wsV RX6 35 RX6 yX6_takeLine wsX6_takeLine) := goodIn_app (goodIn_of _ (by decide +kernel)) ggX6_take_X6_takeLine
theorem dX6_take_0 : decode cX6_take 0 = .ok (.iload_n 2, 1) := by decide +kernel
theorem dX6_take_1 : decode cX6_take 1 = .ok (.sipush 200, 3) := by decide +kernel
theorem dX6_take_4 : decode cX6_take 4 = .ok (.if_icmp .le 5, 3) := by decide +kernel
theorem dX6_take_7 : decode cX6_take 7 = .ok (.iconst 0, 1) := by decide +kernel
theorem dX6_take_8 : decode cX6_take 8 = .ok (.ireturn, 1) := by decide +kernel
theorem dX6_take_9 : decode cX6_take 9 = .ok (.aload_n 0, 1) := by decide +kernel
theorem dX6_take_10 : decode cX6_take 10 = .ok (.getfield 16, 3) := by decide +kernel
theorem dX6_take_13 : decode cX6_take 13 = .ok (.invokevirtual 26, 3) := by decide +kernel
theorem dX6_take_16 : decode cX6_take 16 = .ok (.aload_n 0, 1) := by decide +kernel
theorem dX6_take_17 : decode cX6_take 17 = .ok (.getfield 20, 3) := by decide +kernel
theorem dX6_take_20 : decode cX6_take 20 = .ok (.invokevirtual 26, 3) := by decide +kernel
theorem dX6_take_23 : decode cX6_take 23 = .ok (.aload_n 0, 1) := by decide +kernel
theorem dX6_take_24 : decode cX6_take 24 = .ok (.getfield 23, 3) := by decide +kernel
theorem dX6_take_27 : decode cX6_take 27 = .ok (.invokevirtual 26, 3) := by decide +kernel
theorem dX6_take_30 : decode cX6_take 30 = .ok (.iconst 0, 1) := by decide +kernel
theorem dX6_take_31 : decode cX6_take 31 = .ok (.istore_n 3, 1) := by decide +kernel
theorem dX6_take_32 : decode cX6_take 32 = .ok (.iload_n 3, 1) := by decide +kernel
theorem dX6_take_33 : decode cX6_take 33 = .ok (.iload_n 2, 1) := by decide +kernel
theorem dX6_take_34 : decode cX6_take 34 = .ok (.if_icmp .ge 20, 3) := by decide +kernel
theorem dX6_take_37 : decode cX6_take 37 = .ok (.aload_n 0, 1) := by decide +kernel
theorem dX6_take_38 : decode cX6_take 38 = .ok (.getfield 9, 3) := by decide +kernel
theorem dX6_take_41 : decode cX6_take 41 = .ok (.iload_n 3, 1) := by decide +kernel
theorem dX6_take_42 : decode cX6_take 42 = .ok (.aload_n 1, 1) := by decide +kernel
theorem dX6_take_43 : decode cX6_take 43 = .ok (.iload_n 3, 1) := by decide +kernel
theorem dX6_take_44 : decode cX6_take 44 = .ok (.invokevirtual 29, 3) := by decide +kernel
theorem dX6_take_47 : decode cX6_take 47 = .ok (.iastore, 1) := by decide +kernel
theorem dX6_take_48 : decode cX6_take 48 = .ok (.iinc 3 1, 3) := by decide +kernel
theorem dX6_take_51 : decode cX6_take 51 = .ok (.goto (-19), 3) := by decide +kernel
theorem dX6_take_54 : decode cX6_take 54 = .ok (.iconst 0, 1) := by decide +kernel
theorem dX6_take_55 : decode cX6_take 55 = .ok (.istore_n 3, 1) := by decide +kernel
theorem dX6_take_56 : decode cX6_take 56 = .ok (.iconst 0, 1) := by decide +kernel
theorem dX6_take_57 : decode cX6_take 57 = .ok (.istore 4, 2) := by decide +kernel
theorem dX6_take_59 : decode cX6_take 59 = .ok (.iload 4, 2) := by decide +kernel
theorem dX6_take_61 : decode cX6_take 61 = .ok (.iload_n 2, 1) := by decide +kernel
theorem dX6_take_62 : decode cX6_take 62 = .ok (.if_icmp .gt 44, 3) := by decide +kernel
theorem dX6_take_65 : decode cX6_take 65 = .ok (.iload 4, 2) := by decide +kernel
theorem dX6_take_67 : decode cX6_take 67 = .ok (.iload_n 2, 1) := by decide +kernel
theorem dX6_take_68 : decode cX6_take 68 = .ok (.if_icmp .eq 15, 3) := by decide +kernel
theorem dX6_take_71 : decode cX6_take 71 = .ok (.aload_n 0, 1) := by decide +kernel
theorem dX6_take_72 : decode cX6_take 72 = .ok (.getfield 9, 3) := by decide +kernel
theorem dX6_take_75 : decode cX6_take 75 = .ok (.iload 4, 2) := by decide +kernel
theorem dX6_take_77 : decode cX6_take 77 = .ok (.iaload, 1) := by decide +kernel
theorem dX6_take_78 : decode cX6_take 78 = .ok (.bipush 10, 2) := by decide +kernel
theorem dX6_take_80 : decode cX6_take 80 = .ok (.if_icmp .ne 20, 3) := by decide +kernel
theorem dX6_take_83 : decode cX6_take 83 = .ok (.aload_n 0, 1) := by decide +kernel
theorem dX6_take_84 : decode cX6_take 84 = .ok (.iload_n 3, 1) := by decide +kernel
theorem dX6_take_85 : decode cX6_take 85 = .ok (.iload 4, 2) := by decide +kernel
theorem dX6_take_87 : decode cX6_take 87 = .ok (.invokevirtual 35, 3) := by decide +kernel
theorem dX6_take_90 : decode cX6_take 90 = .ok (.ifCond .ne 5, 3) := by decide +kernel
theorem dX6_take_93 : decode cX6_take 93 = .ok (.iconst 0, 1) := by decide +kernel
theorem dX6_take_94 : decode cX6_take 94 = .ok (.ireturn, 1) := by decide +kernel
theorem dX6_take_95 : decode cX6_take 95 = .ok (.iload 4, 2) := by decide +kernel
theorem dX6_take_97 : decode cX6_take 97 = .ok (.iconst 1, 1) := by decide +kernel
theorem dX6_take_98 : decode cX6_take 98 = .ok (.iadd, 1) := by decide +kernel
theorem dX6_take_99 : decode cX6_take 99 = .ok (.istore_n 3, 1) := by decide +kernel
theorem dX6_take_100 : decode cX6_take 100 = .ok (.iinc 4 1, 3) := by decide +kernel
theorem dX6_take_103 : decode cX6_take 103 = .ok (.goto (-44), 3) := by decide +kernel
theorem dX6_take_106 : decode cX6_take 106 = .ok (.aload_n 0, 1) := by decide +kernel
theorem dX6_take_107 : decode cX6_take 107 = .ok (.getfield 16, 3) := by decide +kernel
theorem dX6_take_110 : decode cX6_take 110 = .ok (.getfield 39, 3) := by decide +kernel
theorem dX6_take_113 : decode cX6_take 113 = .ok (.ireturn, 1) := by decide +kernel
set_option maxRecDepth 20000 in
theorem ggX6_takeLine_X7_set : GoodIn wsX6_takeLine wsX7_set := goodIn_r _ [9, 10, 11, 12, 17, 18, 19] (by decide +kernel) (by decide +kernel)
set_option maxRecDepth 20000 in
theorem gX6_takeLine_X7_set : GoodIn wsX6_takeLine (wsV RX6 43 RX7 yX7_set wsX7_set) := goodIn_app (goodIn_of _ (by decide +kernel)) ggX6_takeLine_X7_set
theorem dX6_takeLine_0 : decode cX6_takeLine 0 = .ok (.iload_n 1, 1) := by decide +kernel
theorem dX6_takeLine_1 : decode cX6_takeLine 1 = .ok (.iload_n 2, 1) := by decide +kernel
theorem dX6_takeLine_2 : decode cX6_takeLine 2 = .ok (.if_icmp .ge 14, 3) := by decide +kernel
end
section
theorem dX6_takeLine_5 : decode cX6_takeLine 5 = .ok (.aload_n 0, 1) := by decide +kernel
theorem dX6_takeLine_6 : decode cX6_takeLine 6 = .ok (.getfield 9, 3) := by decide +kernel
theorem dX6_takeLine_9 : decode cX6_takeLine 9 = .ok (.iload_n 1, 1) := by decide +kernel
theorem dX6_takeLine_10 : decode cX6_takeLine 10 = .ok (.iaload, 1) := by decide +kernel
theorem dX6_takeLine_11 : decode cX6_takeLine 11 = .ok (.bipush 35, 2) := by decide +kernel
theorem dX6_takeLine_13 : decode cX6_takeLine 13 = .ok (.if_icmp .ne 5, 3) := by decide +kernel
theorem dX6_takeLine_16 : decode cX6_takeLine 16 = .ok (.iconst 1, 1) := by decide +kernel
theorem dX6_takeLine_17 : decode cX6_takeLine 17 = .ok (.ireturn, 1) := by decide +kernel
theorem dX6_takeLine_18 : decode cX6_takeLine 18 = .ok (.iload_n 2, 1) := by decide +kernel
theorem dX6_takeLine_19 : decode cX6_takeLine 19 = .ok (.iload_n 1, 1) := by decide +kernel
theorem dX6_takeLine_20 : decode cX6_takeLine 20 = .ok (.isub, 1) := by decide +kernel
theorem dX6_takeLine_21 : decode cX6_takeLine 21 = .ok (.iconst 2, 1) := by decide +kernel
theorem dX6_takeLine_22 : decode cX6_takeLine 22 = .ok (.if_icmp .lt 16, 3) := by decide +kernel
theorem dX6_takeLine_25 : decode cX6_takeLine 25 = .ok (.aload_n 0, 1) := by decide +kernel
theorem dX6_takeLine_26 : decode cX6_takeLine 26 = .ok (.getfield 9, 3) := by decide +kernel
theorem dX6_takeLine_29 : decode cX6_takeLine 29 = .ok (.iload_n 1, 1) := by decide +kernel
theorem dX6_takeLine_30 : decode cX6_takeLine 30 = .ok (.iconst 1, 1) := by decide +kernel
theorem dX6_takeLine_31 : decode cX6_takeLine 31 = .ok (.iadd, 1) := by decide +kernel
theorem dX6_takeLine_32 : decode cX6_takeLine 32 = .ok (.iaload, 1) := by decide +kernel
theorem dX6_takeLine_33 : decode cX6_takeLine 33 = .ok (.bipush 61, 2) := by decide +kernel
theorem dX6_takeLine_35 : decode cX6_takeLine 35 = .ok (.if_icmp .eq 5, 3) := by decide +kernel
theorem dX6_takeLine_38 : decode cX6_takeLine 38 = .ok (.iconst 0, 1) := by decide +kernel
theorem dX6_takeLine_39 : decode cX6_takeLine 39 = .ok (.ireturn, 1) := by decide +kernel
theorem dX6_takeLine_40 : decode cX6_takeLine 40 = .ok (.aload_n 0, 1) := by decide +kernel
theorem dX6_takeLine_41 : decode cX6_takeLine 41 = .ok (.getfield 9, 3) := by decide +kernel
theorem dX6_takeLine_44 : decode cX6_takeLine 44 = .ok (.iload_n 1, 1) := by decide +kernel
theorem dX6_takeLine_45 : decode cX6_takeLine 45 = .ok (.iaload, 1) := by decide +kernel
theorem dX6_takeLine_46 : decode cX6_takeLine 46 = .ok (.lookupswitch 87 #[(65, 60), (70, 47), (75, 34)], 34) := by decide +kernel
theorem dX6_takeLine_80 : decode cX6_takeLine 80 = .ok (.aload_n 0, 1) := by decide +kernel
theorem dX6_takeLine_81 : decode cX6_takeLine 81 = .ok (.getfield 16, 3) := by decide +kernel
theorem dX6_takeLine_84 : decode cX6_takeLine 84 = .ok (.iload_n 1, 1) := by decide +kernel
theorem dX6_takeLine_85 : decode cX6_takeLine 85 = .ok (.iconst 2, 1) := by decide +kernel
theorem dX6_takeLine_86 : decode cX6_takeLine 86 = .ok (.iadd, 1) := by decide +kernel
theorem dX6_takeLine_87 : decode cX6_takeLine 87 = .ok (.iload_n 2, 1) := by decide +kernel
theorem dX6_takeLine_88 : decode cX6_takeLine 88 = .ok (.invokevirtual 43, 3) := by decide +kernel
theorem dX6_takeLine_91 : decode cX6_takeLine 91 = .ok (.iconst 1, 1) := by decide +kernel
theorem dX6_takeLine_92 : decode cX6_takeLine 92 = .ok (.ireturn, 1) := by decide +kernel
theorem dX6_takeLine_93 : decode cX6_takeLine 93 = .ok (.aload_n 0, 1) := by decide +kernel
theorem dX6_takeLine_94 : decode cX6_takeLine 94 = .ok (.getfield 20, 3) := by decide +kernel
theorem dX6_takeLine_97 : decode cX6_takeLine 97 = .ok (.iload_n 1, 1) := by decide +kernel
theorem dX6_takeLine_98 : decode cX6_takeLine 98 = .ok (.iconst 2, 1) := by decide +kernel
theorem dX6_takeLine_99 : decode cX6_takeLine 99 = .ok (.iadd, 1) := by decide +kernel
theorem dX6_takeLine_100 : decode cX6_takeLine 100 = .ok (.iload_n 2, 1) := by decide +kernel
theorem dX6_takeLine_101 : decode cX6_takeLine 101 = .ok (.invokevirtual 43, 3) := by decide +kernel
theorem dX6_takeLine_104 : decode cX6_takeLine 104 = .ok (.iconst 1, 1) := by decide +kernel
theorem dX6_takeLine_105 : decode cX6_takeLine 105 = .ok (.ireturn, 1) := by decide +kernel
theorem dX6_takeLine_106 : decode cX6_takeLine 106 = .ok (.aload_n 0, 1) := by decide +kernel
theorem dX6_takeLine_107 : decode cX6_takeLine 107 = .ok (.getfield 23, 3) := by decide +kernel
theorem dX6_takeLine_110 : decode cX6_takeLine 110 = .ok (.iload_n 1, 1) := by decide +kernel
theorem dX6_takeLine_111 : decode cX6_takeLine 111 = .ok (.iconst 2, 1) := by decide +kernel
theorem dX6_takeLine_112 : decode cX6_takeLine 112 = .ok (.iadd, 1) := by decide +kernel
theorem dX6_takeLine_113 : decode cX6_takeLine 113 = .ok (.iload_n 2, 1) := by decide +kernel
theorem dX6_takeLine_114 : decode cX6_takeLine 114 = .ok (.invokevirtual 43, 3) := by decide +kernel
theorem dX6_takeLine_117 : decode cX6_takeLine 117 = .ok (.iload_n 2, 1) := by decide +kernel
theorem dX6_takeLine_118 : decode cX6_takeLine 118 = .ok (.iload_n 1, 1) := by decide +kernel
theorem dX6_takeLine_119 : decode cX6_takeLine 119 = .ok (.isub, 1) := by decide +kernel
theorem dX6_takeLine_120 : decode cX6_takeLine 120 = .ok (.iconst 2, 1) := by decide +kernel
theorem dX6_takeLine_121 : decode cX6_takeLine 121 = .ok (.isub, 1) := by decide +kernel
theorem dX6_takeLine_122 : decode cX6_takeLine 122 = .ok (.bipush 24, 2) := by decide +kernel
theorem dX6_takeLine_124 : decode cX6_takeLine 124 = .ok (.if_icmp .gt 7, 3) := by decide +kernel
theorem dX6_takeLine_127 : decode cX6_takeLine 127 = .ok (.iconst 1, 1) := by decide +kernel
theorem dX6_takeLine_128 : decode cX6_takeLine 128 = .ok (.goto 4, 3) := by decide +kernel
theorem dX6_takeLine_131 : decode cX6_takeLine 131 = .ok (.iconst 0, 1) := by decide +kernel
theorem dX6_takeLine_132 : decode cX6_takeLine 132 = .ok (.ireturn, 1) := by decide +kernel
theorem dX6_takeLine_133 : decode cX6_takeLine 133 = .ok (.iconst 1, 1) := by decide +kernel
theorem dX6_takeLine_134 : decode cX6_takeLine 134 = .ok (.ireturn, 1) := by decide +kernel
theorem dX7_init_0 : decode cX7_init 0 = .ok (.aload_n 0, 1) := by decide +kernel
theorem dX7_init_1 : decode cX7_init 1 = .ok (.invokespecial 1, 3) := by decide +kernel
theorem dX7_init_4 : decode cX7_init 4 = .ok (.return_, 1) := by decide +kernel
theorem dX7_forget_0 : decode cX7_forget 0 = .ok (.aload_n 0, 1) := by decide +kernel
theorem dX7_forget_1 : decode cX7_forget 1 = .ok (.iconst 0, 1) := by decide +kernel
theorem dX7_forget_2 : decode cX7_forget 2 = .ok (.putfield 7, 3) := by decide +kernel
theorem dX7_forget_5 : decode cX7_forget 5 = .ok (.aload_n 0, 1) := by decide +kernel
theorem dX7_forget_6 : decode cX7_forget 6 = .ok (.iconst 0, 1) := by decide +kernel
theorem dX7_forget_7 : decode cX7_forget 7 = .ok (.putfield 13, 3) := by decide +kernel
theorem dX7_forget_10 : decode cX7_forget 10 = .ok (.aload_n 0, 1) := by decide +kernel
theorem dX7_forget_11 : decode cX7_forget 11 = .ok (.iconst 0, 1) := by decide +kernel
theorem dX7_forget_12 : decode cX7_forget 12 = .ok (.putfield 17, 3) := by decide +kernel
theorem dX7_forget_15 : decode cX7_forget 15 = .ok (.return_, 1) := by decide +kernel
theorem dX7_set_0 : decode cX7_set 0 = .ok (.aload_n 0, 1) := by decide +kernel
theorem dX7_set_1 : decode cX7_set 1 = .ok (.iconst 1, 1) := by decide +kernel
theorem dX7_set_2 : decode cX7_set 2 = .ok (.putfield 7, 3) := by decide +kernel
theorem dX7_set_5 : decode cX7_set 5 = .ok (.aload_n 0, 1) := by decide +kernel
theorem dX7_set_6 : decode cX7_set 6 = .ok (.iload_n 1, 1) := by decide +kernel
theorem dX7_set_7 : decode cX7_set 7 = .ok (.putfield 13, 3) := by decide +kernel
theorem dX7_set_10 : decode cX7_set 10 = .ok (.aload_n 0, 1) := by decide +kernel
theorem dX7_set_11 : decode cX7_set 11 = .ok (.iload_n 2, 1) := by decide +kernel
theorem dX7_set_12 : decode cX7_set 12 = .ok (.putfield 17, 3) := by decide +kernel
theorem dX7_set_15 : decode cX7_set 15 = .ok (.return_, 1) := by decide +kernel
theorem dX8_init_0 : decode cX8_init 0 = .ok (.aload_n 0, 1) := by decide +kernel
theorem dX8_init_1 : decode cX8_init 1 = .ok (.invokespecial 3, 3) := by decide +kernel
theorem dX8_init_4 : decode cX8_init 4 = .ok (.aload_n 0, 1) := by decide +kernel
theorem dX8_init_5 : decode cX8_init 5 = .ok (.aload_n 1, 1) := by decide +kernel
theorem dX8_init_6 : decode cX8_init 6 = .ok (.putfield 9, 3) := by decide +kernel
theorem dX8_init_9 : decode cX8_init 9 = .ok (.return_, 1) := by decide +kernel
set_option maxRecDepth 20000 in
theorem ggX8_mount_X8_isSigned : GoodIn wsX8_mount wsX8_isSigned := goodIn_r _ [8, 2, 9, 10, 11, 12, 13, 14, 41, 42, 43, 44, 45, 46, 47, 48, 49, 50] (by decide +kernel) (by decide +kernel)
set_option maxRecDepth 20000 in
theorem gX8_mount_X8_isSigned : GoodIn wsX8_mount (wsV RX8 15 RX8 yX8_isSigned wsX8_isSigned) := goodIn_app (goodIn_of _ (by decide +kernel)) ggX8_mount_X8_isSigned
set_option maxRecDepth 20000 in
theorem ggX8_mount_X8_choosePartition : GoodIn wsX8_mount wsX8_choosePartition := goodIn_r _ [18, 2, 19, 20, 21, 7, 22, 23, 24, 25, 26, 9, 10, 11, 12, 13, 14, 41, 42, 43, 44, 45, 46, 47, 48, 49, 50] (by decide +kernel) (by decide +kernel)
set_option maxRecDepth 20000 in
theorem gX8_mount_X8_choosePartition : GoodIn wsX8_mount (wsV RX8 19 RX8 yX8_choosePartition wsX8_choosePartition) := goodIn_app (goodIn_of _ (by decide +kernel)) ggX8_mount_X8_choosePartition
set_option maxRecDepth 20000 in
theorem ggX8_mount_X8_placeOfRecord : GoodIn wsX8_mount wsX8_placeOfRecord := goodIn_r _ [26] (by decide +kernel) (by decide +kernel)
set_option maxRecDepth 20000 in
theorem gX8_mount_X8_placeOfRecord : GoodIn wsX8_mount (wsV RX8 27 RX8 yX8_placeOfRecord wsX8_placeOfRecord) := goodIn_app (goodIn_of _ (by decide +kernel)) ggX8_mount_X8_placeOfRecord
set_option maxRecDepth 20000 in
theorem ggX8_mount_X0_byteAt : GoodIn wsX8_mount wsX0_byteAt := goodIn_r _ [13, 14, 50] (by decide +kernel) (by decide +kernel)
set_option maxRecDepth 20000 in
theorem gX8_mount_X0_byteAt : GoodIn wsX8_mount (wsV RX8 31 RX0 yX0_byteAt wsX0_byteAt) := goodIn_app (goodIn_of _ (by decide +kernel)) ggX8_mount_X0_byteAt
set_option maxRecDepth 20000 in
theorem ggX8_mount_X8_takeGeometry : GoodIn wsX8_mount wsX8_takeGeometry := goodIn_r _ [30, 2, 31, 32, 3, 33, 34, 35, 36, 9, 10, 11, 12, 13, 14, 4, 5, 6, 7, 8, 37, 38, 39, 40, 41, 42, 43, 44, 45, 46, 47, 48, 49, 50] (by decide +kernel) (by decide +kernel)
set_option maxRecDepth 20000 in
theorem gX8_mount_X8_takeGeometry : GoodIn wsX8_mount (wsV RX8 36 RX8 yX8_takeGeometry wsX8_takeGeometry) := goodIn_app (goodIn_of _ (by decide +kernel)) ggX8_mount_X8_takeGeometry
theorem dX8_mount_0 : decode cX8_mount 0 = .ok (.aload_n 0, 1) := by decide +kernel
theorem dX8_mount_1 : decode cX8_mount 1 = .ok (.iconst 0, 1) := by decide +kernel
theorem dX8_mount_2 : decode cX8_mount 2 = .ok (.invokevirtual 15, 3) := by decide +kernel
theorem dX8_mount_5 : decode cX8_mount 5 = .ok (.ifCond .ne 6, 3) := by decide +kernel
theorem dX8_mount_8 : decode cX8_mount 8 = .ok (.bipush (-2), 2) := by decide +kernel
theorem dX8_mount_10 : decode cX8_mount 10 = .ok (.ireturn, 1) := by decide +kernel
theorem dX8_mount_11 : decode cX8_mount 11 = .ok (.aload_n 0, 1) := by decide +kernel
theorem dX8_mount_12 : decode cX8_mount 12 = .ok (.aload_n 0, 1) := by decide +kernel
theorem dX8_mount_13 : decode cX8_mount 13 = .ok (.invokevirtual 19, 3) := by decide +kernel
theorem dX8_mount_16 : decode cX8_mount 16 = .ok (.putfield 23, 3) := by decide +kernel
theorem dX8_mount_19 : decode cX8_mount 19 = .ok (.aload_n 0, 1) := by decide +kernel
theorem dX8_mount_20 : decode cX8_mount 20 = .ok (.getfield 23, 3) := by decide +kernel
theorem dX8_mount_23 : decode cX8_mount 23 = .ok (.ifCond .ge 6, 3) := by decide +kernel
theorem dX8_mount_26 : decode cX8_mount 26 = .ok (.bipush (-3), 2) := by decide +kernel
theorem dX8_mount_28 : decode cX8_mount 28 = .ok (.ireturn, 1) := by decide +kernel
theorem dX8_mount_29 : decode cX8_mount 29 = .ok (.aload_n 0, 1) := by decide +kernel
theorem dX8_mount_30 : decode cX8_mount 30 = .ok (.aload_n 0, 1) := by decide +kernel
theorem dX8_mount_31 : decode cX8_mount 31 = .ok (.getfield 23, 3) := by decide +kernel
theorem dX8_mount_34 : decode cX8_mount 34 = .ok (.invokevirtual 27, 3) := by decide +kernel
theorem dX8_mount_37 : decode cX8_mount 37 = .ok (.istore_n 1, 1) := by decide +kernel
theorem dX8_mount_38 : decode cX8_mount 38 = .ok (.aload_n 0, 1) := by decide +kernel
theorem dX8_mount_39 : decode cX8_mount 39 = .ok (.aload_n 0, 1) := by decide +kernel
theorem dX8_mount_40 : decode cX8_mount 40 = .ok (.getfield 9, 3) := by decide +kernel
theorem dX8_mount_43 : decode cX8_mount 43 = .ok (.iload_n 1, 1) := by decide +kernel
theorem dX8_mount_44 : decode cX8_mount 44 = .ok (.iconst 2, 1) := by decide +kernel
theorem dX8_mount_45 : decode cX8_mount 45 = .ok (.iadd, 1) := by decide +kernel
theorem dX8_mount_46 : decode cX8_mount 46 = .ok (.invokevirtual 31, 3) := by decide +kernel
theorem dX8_mount_49 : decode cX8_mount 49 = .ok (.bipush 32, 2) := by decide +kernel
theorem dX8_mount_51 : decode cX8_mount 51 = .ok (.imul, 1) := by decide +kernel
theorem dX8_mount_52 : decode cX8_mount 52 = .ok (.aload_n 0, 1) := by decide +kernel
theorem dX8_mount_53 : decode cX8_mount 53 = .ok (.getfield 9, 3) := by decide +kernel
theorem dX8_mount_56 : decode cX8_mount 56 = .ok (.iload_n 1, 1) := by decide +kernel
theorem dX8_mount_57 : decode cX8_mount 57 = .ok (.iconst 3, 1) := by decide +kernel
theorem dX8_mount_58 : decode cX8_mount 58 = .ok (.iadd, 1) := by decide +kernel
theorem dX8_mount_59 : decode cX8_mount 59 = .ok (.invokevirtual 31, 3) := by decide +kernel
theorem dX8_mount_62 : decode cX8_mount 62 = .ok (.invokevirtual 36, 3) := by decide +kernel
theorem dX8_mount_65 : decode cX8_mount 65 = .ok (.ifCond .eq 10, 3) := by decide +kernel
theorem dX8_mount_68 : decode cX8_mount 68 = .ok (.aload_n 0, 1) := by decide +kernel
theorem dX8_mount_69 : decode cX8_mount 69 = .ok (.getfield 40, 3) := by decide +kernel
theorem dX8_mount_72 : decode cX8_mount 72 = .ok (.goto 5, 3) := by decide +kernel
theorem dX8_mount_75 : decode cX8_mount 75 = .ok (.bipush (-4), 2) := by decide +kernel
theorem dX8_mount_77 : decode cX8_mount 77 = .ok (.ireturn, 1) := by decide +kernel
set_option maxRecDepth 20000 in
theorem ggX8_isSigned_X0_byteAt : GoodIn wsX8_isSigned wsX0_byteAt := goodIn_r _ [6, 7, 17] (by decide +kernel) (by decide +kernel)
set_option maxRecDepth 20000 in
theorem gX8_isSigned_X0_byteAt : GoodIn wsX8_isSigned (wsV RX8 31 RX0 yX0_byteAt wsX0_byteAt) := goodIn_app (goodIn_of _ (by decide +kernel)) ggX8_isSigned_X0_byteAt
theorem dX8_isSigned_0 : decode cX8_isSigned 0 = .ok (.aload_n 0, 1) := by decide +kernel
theorem dX8_isSigned_1 : decode cX8_isSigned 1 = .ok (.getfield 9, 3) := by decide +kernel
theorem dX8_isSigned_4 : decode cX8_isSigned 4 = .ok (.iload_n 1, 1) := by decide +kernel
theorem dX8_isSigned_5 : decode cX8_isSigned 5 = .ok (.bipush 30, 2) := by decide +kernel
theorem dX8_isSigned_7 : decode cX8_isSigned 7 = .ok (.iadd, 1) := by decide +kernel
theorem dX8_isSigned_8 : decode cX8_isSigned 8 = .ok (.invokevirtual 31, 3) := by decide +kernel
theorem dX8_isSigned_11 : decode cX8_isSigned 11 = .ok (.bipush 85, 2) := by decide +kernel
theorem dX8_isSigned_13 : decode cX8_isSigned 13 = .ok (.if_icmp .ne 24, 3) := by decide +kernel
theorem dX8_isSigned_16 : decode cX8_isSigned 16 = .ok (.aload_n 0, 1) := by decide +kernel
theorem dX8_isSigned_17 : decode cX8_isSigned 17 = .ok (.getfield 9, 3) := by decide +kernel
theorem dX8_isSigned_20 : decode cX8_isSigned 20 = .ok (.iload_n 1, 1) := by decide +kernel
theorem dX8_isSigned_21 : decode cX8_isSigned 21 = .ok (.bipush 31, 2) := by decide +kernel
theorem dX8_isSigned_23 : decode cX8_isSigned 23 = .ok (.iadd, 1) := by decide +kernel
theorem dX8_isSigned_24 : decode cX8_isSigned 24 = .ok (.invokevirtual 31, 3) := by decide +kernel
theorem dX8_isSigned_27 : decode cX8_isSigned 27 = .ok (.sipush 170, 3) := by decide +kernel
theorem dX8_isSigned_30 : decode cX8_isSigned 30 = .ok (.if_icmp .ne 7, 3) := by decide +kernel
theorem dX8_isSigned_33 : decode cX8_isSigned 33 = .ok (.iconst 1, 1) := by decide +kernel
theorem dX8_isSigned_34 : decode cX8_isSigned 34 = .ok (.goto 4, 3) := by decide +kernel
theorem dX8_isSigned_37 : decode cX8_isSigned 37 = .ok (.iconst 0, 1) := by decide +kernel
theorem dX8_isSigned_38 : decode cX8_isSigned 38 = .ok (.ireturn, 1) := by decide +kernel
theorem dX8_placeOfRecord_0 : decode cX8_placeOfRecord 0 = .ok (.bipush 6, 2) := by decide +kernel
theorem dX8_placeOfRecord_2 : decode cX8_placeOfRecord 2 = .ok (.bipush 8, 2) := by decide +kernel
theorem dX8_placeOfRecord_4 : decode cX8_placeOfRecord 4 = .ok (.iload_n 1, 1) := by decide +kernel
theorem dX8_placeOfRecord_5 : decode cX8_placeOfRecord 5 = .ok (.imul, 1) := by decide +kernel
theorem dX8_placeOfRecord_6 : decode cX8_placeOfRecord 6 = .ok (.iadd, 1) := by decide +kernel
theorem dX8_placeOfRecord_7 : decode cX8_placeOfRecord 7 = .ok (.ireturn, 1) := by decide +kernel
set_option maxRecDepth 20000 in
theorem ggX8_choosePartition_X8_isUsable : GoodIn wsX8_choosePartition wsX8_isUsable := goodIn_r _ [6, 1, 7, 8, 9, 5, 10, 11, 12, 13, 14, 15, 16, 17, 18, 19, 20, 21, 22, 23, 24, 25, 26] (by decide +kernel) (by decide +kernel)
set_option maxRecDepth 20000 in
theorem gX8_choosePartition_X8_isUsable : GoodIn wsX8_choosePartition (wsV RX8 43 RX8 yX8_isUsable wsX8_isUsable) := goodIn_app (goodIn_of _ (by decide +kernel)) ggX8_choosePartition_X8_isUsable
set_option maxRecDepth 20000 in
theorem ggX8_choosePartition_X8_placeOfRecord : GoodIn wsX8_choosePartition wsX8_placeOfRecord := goodIn_r _ [10] (by decide +kernel) (by decide +kernel)
set_option maxRecDepth 20000 in
theorem gX8_choosePartition_X8_placeOfRecord : GoodIn wsX8_choosePartition (wsV RX8 27 RX8 yX8_placeOfRecord wsX8_placeOfRecord) := goodIn_app (goodIn_of _ (by decide +kernel)) ggX8_choosePartition_X8_placeOfRecord
set_option maxRecDepth 20000 in
theorem ggX8_choosePartition_X0_byteAt : GoodIn wsX8_choosePartition wsX0_byteAt := goodIn_r _ [15, 16, 26] (by decide +kernel) (by decide +kernel)
set_option maxRecDepth 20000 in
theorem gX8_choosePartition_X0_byteAt : GoodIn wsX8_choosePartition (wsV RX8 31 RX0 yX0_byteAt wsX0_byteAt) := goodIn_app (goodIn_of _ (by decide +kernel)) ggX8_choosePartition_X0_byteAt
theorem dX8_choosePartition_0 : decode cX8_choosePartition 0 = .ok (.iconst (-1), 1) := by decide +kernel
theorem dX8_choosePartition_1 : decode cX8_choosePartition 1 = .ok (.istore_n 1, 1) := by decide +kernel
theorem dX8_choosePartition_2 : decode cX8_choosePartition 2 = .ok (.iconst 0, 1) := by decide +kernel
theorem dX8_choosePartition_3 : decode cX8_choosePartition 3 = .ok (.istore_n 2, 1) := by decide +kernel
theorem dX8_choosePartition_4 : decode cX8_choosePartition 4 = .ok (.iload_n 2, 1) := by decide +kernel
theorem dX8_choosePartition_5 : decode cX8_choosePartition 5 = .ok (.iconst 3, 1) := by decide +kernel
theorem dX8_choosePartition_6 : decode cX8_choosePartition 6 = .ok (.if_icmp .ge 46, 3) := by decide +kernel
theorem dX8_choosePartition_9 : decode cX8_choosePartition 9 = .ok (.aload_n 0, 1) := by decide +kernel
theorem dX8_choosePartition_10 : decode cX8_choosePartition 10 = .ok (.iload_n 2, 1) := by decide +kernel
theorem dX8_choosePartition_11 : decode cX8_choosePartition 11 = .ok (.invokevirtual 43, 3) := by decide +kernel
theorem dX8_choosePartition_14 : decode cX8_choosePartition 14 = .ok (.ifCond .ne 6, 3) := by decide +kernel
theorem dX8_choosePartition_17 : decode cX8_choosePartition 17 = .ok (.goto 29, 3) := by decide +kernel
theorem dX8_choosePartition_20 : decode cX8_choosePartition 20 = .ok (.aload_n 0, 1) := by decide +kernel
theorem dX8_choosePartition_21 : decode cX8_choosePartition 21 = .ok (.getfield 9, 3) := by decide +kernel
theorem dX8_choosePartition_24 : decode cX8_choosePartition 24 = .ok (.aload_n 0, 1) := by decide +kernel
theorem dX8_choosePartition_25 : decode cX8_choosePartition 25 = .ok (.iload_n 2, 1) := by decide +kernel
theorem dX8_choosePartition_26 : decode cX8_choosePartition 26 = .ok (.invokevirtual 27, 3) := by decide +kernel
theorem dX8_choosePartition_29 : decode cX8_choosePartition 29 = .ok (.invokevirtual 31, 3) := by decide +kernel
theorem dX8_choosePartition_32 : decode cX8_choosePartition 32 = .ok (.sipush 128, 3) := by decide +kernel
theorem dX8_choosePartition_35 : decode cX8_choosePartition 35 = .ok (.if_icmp .ne 5, 3) := by decide +kernel
theorem dX8_choosePartition_38 : decode cX8_choosePartition 38 = .ok (.iload_n 2, 1) := by decide +kernel
theorem dX8_choosePartition_39 : decode cX8_choosePartition 39 = .ok (.ireturn, 1) := by decide +kernel
theorem dX8_choosePartition_40 : decode cX8_choosePartition 40 = .ok (.iload_n 1, 1) := by decide +kernel
theorem dX8_choosePartition_41 : decode cX8_choosePartition 41 = .ok (.ifCond .ge 5, 3) := by decide +kernel
theorem dX8_choosePartition_44 : decode cX8_choosePartition 44 = .ok (.iload_n 2, 1) := by decide +kernel
theorem dX8_choosePartition_45 : decode cX8_choosePartition 45 = .ok (.istore_n 1, 1) := by decide +kernel
theorem dX8_choosePartition_46 : decode cX8_choosePartition 46 = .ok (.iinc 2 1, 3) := by decide +kernel
theorem dX8_choosePartition_49 : decode cX8_choosePartition 49 = .ok (.goto (-45), 3) := by decide +kernel
theorem dX8_choosePartition_52 : decode cX8_choosePartition 52 = .ok (.iload_n 1, 1) := by decide +kernel
theorem dX8_choosePartition_53 : decode cX8_choosePartition 53 = .ok (.ireturn, 1) := by decide +kernel
set_option maxRecDepth 20000 in
theorem ggX8_isUsable_X8_placeOfRecord : GoodIn wsX8_isUsable wsX8_placeOfRecord := goodIn_r _ [6] (by decide +kernel) (by decide +kernel)
set_option maxRecDepth 20000 in
theorem gX8_isUsable_X8_placeOfRecord : GoodIn wsX8_isUsable (wsV RX8 27 RX8 yX8_placeOfRecord wsX8_placeOfRecord) := goodIn_app (goodIn_of _ (by decide +kernel)) ggX8_isUsable_X8_placeOfRecord
set_option maxRecDepth 20000 in
theorem ggX8_isUsable_X0_byteAt : GoodIn wsX8_isUsable wsX0_byteAt := goodIn_r _ [11, 12, 22] (by decide +kernel) (by decide +kernel)
set_option maxRecDepth 20000 in
theorem gX8_isUsable_X0_byteAt : GoodIn wsX8_isUsable (wsV RX8 31 RX0 yX0_byteAt wsX0_byteAt) := goodIn_app (goodIn_of _ (by decide +kernel)) ggX8_isUsable_X0_byteAt
theorem dX8_isUsable_0 : decode cX8_isUsable 0 = .ok (.aload_n 0, 1) := by decide +kernel
theorem dX8_isUsable_1 : decode cX8_isUsable 1 = .ok (.iload_n 1, 1) := by decide +kernel
theorem dX8_isUsable_2 : decode cX8_isUsable 2 = .ok (.invokevirtual 27, 3) := by decide +kernel
theorem dX8_isUsable_5 : decode cX8_isUsable 5 = .ok (.istore_n 2, 1) := by decide +kernel
theorem dX8_isUsable_6 : decode cX8_isUsable 6 = .ok (.aload_n 0, 1) := by decide +kernel
theorem dX8_isUsable_7 : decode cX8_isUsable 7 = .ok (.getfield 9, 3) := by decide +kernel
theorem dX8_isUsable_10 : decode cX8_isUsable 10 = .ok (.iload_n 2, 1) := by decide +kernel
theorem dX8_isUsable_11 : decode cX8_isUsable 11 = .ok (.iconst 2, 1) := by decide +kernel
theorem dX8_isUsable_12 : decode cX8_isUsable 12 = .ok (.iadd, 1) := by decide +kernel
theorem dX8_isUsable_13 : decode cX8_isUsable 13 = .ok (.invokevirtual 31, 3) := by decide +kernel
theorem dX8_isUsable_16 : decode cX8_isUsable 16 = .ok (.istore_n 3, 1) := by decide +kernel
theorem dX8_isUsable_17 : decode cX8_isUsable 17 = .ok (.aload_n 0, 1) := by decide +kernel
theorem dX8_isUsable_18 : decode cX8_isUsable 18 = .ok (.getfield 9, 3) := by decide +kernel
theorem dX8_isUsable_21 : decode cX8_isUsable 21 = .ok (.iload_n 2, 1) := by decide +kernel
theorem dX8_isUsable_22 : decode cX8_isUsable 22 = .ok (.iconst 3, 1) := by decide +kernel
theorem dX8_isUsable_23 : decode cX8_isUsable 23 = .ok (.iadd, 1) := by decide +kernel
theorem dX8_isUsable_24 : decode cX8_isUsable 24 = .ok (.invokevirtual 31, 3) := by decide +kernel
theorem dX8_isUsable_27 : decode cX8_isUsable 27 = .ok (.istore 4, 2) := by decide +kernel
theorem dX8_isUsable_29 : decode cX8_isUsable 29 = .ok (.aload_n 0, 1) := by decide +kernel
theorem dX8_isUsable_30 : decode cX8_isUsable 30 = .ok (.getfield 9, 3) := by decide +kernel
theorem dX8_isUsable_33 : decode cX8_isUsable 33 = .ok (.iload_n 2, 1) := by decide +kernel
theorem dX8_isUsable_34 : decode cX8_isUsable 34 = .ok (.iconst 1, 1) := by decide +kernel
theorem dX8_isUsable_35 : decode cX8_isUsable 35 = .ok (.iadd, 1) := by decide +kernel
theorem dX8_isUsable_36 : decode cX8_isUsable 36 = .ok (.invokevirtual 31, 3) := by decide +kernel
theorem dX8_isUsable_39 : decode cX8_isUsable 39 = .ok (.bipush 12, 2) := by decide +kernel
theorem dX8_isUsable_41 : decode cX8_isUsable 41 = .ok (.if_icmp .ne 27, 3) := by decide +kernel
theorem dX8_isUsable_44 : decode cX8_isUsable 44 = .ok (.iload_n 3, 1) := by decide +kernel
theorem dX8_isUsable_45 : decode cX8_isUsable 45 = .ok (.iconst 1, 1) := by decide +kernel
theorem dX8_isUsable_46 : decode cX8_isUsable 46 = .ok (.if_icmp .lt 22, 3) := by decide +kernel
theorem dX8_isUsable_49 : decode cX8_isUsable 49 = .ok (.iload 4, 2) := by decide +kernel
theorem dX8_isUsable_51 : decode cX8_isUsable 51 = .ok (.iconst 1, 1) := by decide +kernel
theorem dX8_isUsable_52 : decode cX8_isUsable 52 = .ok (.if_icmp .lt 16, 3) := by decide +kernel
theorem dX8_isUsable_55 : decode cX8_isUsable 55 = .ok (.iload_n 3, 1) := by decide +kernel
theorem dX8_isUsable_56 : decode cX8_isUsable 56 = .ok (.iload 4, 2) := by decide +kernel
theorem dX8_isUsable_58 : decode cX8_isUsable 58 = .ok (.iadd, 1) := by decide +kernel
theorem dX8_isUsable_59 : decode cX8_isUsable 59 = .ok (.bipush 64, 2) := by decide +kernel
theorem dX8_isUsable_61 : decode cX8_isUsable 61 = .ok (.if_icmp .gt 7, 3) := by decide +kernel
theorem dX8_isUsable_64 : decode cX8_isUsable 64 = .ok (.iconst 1, 1) := by decide +kernel
theorem dX8_isUsable_65 : decode cX8_isUsable 65 = .ok (.goto 4, 3) := by decide +kernel
theorem dX8_isUsable_68 : decode cX8_isUsable 68 = .ok (.iconst 0, 1) := by decide +kernel
theorem dX8_isUsable_69 : decode cX8_isUsable 69 = .ok (.ireturn, 1) := by decide +kernel
set_option maxRecDepth 20000 in
theorem ggX8_takeGeometry_X0_byteAt : GoodIn wsX8_takeGeometry wsX0_byteAt := goodIn_r _ [13, 14, 33] (by decide +kernel) (by decide +kernel)
set_option maxRecDepth 20000 in
theorem gX8_takeGeometry_X0_byteAt : GoodIn wsX8_takeGeometry (wsV RX8 31 RX0 yX0_byteAt wsX0_byteAt) := goodIn_app (goodIn_of _ (by decide +kernel)) ggX8_takeGeometry_X0_byteAt
set_option maxRecDepth 20000 in
theorem ggX8_takeGeometry_X8_isSigned : GoodIn wsX8_takeGeometry wsX8_isSigned := goodIn_r _ [19, 1, 9, 10, 11, 12, 13, 14, 24, 25, 26, 27, 28, 29, 30, 31, 32, 33] (by decide +kernel) (by decide +kernel)
set_option maxRecDepth 20000 in
theorem gX8_takeGeometry_X8_isSigned : GoodIn wsX8_takeGeometry (wsV RX8 15 RX8 yX8_isSigned wsX8_isSigned) := goodIn_app (goodIn_of _ (by decide +kernel)) ggX8_takeGeometry_X8_isSigned
set_option maxRecDepth 20000 in
theorem ggX8_takeGeometry_X8_isCluster : GoodIn wsX8_takeGeometry wsX8_isCluster := goodIn_r _ [23, 4, 24, 25, 26, 27, 28, 29, 30, 31, 32] (by decide +kernel) (by decide +kernel)
set_option maxRecDepth 20000 in
theorem gX8_takeGeometry_X8_isCluster : GoodIn wsX8_takeGeometry (wsV RX8 64 RX8 yX8_isCluster wsX8_isCluster) := goodIn_app (goodIn_of _ (by decide +kernel)) ggX8_takeGeometry_X8_isCluster
theorem dX8_takeGeometry_0 : decode cX8_takeGeometry 0 = .ok (.aload_n 0, 1) := by decide +kernel
theorem dX8_takeGeometry_1 : decode cX8_takeGeometry 1 = .ok (.getfield 9, 3) := by decide +kernel
theorem dX8_takeGeometry_4 : decode cX8_takeGeometry 4 = .ok (.iload_n 1, 1) := by decide +kernel
theorem dX8_takeGeometry_5 : decode cX8_takeGeometry 5 = .ok (.iconst 1, 1) := by decide +kernel
theorem dX8_takeGeometry_6 : decode cX8_takeGeometry 6 = .ok (.iadd, 1) := by decide +kernel
theorem dX8_takeGeometry_7 : decode cX8_takeGeometry 7 = .ok (.invokevirtual 31, 3) := by decide +kernel
theorem dX8_takeGeometry_10 : decode cX8_takeGeometry 10 = .ok (.istore_n 3, 1) := by decide +kernel
theorem dX8_takeGeometry_11 : decode cX8_takeGeometry 11 = .ok (.aload_n 0, 1) := by decide +kernel
theorem dX8_takeGeometry_12 : decode cX8_takeGeometry 12 = .ok (.getfield 9, 3) := by decide +kernel
theorem dX8_takeGeometry_15 : decode cX8_takeGeometry 15 = .ok (.iload_n 1, 1) := by decide +kernel
theorem dX8_takeGeometry_16 : decode cX8_takeGeometry 16 = .ok (.iconst 2, 1) := by decide +kernel
theorem dX8_takeGeometry_17 : decode cX8_takeGeometry 17 = .ok (.iadd, 1) := by decide +kernel
theorem dX8_takeGeometry_18 : decode cX8_takeGeometry 18 = .ok (.invokevirtual 31, 3) := by decide +kernel
theorem dX8_takeGeometry_21 : decode cX8_takeGeometry 21 = .ok (.istore 4, 2) := by decide +kernel
theorem dX8_takeGeometry_23 : decode cX8_takeGeometry 23 = .ok (.aload_n 0, 1) := by decide +kernel
theorem dX8_takeGeometry_24 : decode cX8_takeGeometry 24 = .ok (.aload_n 0, 1) := by decide +kernel
theorem dX8_takeGeometry_25 : decode cX8_takeGeometry 25 = .ok (.getfield 9, 3) := by decide +kernel
theorem dX8_takeGeometry_28 : decode cX8_takeGeometry 28 = .ok (.iload_n 1, 1) := by decide +kernel
theorem dX8_takeGeometry_29 : decode cX8_takeGeometry 29 = .ok (.iconst 3, 1) := by decide +kernel
theorem dX8_takeGeometry_30 : decode cX8_takeGeometry 30 = .ok (.iadd, 1) := by decide +kernel
theorem dX8_takeGeometry_31 : decode cX8_takeGeometry 31 = .ok (.invokevirtual 31, 3) := by decide +kernel
theorem dX8_takeGeometry_34 : decode cX8_takeGeometry 34 = .ok (.putfield 46, 3) := by decide +kernel
theorem dX8_takeGeometry_37 : decode cX8_takeGeometry 37 = .ok (.aload_n 0, 1) := by decide +kernel
theorem dX8_takeGeometry_38 : decode cX8_takeGeometry 38 = .ok (.getfield 9, 3) := by decide +kernel
theorem dX8_takeGeometry_41 : decode cX8_takeGeometry 41 = .ok (.iload_n 1, 1) := by decide +kernel
theorem dX8_takeGeometry_42 : decode cX8_takeGeometry 42 = .ok (.iconst 4, 1) := by decide +kernel
theorem dX8_takeGeometry_43 : decode cX8_takeGeometry 43 = .ok (.iadd, 1) := by decide +kernel
theorem dX8_takeGeometry_44 : decode cX8_takeGeometry 44 = .ok (.invokevirtual 31, 3) := by decide +kernel
theorem dX8_takeGeometry_47 : decode cX8_takeGeometry 47 = .ok (.istore 5, 2) := by decide +kernel
theorem dX8_takeGeometry_49 : decode cX8_takeGeometry 49 = .ok (.aload_n 0, 1) := by decide +kernel
theorem dX8_takeGeometry_50 : decode cX8_takeGeometry 50 = .ok (.aload_n 0, 1) := by decide +kernel
theorem dX8_takeGeometry_51 : decode cX8_takeGeometry 51 = .ok (.getfield 9, 3) := by decide +kernel
theorem dX8_takeGeometry_54 : decode cX8_takeGeometry 54 = .ok (.iload_n 1, 1) := by decide +kernel
theorem dX8_takeGeometry_55 : decode cX8_takeGeometry 55 = .ok (.iconst 5, 1) := by decide +kernel
theorem dX8_takeGeometry_56 : decode cX8_takeGeometry 56 = .ok (.iadd, 1) := by decide +kernel
theorem dX8_takeGeometry_57 : decode cX8_takeGeometry 57 = .ok (.invokevirtual 31, 3) := by decide +kernel
theorem dX8_takeGeometry_60 : decode cX8_takeGeometry 60 = .ok (.putfield 49, 3) := by decide +kernel
theorem dX8_takeGeometry_63 : decode cX8_takeGeometry 63 = .ok (.aload_n 0, 1) := by decide +kernel
theorem dX8_takeGeometry_64 : decode cX8_takeGeometry 64 = .ok (.getfield 9, 3) := by decide +kernel
theorem dX8_takeGeometry_67 : decode cX8_takeGeometry 67 = .ok (.iload_n 1, 1) := by decide +kernel
theorem dX8_takeGeometry_68 : decode cX8_takeGeometry 68 = .ok (.invokevirtual 31, 3) := by decide +kernel
theorem dX8_takeGeometry_71 : decode cX8_takeGeometry 71 = .ok (.sipush 235, 3) := by decide +kernel
theorem dX8_takeGeometry_74 : decode cX8_takeGeometry 74 = .ok (.if_icmp .ne 11, 3) := by decide +kernel
theorem dX8_takeGeometry_77 : decode cX8_takeGeometry 77 = .ok (.aload_n 0, 1) := by decide +kernel
theorem dX8_takeGeometry_78 : decode cX8_takeGeometry 78 = .ok (.iload_n 1, 1) := by decide +kernel
theorem dX8_takeGeometry_79 : decode cX8_takeGeometry 79 = .ok (.invokevirtual 15, 3) := by decide +kernel
theorem dX8_takeGeometry_82 : decode cX8_takeGeometry 82 = .ok (.ifCond .ne 5, 3) := by decide +kernel
theorem dX8_takeGeometry_85 : decode cX8_takeGeometry 85 = .ok (.iconst 0, 1) := by decide +kernel
theorem dX8_takeGeometry_86 : decode cX8_takeGeometry 86 = .ok (.ireturn, 1) := by decide +kernel
theorem dX8_takeGeometry_87 : decode cX8_takeGeometry 87 = .ok (.iload_n 3, 1) := by decide +kernel
theorem dX8_takeGeometry_88 : decode cX8_takeGeometry 88 = .ok (.iconst 1, 1) := by decide +kernel
theorem dX8_takeGeometry_89 : decode cX8_takeGeometry 89 = .ok (.if_icmp .eq 15, 3) := by decide +kernel
theorem dX8_takeGeometry_92 : decode cX8_takeGeometry 92 = .ok (.iload_n 3, 1) := by decide +kernel
theorem dX8_takeGeometry_93 : decode cX8_takeGeometry 93 = .ok (.iconst 2, 1) := by decide +kernel
theorem dX8_takeGeometry_94 : decode cX8_takeGeometry 94 = .ok (.if_icmp .eq 10, 3) := by decide +kernel
theorem dX8_takeGeometry_97 : decode cX8_takeGeometry 97 = .ok (.iload_n 3, 1) := by decide +kernel
theorem dX8_takeGeometry_98 : decode cX8_takeGeometry 98 = .ok (.iconst 4, 1) := by decide +kernel
theorem dX8_takeGeometry_99 : decode cX8_takeGeometry 99 = .ok (.if_icmp .eq 5, 3) := by decide +kernel
theorem dX8_takeGeometry_102 : decode cX8_takeGeometry 102 = .ok (.iconst 0, 1) := by decide +kernel
theorem dX8_takeGeometry_103 : decode cX8_takeGeometry 103 = .ok (.ireturn, 1) := by decide +kernel
theorem dX8_takeGeometry_104 : decode cX8_takeGeometry 104 = .ok (.iload 4, 2) := by decide +kernel
theorem dX8_takeGeometry_106 : decode cX8_takeGeometry 106 = .ok (.iconst 1, 1) := by decide +kernel
theorem dX8_takeGeometry_107 : decode cX8_takeGeometry 107 = .ok (.if_icmp .lt 25, 3) := by decide +kernel
theorem dX8_takeGeometry_110 : decode cX8_takeGeometry 110 = .ok (.aload_n 0, 1) := by decide +kernel
theorem dX8_takeGeometry_111 : decode cX8_takeGeometry 111 = .ok (.getfield 46, 3) := by decide +kernel
theorem dX8_takeGeometry_114 : decode cX8_takeGeometry 114 = .ok (.iconst 1, 1) := by decide +kernel
theorem dX8_takeGeometry_115 : decode cX8_takeGeometry 115 = .ok (.if_icmp .lt 17, 3) := by decide +kernel
theorem dX8_takeGeometry_118 : decode cX8_takeGeometry 118 = .ok (.aload_n 0, 1) := by decide +kernel
theorem dX8_takeGeometry_119 : decode cX8_takeGeometry 119 = .ok (.getfield 46, 3) := by decide +kernel
theorem dX8_takeGeometry_122 : decode cX8_takeGeometry 122 = .ok (.iconst 2, 1) := by decide +kernel
theorem dX8_takeGeometry_123 : decode cX8_takeGeometry 123 = .ok (.if_icmp .gt 9, 3) := by decide +kernel
theorem dX8_takeGeometry_126 : decode cX8_takeGeometry 126 = .ok (.iload 5, 2) := by decide +kernel
theorem dX8_takeGeometry_128 : decode cX8_takeGeometry 128 = .ok (.iconst 1, 1) := by decide +kernel
theorem dX8_takeGeometry_129 : decode cX8_takeGeometry 129 = .ok (.if_icmp .ge 5, 3) := by decide +kernel
theorem dX8_takeGeometry_132 : decode cX8_takeGeometry 132 = .ok (.iconst 0, 1) := by decide +kernel
theorem dX8_takeGeometry_133 : decode cX8_takeGeometry 133 = .ok (.ireturn, 1) := by decide +kernel
theorem dX8_takeGeometry_134 : decode cX8_takeGeometry 134 = .ok (.iload 4, 2) := by decide +kernel
theorem dX8_takeGeometry_136 : decode cX8_takeGeometry 136 = .ok (.aload_n 0, 1) := by decide +kernel
theorem dX8_takeGeometry_137 : decode cX8_takeGeometry 137 = .ok (.getfield 46, 3) := by decide +kernel
theorem dX8_takeGeometry_140 : decode cX8_takeGeometry 140 = .ok (.iload 5, 2) := by decide +kernel
theorem dX8_takeGeometry_142 : decode cX8_takeGeometry 142 = .ok (.imul, 1) := by decide +kernel
theorem dX8_takeGeometry_143 : decode cX8_takeGeometry 143 = .ok (.iadd, 1) := by decide +kernel
theorem dX8_takeGeometry_144 : decode cX8_takeGeometry 144 = .ok (.istore 6, 2) := by decide +kernel
theorem dX8_takeGeometry_146 : decode cX8_takeGeometry 146 = .ok (.aload_n 0, 1) := by decide +kernel
theorem dX8_takeGeometry_147 : decode cX8_takeGeometry 147 = .ok (.iload_n 2, 1) := by decide +kernel
theorem dX8_takeGeometry_148 : decode cX8_takeGeometry 148 = .ok (.iload 6, 2) := by decide +kernel
theorem dX8_takeGeometry_150 : decode cX8_takeGeometry 150 = .ok (.isub, 1) := by decide +kernel
theorem dX8_takeGeometry_151 : decode cX8_takeGeometry 151 = .ok (.iload_n 3, 1) := by decide +kernel
theorem dX8_takeGeometry_152 : decode cX8_takeGeometry 152 = .ok (.idiv, 1) := by decide +kernel
theorem dX8_takeGeometry_153 : decode cX8_takeGeometry 153 = .ok (.putfield 40, 3) := by decide +kernel
theorem dX8_takeGeometry_156 : decode cX8_takeGeometry 156 = .ok (.aload_n 0, 1) := by decide +kernel
theorem dX8_takeGeometry_157 : decode cX8_takeGeometry 157 = .ok (.iload_n 3, 1) := by decide +kernel
theorem dX8_takeGeometry_158 : decode cX8_takeGeometry 158 = .ok (.bipush 32, 2) := by decide +kernel
theorem dX8_takeGeometry_160 : decode cX8_takeGeometry 160 = .ok (.imul, 1) := by decide +kernel
theorem dX8_takeGeometry_161 : decode cX8_takeGeometry 161 = .ok (.putfield 52, 3) := by decide +kernel
theorem dX8_takeGeometry_164 : decode cX8_takeGeometry 164 = .ok (.aload_n 0, 1) := by decide +kernel
theorem dX8_takeGeometry_165 : decode cX8_takeGeometry 165 = .ok (.iload 5, 2) := by decide +kernel
theorem dX8_takeGeometry_167 : decode cX8_takeGeometry 167 = .ok (.bipush 32, 2) := by decide +kernel
theorem dX8_takeGeometry_169 : decode cX8_takeGeometry 169 = .ok (.imul, 1) := by decide +kernel
theorem dX8_takeGeometry_170 : decode cX8_takeGeometry 170 = .ok (.putfield 55, 3) := by decide +kernel
theorem dX8_takeGeometry_173 : decode cX8_takeGeometry 173 = .ok (.aload_n 0, 1) := by decide +kernel
theorem dX8_takeGeometry_174 : decode cX8_takeGeometry 174 = .ok (.iload_n 1, 1) := by decide +kernel
theorem dX8_takeGeometry_175 : decode cX8_takeGeometry 175 = .ok (.iload 4, 2) := by decide +kernel
theorem dX8_takeGeometry_177 : decode cX8_takeGeometry 177 = .ok (.bipush 32, 2) := by decide +kernel
theorem dX8_takeGeometry_179 : decode cX8_takeGeometry 179 = .ok (.imul, 1) := by decide +kernel
theorem dX8_takeGeometry_180 : decode cX8_takeGeometry 180 = .ok (.iadd, 1) := by decide +kernel
theorem dX8_takeGeometry_181 : decode cX8_takeGeometry 181 = .ok (.putfield 58, 3) := by decide +kernel
theorem dX8_takeGeometry_184 : decode cX8_takeGeometry 184 = .ok (.aload_n 0, 1) := by decide +kernel
theorem dX8_takeGeometry_185 : decode cX8_takeGeometry 185 = .ok (.iload_n 1, 1) := by decide +kernel
theorem dX8_takeGeometry_186 : decode cX8_takeGeometry 186 = .ok (.iload 6, 2) := by decide +kernel
theorem dX8_takeGeometry_188 : decode cX8_takeGeometry 188 = .ok (.bipush 32, 2) := by decide +kernel
theorem dX8_takeGeometry_190 : decode cX8_takeGeometry 190 = .ok (.imul, 1) := by decide +kernel
theorem dX8_takeGeometry_191 : decode cX8_takeGeometry 191 = .ok (.iadd, 1) := by decide +kernel
theorem dX8_takeGeometry_192 : decode cX8_takeGeometry 192 = .ok (.putfield 61, 3) := by decide +kernel
theorem dX8_takeGeometry_195 : decode cX8_takeGeometry 195 = .ok (.aload_n 0, 1) := by decide +kernel
theorem dX8_takeGeometry_196 : decode cX8_takeGeometry 196 = .ok (.getfield 40, 3) := by decide +kernel
theorem dX8_takeGeometry_199 : decode cX8_takeGeometry 199 = .ok (.iconst 1, 1) := by decide +kernel
theorem dX8_takeGeometry_200 : decode cX8_takeGeometry 200 = .ok (.if_icmp .lt 33, 3) := by decide +kernel
theorem dX8_takeGeometry_203 : decode cX8_takeGeometry 203 = .ok (.aload_n 0, 1) := by decide +kernel
theorem dX8_takeGeometry_204 : decode cX8_takeGeometry 204 = .ok (.getfield 55, 3) := by decide +kernel
theorem dX8_takeGeometry_207 : decode cX8_takeGeometry 207 = .ok (.iconst 2, 1) := by decide +kernel
theorem dX8_takeGeometry_208 : decode cX8_takeGeometry 208 = .ok (.aload_n 0, 1) := by decide +kernel
theorem dX8_takeGeometry_209 : decode cX8_takeGeometry 209 = .ok (.getfield 40, 3) := by decide +kernel
theorem dX8_takeGeometry_212 : decode cX8_takeGeometry 212 = .ok (.iconst 2, 1) := by decide +kernel
theorem dX8_takeGeometry_213 : decode cX8_takeGeometry 213 = .ok (.iadd, 1) := by decide +kernel
theorem dX8_takeGeometry_214 : decode cX8_takeGeometry 214 = .ok (.imul, 1) := by decide +kernel
theorem dX8_takeGeometry_215 : decode cX8_takeGeometry 215 = .ok (.if_icmp .lt 18, 3) := by decide +kernel
theorem dX8_takeGeometry_218 : decode cX8_takeGeometry 218 = .ok (.aload_n 0, 1) := by decide +kernel
theorem dX8_takeGeometry_219 : decode cX8_takeGeometry 219 = .ok (.aload_n 0, 1) := by decide +kernel
theorem dX8_takeGeometry_220 : decode cX8_takeGeometry 220 = .ok (.getfield 49, 3) := by decide +kernel
theorem dX8_takeGeometry_223 : decode cX8_takeGeometry 223 = .ok (.invokevirtual 64, 3) := by decide +kernel
theorem dX8_takeGeometry_226 : decode cX8_takeGeometry 226 = .ok (.ifCond .eq 7, 3) := by decide +kernel
theorem dX8_takeGeometry_229 : decode cX8_takeGeometry 229 = .ok (.iconst 1, 1) := by decide +kernel
theorem dX8_takeGeometry_230 : decode cX8_takeGeometry 230 = .ok (.goto 4, 3) := by decide +kernel
theorem dX8_takeGeometry_233 : decode cX8_takeGeometry 233 = .ok (.iconst 0, 1) := by decide +kernel
theorem dX8_takeGeometry_234 : decode cX8_takeGeometry 234 = .ok (.ireturn, 1) := by decide +kernel
theorem dX8_isCluster_0 : decode cX8_isCluster 0 = .ok (.iload_n 1, 1) := by decide +kernel
theorem dX8_isCluster_1 : decode cX8_isCluster 1 = .ok (.iconst 2, 1) := by decide +kernel
theorem dX8_isCluster_2 : decode cX8_isCluster 2 = .ok (.if_icmp .lt 17, 3) := by decide +kernel
theorem dX8_isCluster_5 : decode cX8_isCluster 5 = .ok (.iload_n 1, 1) := by decide +kernel
theorem dX8_isCluster_6 : decode cX8_isCluster 6 = .ok (.aload_n 0, 1) := by decide +kernel
theorem dX8_isCluster_7 : decode cX8_isCluster 7 = .ok (.getfield 40, 3) := by decide +kernel
theorem dX8_isCluster_10 : decode cX8_isCluster 10 = .ok (.iconst 1, 1) := by decide +kernel
theorem dX8_isCluster_11 : decode cX8_isCluster 11 = .ok (.iadd, 1) := by decide +kernel
theorem dX8_isCluster_12 : decode cX8_isCluster 12 = .ok (.if_icmp .gt 7, 3) := by decide +kernel
theorem dX8_isCluster_15 : decode cX8_isCluster 15 = .ok (.iconst 1, 1) := by decide +kernel
theorem dX8_isCluster_16 : decode cX8_isCluster 16 = .ok (.goto 4, 3) := by decide +kernel
theorem dX8_isCluster_19 : decode cX8_isCluster 19 = .ok (.iconst 0, 1) := by decide +kernel
theorem dX8_isCluster_20 : decode cX8_isCluster 20 = .ok (.ireturn, 1) := by decide +kernel
theorem dX8_isEnd_0 : decode cX8_isEnd 0 = .ok (.iload_n 1, 1) := by decide +kernel
theorem dX8_isEnd_1 : decode cX8_isEnd 1 = .ok (.sipush 4088, 3) := by decide +kernel
theorem dX8_isEnd_4 : decode cX8_isEnd 4 = .ok (.if_icmp .lt 7, 3) := by decide +kernel
theorem dX8_isEnd_7 : decode cX8_isEnd 7 = .ok (.iconst 1, 1) := by decide +kernel
theorem dX8_isEnd_8 : decode cX8_isEnd 8 = .ok (.goto 4, 3) := by decide +kernel
theorem dX8_isEnd_11 : decode cX8_isEnd 11 = .ok (.iconst 0, 1) := by decide +kernel
theorem dX8_isEnd_12 : decode cX8_isEnd 12 = .ok (.ireturn, 1) := by decide +kernel
set_option maxRecDepth 20000 in
theorem ggX8_behind_X0_wordAt : GoodIn wsX8_behind wsX0_wordAt := goodIn_r _ [9, 10, 30] (by decide +kernel) (by decide +kernel)
set_option maxRecDepth 20000 in
theorem gX8_behind_X0_wordAt : GoodIn wsX8_behind (wsV RX8 67 RX0 yX0_wordAt wsX0_wordAt) := goodIn_app (goodIn_of _ (by decide +kernel)) ggX8_behind_X0_wordAt
set_option maxRecDepth 20000 in
theorem ggX8_behind_X8_isCluster : GoodIn wsX8_behind wsX8_isCluster := goodIn_r _ [15, 16, 21, 22, 23, 24, 25, 26, 27, 28, 29] (by decide +kernel) (by decide +kernel)
set_option maxRecDepth 20000 in
theorem gX8_behind_X8_isCluster : GoodIn wsX8_behind (wsV RX8 64 RX8 yX8_isCluster wsX8_isCluster) := goodIn_app (goodIn_of _ (by decide +kernel)) ggX8_behind_X8_isCluster
set_option maxRecDepth 20000 in
theorem ggX8_behind_X8_isEnd : GoodIn wsX8_behind wsX8_isEnd := goodIn_r _ [20] (by decide +kernel) (by decide +kernel)
set_option maxRecDepth 20000 in
theorem gX8_behind_X8_isEnd : GoodIn wsX8_behind (wsV RX8 70 RX8 yX8_isEnd wsX8_isEnd) := goodIn_app (goodIn_of _ (by decide +kernel)) ggX8_behind_X8_isEnd
theorem dX8_behind_0 : decode cX8_behind 0 = .ok (.aload_n 0, 1) := by decide +kernel
theorem dX8_behind_1 : decode cX8_behind 1 = .ok (.getfield 58, 3) := by decide +kernel
theorem dX8_behind_4 : decode cX8_behind 4 = .ok (.iconst 2, 1) := by decide +kernel
theorem dX8_behind_5 : decode cX8_behind 5 = .ok (.iload_n 1, 1) := by decide +kernel
theorem dX8_behind_6 : decode cX8_behind 6 = .ok (.imul, 1) := by decide +kernel
theorem dX8_behind_7 : decode cX8_behind 7 = .ok (.iadd, 1) := by decide +kernel
theorem dX8_behind_8 : decode cX8_behind 8 = .ok (.istore_n 2, 1) := by decide +kernel
theorem dX8_behind_9 : decode cX8_behind 9 = .ok (.aload_n 0, 1) := by decide +kernel
theorem dX8_behind_10 : decode cX8_behind 10 = .ok (.getfield 9, 3) := by decide +kernel
theorem dX8_behind_13 : decode cX8_behind 13 = .ok (.iload_n 2, 1) := by decide +kernel
theorem dX8_behind_14 : decode cX8_behind 14 = .ok (.invokevirtual 67, 3) := by decide +kernel
theorem dX8_behind_17 : decode cX8_behind 17 = .ok (.sipush 4095, 3) := by decide +kernel
theorem dX8_behind_20 : decode cX8_behind 20 = .ok (.iand, 1) := by decide +kernel
theorem dX8_behind_21 : decode cX8_behind 21 = .ok (.istore_n 3, 1) := by decide +kernel
theorem dX8_behind_22 : decode cX8_behind 22 = .ok (.aload_n 0, 1) := by decide +kernel
theorem dX8_behind_23 : decode cX8_behind 23 = .ok (.iload_n 3, 1) := by decide +kernel
theorem dX8_behind_24 : decode cX8_behind 24 = .ok (.invokevirtual 64, 3) := by decide +kernel
theorem dX8_behind_27 : decode cX8_behind 27 = .ok (.ifCond .ne 19, 3) := by decide +kernel
theorem dX8_behind_30 : decode cX8_behind 30 = .ok (.aload_n 0, 1) := by decide +kernel
theorem dX8_behind_31 : decode cX8_behind 31 = .ok (.iload_n 3, 1) := by decide +kernel
theorem dX8_behind_32 : decode cX8_behind 32 = .ok (.invokevirtual 70, 3) := by decide +kernel
theorem dX8_behind_35 : decode cX8_behind 35 = .ok (.ifCond .ne 11, 3) := by decide +kernel
theorem dX8_behind_38 : decode cX8_behind 38 = .ok (.aload_n 0, 1) := by decide +kernel
theorem dX8_behind_39 : decode cX8_behind 39 = .ok (.getfield 46, 3) := by decide +kernel
theorem dX8_behind_42 : decode cX8_behind 42 = .ok (.iconst 2, 1) := by decide +kernel
theorem dX8_behind_43 : decode cX8_behind 43 = .ok (.if_icmp .ge 5, 3) := by decide +kernel
theorem dX8_behind_46 : decode cX8_behind 46 = .ok (.iload_n 3, 1) := by decide +kernel
theorem dX8_behind_47 : decode cX8_behind 47 = .ok (.ireturn, 1) := by decide +kernel
theorem dX8_behind_48 : decode cX8_behind 48 = .ok (.aload_n 0, 1) := by decide +kernel
theorem dX8_behind_49 : decode cX8_behind 49 = .ok (.getfield 9, 3) := by decide +kernel
theorem dX8_behind_52 : decode cX8_behind 52 = .ok (.iload_n 2, 1) := by decide +kernel
theorem dX8_behind_53 : decode cX8_behind 53 = .ok (.aload_n 0, 1) := by decide +kernel
theorem dX8_behind_54 : decode cX8_behind 54 = .ok (.getfield 55, 3) := by decide +kernel
theorem dX8_behind_57 : decode cX8_behind 57 = .ok (.iadd, 1) := by decide +kernel
theorem dX8_behind_58 : decode cX8_behind 58 = .ok (.invokevirtual 67, 3) := by decide +kernel
theorem dX8_behind_61 : decode cX8_behind 61 = .ok (.sipush 4095, 3) := by decide +kernel
theorem dX8_behind_64 : decode cX8_behind 64 = .ok (.iand, 1) := by decide +kernel
theorem dX8_behind_65 : decode cX8_behind 65 = .ok (.ireturn, 1) := by decide +kernel
theorem dX8_placeOfCluster_0 : decode cX8_placeOfCluster 0 = .ok (.aload_n 0, 1) := by decide +kernel
theorem dX8_placeOfCluster_1 : decode cX8_placeOfCluster 1 = .ok (.getfield 61, 3) := by decide +kernel
theorem dX8_placeOfCluster_4 : decode cX8_placeOfCluster 4 = .ok (.iload_n 1, 1) := by decide +kernel
theorem dX8_placeOfCluster_5 : decode cX8_placeOfCluster 5 = .ok (.iconst 2, 1) := by decide +kernel
theorem dX8_placeOfCluster_6 : decode cX8_placeOfCluster 6 = .ok (.isub, 1) := by decide +kernel
theorem dX8_placeOfCluster_7 : decode cX8_placeOfCluster 7 = .ok (.aload_n 0, 1) := by decide +kernel
theorem dX8_placeOfCluster_8 : decode cX8_placeOfCluster 8 = .ok (.getfield 52, 3) := by decide +kernel
theorem dX8_placeOfCluster_11 : decode cX8_placeOfCluster 11 = .ok (.imul, 1) := by decide +kernel
theorem dX8_placeOfCluster_12 : decode cX8_placeOfCluster 12 = .ok (.iadd, 1) := by decide +kernel
theorem dX8_placeOfCluster_13 : decode cX8_placeOfCluster 13 = .ok (.ireturn, 1) := by decide +kernel
set_option maxRecDepth 20000 in
theorem ggX8_isDirectory_X0_byteAt : GoodIn wsX8_isDirectory wsX0_byteAt := goodIn_r _ [6, 7, 17] (by decide +kernel) (by decide +kernel)
set_option maxRecDepth 20000 in
theorem gX8_isDirectory_X0_byteAt : GoodIn wsX8_isDirectory (wsV RX8 31 RX0 yX0_byteAt wsX0_byteAt) := goodIn_app (goodIn_of _ (by decide +kernel)) ggX8_isDirectory_X0_byteAt
theorem dX8_isDirectory_0 : decode cX8_isDirectory 0 = .ok (.aload_n 0, 1) := by decide +kernel
theorem dX8_isDirectory_1 : decode cX8_isDirectory 1 = .ok (.getfield 9, 3) := by decide +kernel
theorem dX8_isDirectory_4 : decode cX8_isDirectory 4 = .ok (.iload_n 1, 1) := by decide +kernel
theorem dX8_isDirectory_5 : decode cX8_isDirectory 5 = .ok (.iconst 4, 1) := by decide +kernel
theorem dX8_isDirectory_6 : decode cX8_isDirectory 6 = .ok (.iadd, 1) := by decide +kernel
theorem dX8_isDirectory_7 : decode cX8_isDirectory 7 = .ok (.invokevirtual 31, 3) := by decide +kernel
theorem dX8_isDirectory_10 : decode cX8_isDirectory 10 = .ok (.bipush 16, 2) := by decide +kernel
theorem dX8_isDirectory_12 : decode cX8_isDirectory 12 = .ok (.iand, 1) := by decide +kernel
theorem dX8_isDirectory_13 : decode cX8_isDirectory 13 = .ok (.ifCond .eq 7, 3) := by decide +kernel
theorem dX8_isDirectory_16 : decode cX8_isDirectory 16 = .ok (.iconst 1, 1) := by decide +kernel
theorem dX8_isDirectory_17 : decode cX8_isDirectory 17 = .ok (.goto 4, 3) := by decide +kernel
theorem dX8_isDirectory_20 : decode cX8_isDirectory 20 = .ok (.iconst 0, 1) := by decide +kernel
theorem dX8_isDirectory_21 : decode cX8_isDirectory 21 = .ok (.ireturn, 1) := by decide +kernel
set_option maxRecDepth 20000 in
theorem ggX8_firstClusterOf_X0_byteAt : GoodIn wsX8_firstClusterOf wsX0_byteAt := goodIn_r _ [6, 7, 17] (by decide +kernel) (by decide +kernel)
set_option maxRecDepth 20000 in
theorem gX8_firstClusterOf_X0_byteAt : GoodIn wsX8_firstClusterOf (wsV RX8 31 RX0 yX0_byteAt wsX0_byteAt) := goodIn_app (goodIn_of _ (by decide +kernel)) ggX8_firstClusterOf_X0_byteAt
theorem dX8_firstClusterOf_0 : decode cX8_firstClusterOf 0 = .ok (.aload_n 0, 1) := by decide +kernel
theorem dX8_firstClusterOf_1 : decode cX8_firstClusterOf 1 = .ok (.getfield 9, 3) := by decide +kernel
theorem dX8_firstClusterOf_4 : decode cX8_firstClusterOf 4 = .ok (.iload_n 1, 1) := by decide +kernel
theorem dX8_firstClusterOf_5 : decode cX8_firstClusterOf 5 = .ok (.iconst 5, 1) := by decide +kernel
theorem dX8_firstClusterOf_6 : decode cX8_firstClusterOf 6 = .ok (.iadd, 1) := by decide +kernel
theorem dX8_firstClusterOf_7 : decode cX8_firstClusterOf 7 = .ok (.invokevirtual 31, 3) := by decide +kernel
theorem dX8_firstClusterOf_10 : decode cX8_firstClusterOf 10 = .ok (.ireturn, 1) := by decide +kernel
set_option maxRecDepth 20000 in
theorem ggX8_sizeOf_X0_wordAt : GoodIn wsX8_sizeOf wsX0_wordAt := goodIn_r _ [6, 7, 17] (by decide +kernel) (by decide +kernel)
set_option maxRecDepth 20000 in
theorem gX8_sizeOf_X0_wordAt : GoodIn wsX8_sizeOf (wsV RX8 67 RX0 yX0_wordAt wsX0_wordAt) := goodIn_app (goodIn_of _ (by decide +kernel)) ggX8_sizeOf_X0_wordAt
theorem dX8_sizeOf_0 : decode cX8_sizeOf 0 = .ok (.aload_n 0, 1) := by decide +kernel
theorem dX8_sizeOf_1 : decode cX8_sizeOf 1 = .ok (.getfield 9, 3) := by decide +kernel
theorem dX8_sizeOf_4 : decode cX8_sizeOf 4 = .ok (.iload_n 1, 1) := by decide +kernel
theorem dX8_sizeOf_5 : decode cX8_sizeOf 5 = .ok (.bipush 6, 2) := by decide +kernel
theorem dX8_sizeOf_7 : decode cX8_sizeOf 7 = .ok (.iadd, 1) := by decide +kernel
theorem dX8_sizeOf_8 : decode cX8_sizeOf 8 = .ok (.invokevirtual 67, 3) := by decide +kernel
theorem dX8_sizeOf_11 : decode cX8_sizeOf 11 = .ok (.ireturn, 1) := by decide +kernel
set_option maxRecDepth 20000 in
theorem ggX9_init_X0_init : GoodIn wsX9_init wsX0_init := goodIn_r _ [39, 40, 2, 3, 41, 42, 96] (by decide +kernel) (by decide +kernel)
set_option maxRecDepth 20000 in
theorem gX9_init_X0_init : GoodIn wsX9_init (wsX0_init) := ggX9_init_X0_init
set_option maxRecDepth 20000 in
theorem ggX9_init_X8_init : GoodIn wsX9_init wsX8_init := goodIn_r _ [45, 46, 2, 3, 47, 108, 109, 110, 111, 112, 113, 114, 115, 116] (by decide +kernel) (by decide +kernel)
set_option maxRecDepth 20000 in
theorem gX9_init_X8_init : GoodIn wsX9_init (wsX8_init) := ggX9_init_X8_init
set_option maxRecDepth 20000 in
theorem ggX9_init_X5_init : GoodIn wsX9_init wsX5_init := goodIn_r _ [50, 51, 2, 3, 33, 52, 117, 118] (by decide +kernel) (by decide +kernel)
set_option maxRecDepth 20000 in
theorem gX9_init_X5_init : GoodIn wsX9_init (wsX5_init) := ggX9_init_X5_init
set_option maxRecDepth 20000 in
theorem ggX9_init_X3_init : GoodIn wsX9_init wsX3_init := goodIn_r _ [55, 56, 2, 3, 57, 58, 59, 60, 61, 62, 63, 64, 65, 66, 67, 68, 69, 33, 70, 119, 120, 121, 122, 134, 135, 136, 137, 138] (by decide +kernel) (by decide +kernel)
set_option maxRecDepth 20000 in
theorem gX9_init_X3_init : GoodIn wsX9_init (wsX3_init) := ggX9_init_X3_init
set_option maxRecDepth 20000 in
theorem ggX9_init_X1_init : GoodIn wsX9_init wsX1_init := goodIn_r _ [73, 74, 2, 3, 75, 76, 77, 60, 61, 78, 65, 66, 67, 68, 69, 33, 70, 123, 124, 125, 126, 134, 135, 136, 137, 138] (by decide +kernel) (by decide +kernel)
set_option maxRecDepth 20000 in
theorem gX9_init_X1_init : GoodIn wsX9_init (wsX1_init) := ggX9_init_X1_init
set_option maxRecDepth 20000 in
theorem ggX9_init_X6_init : GoodIn wsX9_init wsX6_init := goodIn_r _ [81, 82, 2, 3, 33, 83, 84, 85, 86, 87, 88, 89, 90, 91, 92, 127, 128, 129, 130, 139, 140, 141] (by decide +kernel) (by decide +kernel)
set_option maxRecDepth 20000 in
theorem gX9_init_X6_init : GoodIn wsX9_init (wsX6_init) := ggX9_init_X6_init
set_option maxRecDepth 20000 in
theorem ggX9_init_X4_init : GoodIn wsX9_init wsX4_init := goodIn_r _ [94, 95, 2, 3] (by decide +kernel) (by decide +kernel)
set_option maxRecDepth 20000 in
theorem gX9_init_X4_init_n62 : GoodIn wsX9_init (wsX4_init) := ggX9_init_X4_init
theorem dX9_init_0 : decode cX9_init 0 = .ok (.aload_n 0, 1) := by decide +kernel
theorem dX9_init_1 : decode cX9_init 1 = .ok (.invokespecial 1, 3) := by decide +kernel
theorem dX9_init_4 : decode cX9_init 4 = .ok (.aload_n 0, 1) := by decide +kernel
theorem dX9_init_5 : decode cX9_init 5 = .ok (.new 7, 3) := by decide +kernel
theorem dX9_init_8 : decode cX9_init 8 = .ok (.dup, 1) := by decide +kernel
theorem dX9_init_9 : decode cX9_init 9 = .ok (.sipush 2048, 3) := by decide +kernel
theorem dX9_init_12 : decode cX9_init 12 = .ok (.invokespecial 11, 3) := by decide +kernel
theorem dX9_init_15 : decode cX9_init 15 = .ok (.putfield 14, 3) := by decide +kernel
theorem dX9_init_18 : decode cX9_init 18 = .ok (.aload_n 0, 1) := by decide +kernel
theorem dX9_init_19 : decode cX9_init 19 = .ok (.new 7, 3) := by decide +kernel
theorem dX9_init_22 : decode cX9_init 22 = .ok (.dup, 1) := by decide +kernel
theorem dX9_init_23 : decode cX9_init 23 = .ok (.sipush 1024, 3) := by decide +kernel
theorem dX9_init_26 : decode cX9_init 26 = .ok (.invokespecial 11, 3) := by decide +kernel
theorem dX9_init_29 : decode cX9_init 29 = .ok (.putfield 18, 3) := by decide +kernel
theorem dX9_init_32 : decode cX9_init 32 = .ok (.aload_n 0, 1) := by decide +kernel
theorem dX9_init_33 : decode cX9_init 33 = .ok (.new 21, 3) := by decide +kernel
theorem dX9_init_36 : decode cX9_init 36 = .ok (.dup, 1) := by decide +kernel
theorem dX9_init_37 : decode cX9_init 37 = .ok (.aload_n 0, 1) := by decide +kernel
theorem dX9_init_38 : decode cX9_init 38 = .ok (.getfield 14, 3) := by decide +kernel
theorem dX9_init_41 : decode cX9_init 41 = .ok (.invokespecial 23, 3) := by decide +kernel
theorem dX9_init_44 : decode cX9_init 44 = .ok (.putfield 26, 3) := by decide +kernel
theorem dX9_init_47 : decode cX9_init 47 = .ok (.aload_n 0, 1) := by decide +kernel
theorem dX9_init_48 : decode cX9_init 48 = .ok (.new 30, 3) := by decide +kernel
theorem dX9_init_51 : decode cX9_init 51 = .ok (.dup, 1) := by decide +kernel
theorem dX9_init_52 : decode cX9_init 52 = .ok (.invokespecial 32, 3) := by decide +kernel
theorem dX9_init_55 : decode cX9_init 55 = .ok (.putfield 33, 3) := by decide +kernel
theorem dX9_init_58 : decode cX9_init 58 = .ok (.aload_n 0, 1) := by decide +kernel
theorem dX9_init_59 : decode cX9_init 59 = .ok (.new 37, 3) := by decide +kernel
theorem dX9_init_62 : decode cX9_init 62 = .ok (.dup, 1) := by decide +kernel
theorem dX9_init_63 : decode cX9_init 63 = .ok (.aload_n 0, 1) := by decide +kernel
theorem dX9_init_64 : decode cX9_init 64 = .ok (.getfield 14, 3) := by decide +kernel
theorem dX9_init_67 : decode cX9_init 67 = .ok (.aload_n 0, 1) := by decide +kernel
theorem dX9_init_68 : decode cX9_init 68 = .ok (.getfield 26, 3) := by decide +kernel
theorem dX9_init_71 : decode cX9_init 71 = .ok (.invokespecial 39, 3) := by decide +kernel
theorem dX9_init_74 : decode cX9_init 74 = .ok (.putfield 42, 3) := by decide +kernel
theorem dX9_init_77 : decode cX9_init 77 = .ok (.aload_n 0, 1) := by decide +kernel
theorem dX9_init_78 : decode cX9_init 78 = .ok (.new 46, 3) := by decide +kernel
theorem dX9_init_81 : decode cX9_init 81 = .ok (.dup, 1) := by decide +kernel
theorem dX9_init_82 : decode cX9_init 82 = .ok (.aload_n 0, 1) := by decide +kernel
theorem dX9_init_83 : decode cX9_init 83 = .ok (.getfield 14, 3) := by decide +kernel
theorem dX9_init_86 : decode cX9_init 86 = .ok (.aload_n 0, 1) := by decide +kernel
theorem dX9_init_87 : decode cX9_init 87 = .ok (.getfield 26, 3) := by decide +kernel
theorem dX9_init_90 : decode cX9_init 90 = .ok (.invokespecial 48, 3) := by decide +kernel
theorem dX9_init_93 : decode cX9_init 93 = .ok (.putfield 49, 3) := by decide +kernel
theorem dX9_init_96 : decode cX9_init 96 = .ok (.aload_n 0, 1) := by decide +kernel
theorem dX9_init_97 : decode cX9_init 97 = .ok (.new 53, 3) := by decide +kernel
theorem dX9_init_100 : decode cX9_init 100 = .ok (.dup, 1) := by decide +kernel
theorem dX9_init_101 : decode cX9_init 101 = .ok (.invokespecial 55, 3) := by decide +kernel
theorem dX9_init_104 : decode cX9_init 104 = .ok (.putfield 56, 3) := by decide +kernel
theorem dX9_init_107 : decode cX9_init 107 = .ok (.aload_n 0, 1) := by decide +kernel
theorem dX9_init_108 : decode cX9_init 108 = .ok (.new 60, 3) := by decide +kernel
theorem dX9_init_111 : decode cX9_init 111 = .ok (.dup, 1) := by decide +kernel
theorem dX9_init_112 : decode cX9_init 112 = .ok (.invokespecial 62, 3) := by decide +kernel
theorem dX9_init_115 : decode cX9_init 115 = .ok (.putfield 63, 3) := by decide +kernel
theorem dX9_init_118 : decode cX9_init 118 = .ok (.aload_n 0, 1) := by decide +kernel
theorem dX9_init_119 : decode cX9_init 119 = .ok (.bipush 20, 2) := by decide +kernel
theorem dX9_init_121 : decode cX9_init 121 = .ok (.newarray .int, 2) := by decide +kernel
theorem dX9_init_123 : decode cX9_init 123 = .ok (.putfield 67, 3) := by decide +kernel
theorem dX9_init_126 : decode cX9_init 126 = .ok (.aload_n 0, 1) := by decide +kernel
theorem dX9_init_127 : decode cX9_init 127 = .ok (.iconst 0, 1) := by decide +kernel
theorem dX9_init_128 : decode cX9_init 128 = .ok (.putfield 71, 3) := by decide +kernel
theorem dX9_init_131 : decode cX9_init 131 = .ok (.aload_n 0, 1) := by decide +kernel
theorem dX9_init_132 : decode cX9_init 132 = .ok (.iconst (-1), 1) := by decide +kernel
theorem dX9_init_133 : decode cX9_init 133 = .ok (.putfield 75, 3) := by decide +kernel
theorem dX9_init_136 : decode cX9_init 136 = .ok (.return_, 1) := by decide +kernel
set_option maxRecDepth 20000 in
theorem ggX9_poke_X0_put : GoodIn wsX9_poke wsX0_put := goodIn_r _ [6, 7, 19] (by decide +kernel) (by decide +kernel)
set_option maxRecDepth 20000 in
theorem gX9_poke_X0_put : GoodIn wsX9_poke (wsV RX9 78 RX0 yX0_put wsX0_put) := goodIn_app (goodIn_of _ (by decide +kernel)) ggX9_poke_X0_put
theorem dX9_poke_0 : decode cX9_poke 0 = .ok (.aload_n 0, 1) := by decide +kernel
theorem dX9_poke_1 : decode cX9_poke 1 = .ok (.getfield 14, 3) := by decide +kernel
theorem dX9_poke_4 : decode cX9_poke 4 = .ok (.iload_n 1, 1) := by decide +kernel
theorem dX9_poke_5 : decode cX9_poke 5 = .ok (.lload_n 2, 1) := by decide +kernel
theorem dX9_poke_6 : decode cX9_poke 6 = .ok (.iload 4, 2) := by decide +kernel
theorem dX9_poke_8 : decode cX9_poke 8 = .ok (.invokevirtual 78, 3) := by decide +kernel
theorem dX9_poke_11 : decode cX9_poke 11 = .ok (.ireturn, 1) := by decide +kernel
set_option maxRecDepth 20000 in
theorem ggX9_peek_X0_byteAt : GoodIn wsX9_peek wsX0_byteAt := goodIn_r _ [6, 7, 19] (by decide +kernel) (by decide +kernel)
set_option maxRecDepth 20000 in
theorem gX9_peek_X0_byteAt : GoodIn wsX9_peek (wsV RX9 82 RX0 yX0_byteAt wsX0_byteAt) := goodIn_app (goodIn_of _ (by decide +kernel)) ggX9_peek_X0_byteAt
theorem dX9_peek_0 : decode cX9_peek 0 = .ok (.aload_n 0, 1) := by decide +kernel
theorem dX9_peek_1 : decode cX9_peek 1 = .ok (.getfield 14, 3) := by decide +kernel
theorem dX9_peek_4 : decode cX9_peek 4 = .ok (.iload_n 1, 1) := by decide +kernel
theorem dX9_peek_5 : decode cX9_peek 5 = .ok (.invokevirtual 82, 3) := by decide +kernel
theorem dX9_peek_8 : decode cX9_peek 8 = .ok (.ireturn, 1) := by decide +kernel
set_option maxRecDepth 20000 in
theorem ggX9_volume_X8_mount : GoodIn wsX9_volume wsX8_mount := goodIn_r _ [6, 7, 8, 9, 10, 11, 12, 5, 13, 14, 15, 16, 17, 18, 19, 20, 21, 22, 23, 24, 25, 26, 27, 28, 29, 30, 31, 32, 33, 34, 35, 36, 37, 38, 39, 40, 41, 42, 43, 44, 45, 57, 58, 59, 60, 61, 62, 63, 64, 65, 66] (by decide +kernel) (by decide +kernel)
set_option maxRecDepth 20000 in
theorem gX9_volume_X8_mount : GoodIn wsX9_volume (wsV RX9 86 RX8 yX8_mount wsX8_mount) := goodIn_app (goodIn_of _ (by decide +kernel)) ggX9_volume_X8_mount
theorem dX9_volume_0 : decode cX9_volume 0 = .ok (.aload_n 0, 1) := by decide +kernel
theorem dX9_volume_1 : decode cX9_volume 1 = .ok (.getfield 26, 3) := by decide +kernel
theorem dX9_volume_4 : decode cX9_volume 4 = .ok (.invokevirtual 86, 3) := by decide +kernel
theorem dX9_volume_7 : decode cX9_volume 7 = .ok (.ireturn, 1) := by decide +kernel
theorem dX9_type_0 : decode cX9_type 0 = .ok (.aload_n 0, 1) := by decide +kernel
theorem dX9_type_1 : decode cX9_type 1 = .ok (.getfield 71, 3) := by decide +kernel
theorem dX9_type_4 : decode cX9_type 4 = .ok (.bipush 20, 2) := by decide +kernel
theorem dX9_type_6 : decode cX9_type 6 = .ok (.if_icmp .ge 15, 3) := by decide +kernel
theorem dX9_type_9 : decode cX9_type 9 = .ok (.iload_n 1, 1) := by decide +kernel
theorem dX9_type_10 : decode cX9_type 10 = .ok (.bipush 32, 2) := by decide +kernel
theorem dX9_type_12 : decode cX9_type 12 = .ok (.if_icmp .lt 9, 3) := by decide +kernel
theorem dX9_type_15 : decode cX9_type 15 = .ok (.iload_n 1, 1) := by decide +kernel
theorem dX9_type_16 : decode cX9_type 16 = .ok (.bipush 126, 2) := by decide +kernel
theorem dX9_type_18 : decode cX9_type 18 = .ok (.if_icmp .le 5, 3) := by decide +kernel
theorem dX9_type_21 : decode cX9_type 21 = .ok (.iconst 0, 1) := by decide +kernel
theorem dX9_type_22 : decode cX9_type 22 = .ok (.ireturn, 1) := by decide +kernel
theorem dX9_type_23 : decode cX9_type 23 = .ok (.aload_n 0, 1) := by decide +kernel
theorem dX9_type_24 : decode cX9_type 24 = .ok (.getfield 67, 3) := by decide +kernel
theorem dX9_type_27 : decode cX9_type 27 = .ok (.aload_n 0, 1) := by decide +kernel
theorem dX9_type_28 : decode cX9_type 28 = .ok (.getfield 71, 3) := by decide +kernel
theorem dX9_type_31 : decode cX9_type 31 = .ok (.iload_n 1, 1) := by decide +kernel
theorem dX9_type_32 : decode cX9_type 32 = .ok (.iastore, 1) := by decide +kernel
theorem dX9_type_33 : decode cX9_type 33 = .ok (.aload_n 0, 1) := by decide +kernel
theorem dX9_type_34 : decode cX9_type 34 = .ok (.dup, 1) := by decide +kernel
theorem dX9_type_35 : decode cX9_type 35 = .ok (.getfield 71, 3) := by decide +kernel
theorem dX9_type_38 : decode cX9_type 38 = .ok (.iconst 1, 1) := by decide +kernel
theorem dX9_type_39 : decode cX9_type 39 = .ok (.iadd, 1) := by decide +kernel
theorem dX9_type_40 : decode cX9_type 40 = .ok (.putfield 71, 3) := by decide +kernel
theorem dX9_type_43 : decode cX9_type 43 = .ok (.iconst 1, 1) := by decide +kernel
theorem dX9_type_44 : decode cX9_type 44 = .ok (.ireturn, 1) := by decide +kernel
theorem dX9_scrap_0 : decode cX9_scrap 0 = .ok (.aload_n 0, 1) := by decide +kernel
theorem dX9_scrap_1 : decode cX9_scrap 1 = .ok (.getfield 71, 3) := by decide +kernel
theorem dX9_scrap_4 : decode cX9_scrap 4 = .ok (.istore_n 1, 1) := by decide +kernel
theorem dX9_scrap_5 : decode cX9_scrap 5 = .ok (.aload_n 0, 1) := by decide +kernel
theorem dX9_scrap_6 : decode cX9_scrap 6 = .ok (.iconst 0, 1) := by decide +kernel
theorem dX9_scrap_7 : decode cX9_scrap 7 = .ok (.putfield 71, 3) := by decide +kernel
theorem dX9_scrap_10 : decode cX9_scrap 10 = .ok (.iload_n 1, 1) := by decide +kernel
theorem dX9_scrap_11 : decode cX9_scrap 11 = .ok (.ireturn, 1) := by decide +kernel
set_option maxRecDepth 20000 in
theorem ggX9_size_X9_findTypedFile : GoodIn wsX9_size wsX9_findTypedFile := goodIn_r _ [6, 1, 7, 8, 9, 10, 11, 12, 13, 14, 15, 16, 17, 18, 19, 20, 21, 22, 23, 24, 25, 26, 27, 28, 29, 30, 31, 32, 33, 34, 35, 36, 37, 38, 39, 40, 41, 42, 43, 44, 45, 46, 47, 48, 49, 50, 51, 52, 53, 54, 55, 56, 57, 58, 59, 60, 61, 62, 63, 64, 65, 66, 67, 68, 69, 70, 71, 72, 73, 74, 75, 76, 77, 78, 79, 80, 81, 82, 83, 84, 85, 86, 87, 88, 89, 90, 91, 92, 93, 94, 95, 96, 97, 98, 99, 100, 101, 102, 103, 104, 105, 106, 107, 108, 109, 110, 111, 112, 113, 114, 115, 116, 117, 118, 119, 120, 121, 122, 123, 124, 125, 126, 127, 128, 129, 130, 131, 132, 133, 134, 135, 136, 137, 138, 139, 140, 141, 142, 143, 148, 149, 150, 151, 152, 153, 154, 155, 156, 157, 158, 159, 160, 161, 162, 163, 164, 165, 166, 167, 168, 169, 170, 171, 172, 173, 174, 175, 176, 177, 178, 179] (by decide +kernel) (by decide +kernel)
set_option maxRecDepth 20000 in
theorem gX9_size_X9_findTypedFile : GoodIn wsX9_size (wsV RX9 90 RX9 yX9_findTypedFile wsX9_findTypedFile) := goodIn_app (goodIn_of _ (by decide +kernel)) ggX9_size_X9_findTypedFile
set_option maxRecDepth 20000 in
theorem ggX9_size_X8_sizeOf : GoodIn wsX9_size wsX8_sizeOf := goodIn_r _ [147, 17, 110, 111, 112, 26, 113, 28, 159, 160, 161, 162, 163, 164, 165, 166, 167, 168] (by decide +kernel) (by decide +kernel)
set_option maxRecDepth 20000 in
theorem gX9_size_X8_sizeOf : GoodIn wsX9_size (wsV RX9 93 RX8 yX8_sizeOf wsX8_sizeOf) := goodIn_app (goodIn_of _ (by decide +kernel)) ggX9_size_X8_sizeOf
theorem dX9_size_0 : decode cX9_size 0 = .ok (.aload_n 0, 1) := by decide +kernel
theorem dX9_size_1 : decode cX9_size 1 = .ok (.invokevirtual 90, 3) := by decide +kernel
theorem dX9_size_4 : decode cX9_size 4 = .ok (.istore_n 1, 1) := by decide +kernel
theorem dX9_size_5 : decode cX9_size 5 = .ok (.iload_n 1, 1) := by decide +kernel
theorem dX9_size_6 : decode cX9_size 6 = .ok (.ifCond .ge 7, 3) := by decide +kernel
theorem dX9_size_9 : decode cX9_size 9 = .ok (.iload_n 1, 1) := by decide +kernel
theorem dX9_size_10 : decode cX9_size 10 = .ok (.goto 11, 3) := by decide +kernel
theorem dX9_size_13 : decode cX9_size 13 = .ok (.aload_n 0, 1) := by decide +kernel
theorem dX9_size_14 : decode cX9_size 14 = .ok (.getfield 26, 3) := by decide +kernel
theorem dX9_size_17 : decode cX9_size 17 = .ok (.iload_n 1, 1) := by decide +kernel
theorem dX9_size_18 : decode cX9_size 18 = .ok (.invokevirtual 93, 3) := by decide +kernel
theorem dX9_size_21 : decode cX9_size 21 = .ok (.ireturn, 1) := by decide +kernel
set_option maxRecDepth 20000 in
theorem ggX9_read_X9_findTypedFile : GoodIn wsX9_read wsX9_findTypedFile := goodIn_r _ [7, 8, 9, 10, 11, 1, 12, 13, 14, 15, 16, 17, 18, 19, 20, 21, 22, 23, 24, 25, 26, 27, 28, 29, 30, 31, 32, 33, 34, 35, 36, 37, 38, 39, 40, 41, 42, 43, 44, 45, 46, 47, 48, 49, 50, 51, 52, 53, 54, 55, 56, 57, 58, 59, 60, 61, 62, 63, 64, 65, 66, 67, 68, 69, 70, 71, 72, 73, 74, 75, 76, 77, 78, 79, 80, 81, 82, 83, 84, 85, 86, 87, 88, 89, 90, 91, 92, 93, 94, 95, 96, 97, 98, 99, 100, 101, 102, 103, 104, 105, 106, 107, 108, 109, 110, 111, 112, 113, 114, 115, 116, 117, 118, 119, 120, 121, 122, 123, 124, 125, 126, 127, 128, 129, 130, 131, 132, 133, 134, 135, 136, 137, 138, 139, 140, 141, 142, 143, 144, 159, 160, 161, 162, 163, 164, 165, 166, 167, 168, 169, 174, 175, 176, 177, 178, 179, 180, 181, 182, 183, 184, 185, 170, 171, 172, 173, 186, 187, 188, 189, 190] (by decide +kernel) (by decide +kernel)
set_option maxRecDepth 20000 in
theorem gX9_read_X9_findTypedFile : GoodIn wsX9_read (wsV RX9 90 RX9 yX9_findTypedFile wsX9_findTypedFile) := goodIn_app (goodIn_of _ (by decide +kernel)) ggX9_read_X9_findTypedFile
set_option maxRecDepth 20000 in
theorem ggX9_read_X3_open : GoodIn wsX9_read wsX3_open := goodIn_r _ [148, 76, 149, 150, 151, 152, 15, 153, 18, 111, 112, 113, 27, 114, 29, 88, 89, 90, 91, 24, 25, 26, 28, 92, 93, 94, 95, 96, 97, 98, 99, 100, 101, 102, 53, 54, 55, 19, 103, 104, 105, 106, 51, 48, 107, 108, 109, 110, 50, 46, 49, 52, 115, 116, 117, 118, 119, 154, 131, 132, 133, 134, 170, 171, 172, 173, 174, 175, 176, 177, 178, 179, 180, 181, 182, 183, 186, 187, 188, 189, 190] (by decide +kernel) (by decide +kernel)
set_option maxRecDepth 20000 in
theorem gX9_read_X3_open : GoodIn wsX9_read (wsV RX9 96 RX3 yX3_open wsX3_open) := goodIn_app (goodIn_of _ (by decide +kernel)) ggX9_read_X3_open
set_option maxRecDepth 20000 in
theorem ggX9_read_X2_byteAt : GoodIn wsX9_read wsX2_byteAt := goodIn_r _ [158, 129, 135, 136, 137, 95, 138, 99, 134, 97, 101, 139, 25, 26, 27, 28, 29, 186, 187, 188, 189, 190, 174, 175, 176, 177, 178, 179, 180, 181, 182, 183] (by decide +kernel) (by decide +kernel)
set_option maxRecDepth 20000 in
theorem gX9_read_X2_byteAt : GoodIn wsX9_read (wsV RX9 103 RX2 yX2_byteAt wsX2_byteAt) := goodIn_app (goodIn_of _ (by decide +kernel)) ggX9_read_X2_byteAt
theorem dX9_read_0 : decode cX9_read 0 = .ok (.aload_n 0, 1) := by decide +kernel
theorem dX9_read_1 : decode cX9_read 1 = .ok (.invokevirtual 90, 3) := by decide +kernel
theorem dX9_read_4 : decode cX9_read 4 = .ok (.istore_n 2, 1) := by decide +kernel
theorem dX9_read_5 : decode cX9_read 5 = .ok (.iload_n 2, 1) := by decide +kernel
theorem dX9_read_6 : decode cX9_read 6 = .ok (.ifCond .ge 5, 3) := by decide +kernel
theorem dX9_read_9 : decode cX9_read 9 = .ok (.iload_n 2, 1) := by decide +kernel
theorem dX9_read_10 : decode cX9_read 10 = .ok (.ireturn, 1) := by decide +kernel
theorem dX9_read_11 : decode cX9_read 11 = .ok (.aload_n 0, 1) := by decide +kernel
theorem dX9_read_12 : decode cX9_read 12 = .ok (.getfield 42, 3) := by decide +kernel
theorem dX9_read_15 : decode cX9_read 15 = .ok (.iload_n 2, 1) := by decide +kernel
theorem dX9_read_16 : decode cX9_read 16 = .ok (.invokevirtual 96, 3) := by decide +kernel
theorem dX9_read_19 : decode cX9_read 19 = .ok (.istore_n 3, 1) := by decide +kernel
theorem dX9_read_20 : decode cX9_read 20 = .ok (.iload_n 3, 1) := by decide +kernel
theorem dX9_read_21 : decode cX9_read 21 = .ok (.ifCond .ge 5, 3) := by decide +kernel
theorem dX9_read_24 : decode cX9_read 24 = .ok (.iload_n 3, 1) := by decide +kernel
theorem dX9_read_25 : decode cX9_read 25 = .ok (.ireturn, 1) := by decide +kernel
theorem dX9_read_26 : decode cX9_read 26 = .ok (.iload_n 1, 1) := by decide +kernel
theorem dX9_read_27 : decode cX9_read 27 = .ok (.ifCond .lt 22, 3) := by decide +kernel
theorem dX9_read_30 : decode cX9_read 30 = .ok (.iload_n 1, 1) := by decide +kernel
theorem dX9_read_31 : decode cX9_read 31 = .ok (.iload_n 3, 1) := by decide +kernel
theorem dX9_read_32 : decode cX9_read 32 = .ok (.if_icmp .ge 17, 3) := by decide +kernel
theorem dX9_read_35 : decode cX9_read 35 = .ok (.aload_n 0, 1) := by decide +kernel
theorem dX9_read_36 : decode cX9_read 36 = .ok (.getfield 42, 3) := by decide +kernel
theorem dX9_read_39 : decode cX9_read 39 = .ok (.getfield 99, 3) := by decide +kernel
theorem dX9_read_42 : decode cX9_read 42 = .ok (.iload_n 1, 1) := by decide +kernel
theorem dX9_read_43 : decode cX9_read 43 = .ok (.invokevirtual 103, 3) := by decide +kernel
theorem dX9_read_46 : decode cX9_read 46 = .ok (.goto 4, 3) := by decide +kernel
theorem dX9_read_49 : decode cX9_read 49 = .ok (.iconst (-1), 1) := by decide +kernel
theorem dX9_read_50 : decode cX9_read 50 = .ok (.ireturn, 1) := by decide +kernel
set_option maxRecDepth 20000 in
theorem ggX9_list_X8_mount : GoodIn wsX9_list wsX8_mount := goodIn_r _ [7, 8, 9, 10, 11, 12, 13, 6, 14, 15, 16, 17, 18, 19, 20, 21, 22, 23, 24, 25, 26, 27, 28, 29, 30, 31, 32, 33, 34, 35, 36, 37, 38, 39, 40, 41, 42, 43, 44, 45, 46, 161, 162, 163, 164, 165, 166, 167, 168, 169, 170] (by decide +kernel) (by decide +kernel)
set_option maxRecDepth 20000 in
theorem gX9_list_X8_mount : GoodIn wsX9_list (wsV RX9 86 RX8 yX8_mount wsX8_mount) := goodIn_app (goodIn_of _ (by decide +kernel)) ggX9_list_X8_mount
set_option maxRecDepth 20000 in
theorem ggX9_list_X9_findTypedDirectory : GoodIn wsX9_list wsX9_findTypedDirectory := goodIn_r _ [51, 52, 1, 53, 54, 55, 2, 56, 57, 58, 59, 60, 61, 62, 63, 64, 65, 66, 67, 68, 69, 70, 71, 72, 73, 74, 75, 76, 77, 78, 79, 80, 81, 82, 6, 83, 9, 15, 16, 17, 18, 19, 20, 84, 85, 86, 87, 88, 89, 90, 91, 92, 93, 94, 95, 96, 97, 98, 44, 45, 46, 10, 99, 100, 101, 102, 42, 39, 103, 104, 105, 106, 41, 37, 40, 107, 108, 109, 110, 43, 111, 112, 113, 114, 115, 116, 117, 118, 119, 120, 121, 122, 123, 124, 125, 126, 127, 128, 129, 130, 131, 132, 133, 134, 135, 136, 137, 138, 139, 140, 141, 142, 150, 151, 152, 153, 154, 155, 156, 157, 158, 159, 160, 161, 162, 163, 164, 165, 166, 167, 168, 169, 171, 172, 173, 174, 175, 176, 170, 177, 178, 179, 180, 181] (by decide +kernel) (by decide +kernel)
set_option maxRecDepth 20000 in
theorem gX9_list_X9_findTypedDirectory : GoodIn wsX9_list (wsV RX9 106 RX9 yX9_findTypedDirectory wsX9_findTypedDirectory) := goodIn_app (goodIn_of _ (by decide +kernel)) ggX9_list_X9_findTypedDirectory
set_option maxRecDepth 20000 in
theorem ggX9_list_X3_nameNumbered : GoodIn wsX9_list wsX3_nameNumbered := goodIn_r _ [146, 79, 147, 148, 120, 88, 89, 90, 91, 92, 93, 94, 95, 96, 97, 98, 44, 45, 6, 46, 10, 99, 100, 101, 102, 42, 39, 103, 104, 105, 106, 41, 9, 37, 40, 107, 108, 109, 18, 110, 20, 43, 111, 112, 113, 114, 115, 121, 122, 123, 124, 125, 126, 127, 128, 129, 130, 131, 132, 133, 134, 135, 16, 17, 19, 149, 173, 174, 175, 176, 177, 178, 179, 180, 181, 161, 162, 163, 164, 165, 166, 167, 168, 169, 170] (by decide +kernel) (by decide +kernel)
set_option maxRecDepth 20000 in
theorem gX9_list_X3_nameNumbered : GoodIn wsX9_list (wsV RX9 109 RX3 yX3_nameNumbered wsX3_nameNumbered) := goodIn_app (goodIn_of _ (by decide +kernel)) ggX9_list_X3_nameNumbered
theorem dX9_list_0 : decode cX9_list 0 = .ok (.aload_n 0, 1) := by decide +kernel
theorem dX9_list_1 : decode cX9_list 1 = .ok (.getfield 26, 3) := by decide +kernel
theorem dX9_list_4 : decode cX9_list 4 = .ok (.invokevirtual 86, 3) := by decide +kernel
theorem dX9_list_7 : decode cX9_list 7 = .ok (.istore_n 2, 1) := by decide +kernel
theorem dX9_list_8 : decode cX9_list 8 = .ok (.iload_n 2, 1) := by decide +kernel
theorem dX9_list_9 : decode cX9_list 9 = .ok (.ifCond .ge 6, 3) := by decide +kernel
theorem dX9_list_12 : decode cX9_list 12 = .ok (.iload_n 2, 1) := by decide +kernel
theorem dX9_list_13 : decode cX9_list 13 = .ok (.i2l, 1) := by decide +kernel
theorem dX9_list_14 : decode cX9_list 14 = .ok (.lreturn, 1) := by decide +kernel
theorem dX9_list_15 : decode cX9_list 15 = .ok (.aload_n 0, 1) := by decide +kernel
theorem dX9_list_16 : decode cX9_list 16 = .ok (.invokevirtual 106, 3) := by decide +kernel
theorem dX9_list_19 : decode cX9_list 19 = .ok (.istore_n 3, 1) := by decide +kernel
theorem dX9_list_20 : decode cX9_list 20 = .ok (.iload_n 3, 1) := by decide +kernel
theorem dX9_list_21 : decode cX9_list 21 = .ok (.ifCond .ge 8, 3) := by decide +kernel
theorem dX9_list_24 : decode cX9_list 24 = .ok (.iload_n 3, 1) := by decide +kernel
theorem dX9_list_25 : decode cX9_list 25 = .ok (.i2l, 1) := by decide +kernel
theorem dX9_list_26 : decode cX9_list 26 = .ok (.goto 12, 3) := by decide +kernel
theorem dX9_list_29 : decode cX9_list 29 = .ok (.aload_n 0, 1) := by decide +kernel
theorem dX9_list_30 : decode cX9_list 30 = .ok (.getfield 42, 3) := by decide +kernel
theorem dX9_list_33 : decode cX9_list 33 = .ok (.iload_n 3, 1) := by decide +kernel
theorem dX9_list_34 : decode cX9_list 34 = .ok (.iload_n 1, 1) := by decide +kernel
theorem dX9_list_35 : decode cX9_list 35 = .ok (.invokevirtual 109, 3) := by decide +kernel
theorem dX9_list_38 : decode cX9_list 38 = .ok (.lreturn, 1) := by decide +kernel
set_option maxRecDepth 20000 in
theorem ggX9_survey_X8_mount : GoodIn wsX9_survey wsX8_mount := goodIn_r _ [7, 8, 9, 10, 11, 12, 13, 6, 14, 15, 16, 17, 18, 19, 20, 21, 22, 23, 24, 25, 26, 27, 28, 29, 30, 31, 32, 33, 34, 35, 36, 37, 38, 39, 40, 41, 42, 43, 44, 45, 46, 127, 128, 129, 130, 131, 132, 133, 134, 135, 136] (by decide +kernel) (by decide +kernel)
set_option maxRecDepth 20000 in
theorem gX9_survey_X8_mount : GoodIn wsX9_survey (wsV RX9 86 RX8 yX8_mount wsX8_mount) := goodIn_app (goodIn_of _ (by decide +kernel)) ggX9_survey_X8_mount
set_option maxRecDepth 20000 in
theorem ggX9_survey_X1_countAll : GoodIn wsX9_survey wsX1_countAll := goodIn_r _ [51, 52, 53, 54, 55, 56, 57, 58, 50, 59, 60, 61, 62, 63, 64, 65, 66, 67, 68, 69, 70, 71, 44, 45, 6, 46, 10, 72, 73, 74, 75, 42, 39, 76, 77, 78, 79, 41, 9, 37, 40, 80, 81, 82, 18, 83, 20, 43, 84, 85, 86, 87, 88, 89, 90, 91, 92, 93, 94, 95, 96, 97, 98, 99, 100, 101, 102, 103, 16, 17, 19, 104, 105, 106, 107, 108, 109, 110, 111, 15, 112, 113, 114, 115, 137, 138, 139, 140, 127, 128, 129, 130, 131, 132, 133, 134, 135, 141, 142, 143, 144, 145, 136] (by decide +kernel) (by decide +kernel)
set_option maxRecDepth 20000 in
theorem gX9_survey_X1_countAll : GoodIn wsX9_survey (wsV RX9 113 RX1 yX1_countAll wsX1_countAll) := goodIn_app (goodIn_of _ (by decide +kernel)) ggX9_survey_X1_countAll
theorem dX9_survey_0 : decode cX9_survey 0 = .ok (.aload_n 0, 1) := by decide +kernel
theorem dX9_survey_1 : decode cX9_survey 1 = .ok (.getfield 26, 3) := by decide +kernel
theorem dX9_survey_4 : decode cX9_survey 4 = .ok (.invokevirtual 86, 3) := by decide +kernel
theorem dX9_survey_7 : decode cX9_survey 7 = .ok (.istore_n 1, 1) := by decide +kernel
theorem dX9_survey_8 : decode cX9_survey 8 = .ok (.iload_n 1, 1) := by decide +kernel
theorem dX9_survey_9 : decode cX9_survey 9 = .ok (.ifCond .ge 7, 3) := by decide +kernel
theorem dX9_survey_12 : decode cX9_survey 12 = .ok (.iload_n 1, 1) := by decide +kernel
theorem dX9_survey_13 : decode cX9_survey 13 = .ok (.goto 10, 3) := by decide +kernel
theorem dX9_survey_16 : decode cX9_survey 16 = .ok (.aload_n 0, 1) := by decide +kernel
theorem dX9_survey_17 : decode cX9_survey 17 = .ok (.getfield 49, 3) := by decide +kernel
theorem dX9_survey_20 : decode cX9_survey 20 = .ok (.invokevirtual 113, 3) := by decide +kernel
theorem dX9_survey_23 : decode cX9_survey 23 = .ok (.ireturn, 1) := by decide +kernel
set_option maxRecDepth 20000 in
theorem ggX9_boot_X8_mount : GoodIn wsX9_boot wsX8_mount := goodIn_r _ [10, 11, 12, 13, 14, 15, 16, 9, 17, 18, 19, 20, 21, 22, 23, 24, 25, 26, 27, 28, 29, 30, 31, 32, 33, 34, 35, 36, 37, 38, 39, 40, 41, 42, 43, 44, 45, 46, 47, 48, 49, 272, 273, 274, 275, 276, 277, 278, 279, 280, 281] (by decide +kernel) (by decide +kernel)
set_option maxRecDepth 20000 in
theorem gX9_boot_X8_mount : GoodIn wsX9_boot (wsV RX9 86 RX8 yX8_mount wsX8_mount) := goodIn_app (goodIn_of _ (by decide +kernel)) ggX9_boot_X8_mount
set_option maxRecDepth 20000 in
theorem ggX9_boot_X9_takeSettings : GoodIn wsX9_boot wsX9_takeSettings := goodIn_r _ [54, 55, 56, 57, 2, 58, 59, 60, 61, 62, 63, 64, 65, 66, 67, 68, 69, 70, 71, 72, 73, 74, 75, 76, 77, 78, 79, 80, 81, 82, 83, 84, 85, 86, 87, 88, 89, 9, 90, 12, 18, 19, 20, 21, 22, 23, 91, 92, 93, 94, 95, 96, 97, 98, 99, 100, 101, 102, 103, 104, 105, 47, 48, 49, 13, 106, 107, 108, 109, 45, 42, 110, 111, 112, 113, 44, 40, 43, 114, 115, 116, 117, 46, 118, 119, 120, 121, 122, 123, 124, 125, 126, 127, 128, 129, 130, 131, 132, 133, 134, 135, 136, 137, 138, 139, 140, 141, 142, 143, 144, 145, 146, 147, 148, 149, 150, 151, 152, 153, 154, 155, 156, 157, 158, 159, 160, 161, 162, 163, 164, 165, 166, 167, 168, 169, 170, 171, 172, 173, 174, 175, 176, 177, 178, 179, 180, 181, 182, 183, 184, 185, 186, 187, 254, 255, 256, 257, 258, 259, 260, 261, 262, 263, 264, 282, 283, 284, 285, 286, 287, 272, 273, 274, 275, 276, 277, 278, 279, 280, 281, 288, 289, 290, 291, 292, 265, 266, 267, 268, 269, 270, 271] (by decide +kernel) (by decide +kernel)
set_option maxRecDepth 20000 in
theorem gX9_boot_X9_takeSettings : GoodIn wsX9_boot (wsV RX9 116 RX9 yX9_takeSettings wsX9_takeSettings) := goodIn_app (goodIn_of _ (by decide +kernel)) ggX9_boot_X9_takeSettings
set_option maxRecDepth 20000 in
theorem ggX9_boot_X9_load : GoodIn wsX9_boot wsX9_load := goodIn_r _ [191, 55, 2, 192, 193, 194, 57, 195, 58, 196, 197, 198, 59, 60, 61, 62, 63, 64, 65, 66, 67, 68, 69, 70, 71, 72, 73, 74, 75, 76, 77, 78, 79, 80, 81, 82, 83, 84, 85, 86, 87, 88, 89, 9, 90, 12, 18, 19, 20, 21, 22, 23, 91, 92, 93, 94, 95, 96, 97, 98, 99, 100, 101, 102, 103, 104, 105, 47, 48, 49, 13, 106, 107, 108, 109, 45, 42, 110, 111, 112, 113, 44, 40, 43, 114, 115, 116, 117, 46, 118, 119, 120, 121, 122, 123, 124, 125, 126, 127, 128, 129, 130, 131, 132, 133, 134, 135, 136, 137, 138, 139, 140, 141, 142, 143, 144, 145, 146, 147, 148, 149, 150, 151, 152, 153, 154, 155, 156, 157, 199, 200, 201, 202, 203, 204, 205, 206, 207, 208, 209, 210, 211, 212, 213, 214, 215, 216, 177, 178, 179, 217, 218, 219, 220, 221, 222, 223, 224, 225, 226, 227, 228, 229, 230, 53, 231, 232, 233, 234, 235, 236, 237, 238, 239, 240, 241, 242, 243, 1, 244, 245, 246, 247, 248, 249, 250, 251, 252, 253, 254, 255, 256, 257, 258, 259, 260, 261, 262, 263, 264, 265, 266, 267, 268, 269, 270, 271, 282, 283, 284, 285, 293, 294, 295, 286, 287, 272, 273, 274, 275, 276, 277, 278, 279, 280, 281, 288, 289, 290, 291, 292] (by decide +kernel) (by decide +kernel)
set_option maxRecDepth 20000 in
theorem gX9_boot_X9_load : GoodIn wsX9_boot (wsV RX9 123 RX9 yX9_load wsX9_load) := goodIn_app (goodIn_of _ (by decide +kernel)) ggX9_boot_X9_load
theorem dX9_boot_0 : decode cX9_boot 0 = .ok (.aload_n 0, 1) := by decide +kernel
theorem dX9_boot_1 : decode cX9_boot 1 = .ok (.getfield 26, 3) := by decide +kernel
theorem dX9_boot_4 : decode cX9_boot 4 = .ok (.invokevirtual 86, 3) := by decide +kernel
theorem dX9_boot_7 : decode cX9_boot 7 = .ok (.istore_n 1, 1) := by decide +kernel
theorem dX9_boot_8 : decode cX9_boot 8 = .ok (.iload_n 1, 1) := by decide +kernel
theorem dX9_boot_9 : decode cX9_boot 9 = .ok (.ifCond .ge 5, 3) := by decide +kernel
theorem dX9_boot_12 : decode cX9_boot 12 = .ok (.iload_n 1, 1) := by decide +kernel
theorem dX9_boot_13 : decode cX9_boot 13 = .ok (.ireturn, 1) := by decide +kernel
theorem dX9_boot_14 : decode cX9_boot 14 = .ok (.aload_n 0, 1) := by decide +kernel
theorem dX9_boot_15 : decode cX9_boot 15 = .ok (.invokevirtual 116, 3) := by decide +kernel
theorem dX9_boot_18 : decode cX9_boot 18 = .ok (.istore_n 2, 1) := by decide +kernel
theorem dX9_boot_19 : decode cX9_boot 19 = .ok (.iload_n 2, 1) := by decide +kernel
theorem dX9_boot_20 : decode cX9_boot 20 = .ok (.ifCond .ge 5, 3) := by decide +kernel
theorem dX9_boot_23 : decode cX9_boot 23 = .ok (.iload_n 2, 1) := by decide +kernel
theorem dX9_boot_24 : decode cX9_boot 24 = .ok (.ireturn, 1) := by decide +kernel
theorem dX9_boot_25 : decode cX9_boot 25 = .ok (.aload_n 0, 1) := by decide +kernel
theorem dX9_boot_26 : decode cX9_boot 26 = .ok (.aload_n 0, 1) := by decide +kernel
theorem dX9_boot_27 : decode cX9_boot 27 = .ok (.getfield 56, 3) := by decide +kernel
theorem dX9_boot_30 : decode cX9_boot 30 = .ok (.getfield 119, 3) := by decide +kernel
theorem dX9_boot_33 : decode cX9_boot 33 = .ok (.invokevirtual 123, 3) := by decide +kernel
theorem dX9_boot_36 : decode cX9_boot 36 = .ok (.istore_n 3, 1) := by decide +kernel
theorem dX9_boot_37 : decode cX9_boot 37 = .ok (.iload_n 3, 1) := by decide +kernel
theorem dX9_boot_38 : decode cX9_boot 38 = .ok (.ifCond .eq 16, 3) := by decide +kernel
theorem dX9_boot_41 : decode cX9_boot 41 = .ok (.aload_n 0, 1) := by decide +kernel
theorem dX9_boot_42 : decode cX9_boot 42 = .ok (.getfield 56, 3) := by decide +kernel
theorem dX9_boot_45 : decode cX9_boot 45 = .ok (.getfield 127, 3) := by decide +kernel
theorem dX9_boot_48 : decode cX9_boot 48 = .ok (.getfield 130, 3) := by decide +kernel
theorem dX9_boot_51 : decode cX9_boot 51 = .ok (.ifCond .ne 5, 3) := by decide +kernel
theorem dX9_boot_54 : decode cX9_boot 54 = .ok (.iload_n 3, 1) := by decide +kernel
theorem dX9_boot_55 : decode cX9_boot 55 = .ok (.ireturn, 1) := by decide +kernel
theorem dX9_boot_56 : decode cX9_boot 56 = .ok (.aload_n 0, 1) := by decide +kernel
theorem dX9_boot_57 : decode cX9_boot 57 = .ok (.aload_n 0, 1) := by decide +kernel
theorem dX9_boot_58 : decode cX9_boot 58 = .ok (.getfield 56, 3) := by decide +kernel
theorem dX9_boot_61 : decode cX9_boot 61 = .ok (.getfield 127, 3) := by decide +kernel
theorem dX9_boot_64 : decode cX9_boot 64 = .ok (.invokevirtual 123, 3) := by decide +kernel
theorem dX9_boot_67 : decode cX9_boot 67 = .ok (.istore_n 3, 1) := by decide +kernel
theorem dX9_boot_68 : decode cX9_boot 68 = .ok (.iload_n 3, 1) := by decide +kernel
theorem dX9_boot_69 : decode cX9_boot 69 = .ok (.ifCond .ne 7, 3) := by decide +kernel
theorem dX9_boot_72 : decode cX9_boot 72 = .ok (.iconst 1, 1) := by decide +kernel
theorem dX9_boot_73 : decode cX9_boot 73 = .ok (.goto 4, 3) := by decide +kernel
theorem dX9_boot_76 : decode cX9_boot 76 = .ok (.iload_n 3, 1) := by decide +kernel
theorem dX9_boot_77 : decode cX9_boot 77 = .ok (.ireturn, 1) := by decide +kernel
set_option maxRecDepth 20000 in
theorem ggX9_memory_X0_byteAt : GoodIn wsX9_memory wsX0_byteAt := goodIn_r _ [6, 7, 19] (by decide +kernel) (by decide +kernel)
set_option maxRecDepth 20000 in
theorem gX9_memory_X0_byteAt : GoodIn wsX9_memory (wsV RX9 82 RX0 yX0_byteAt wsX0_byteAt) := goodIn_app (goodIn_of _ (by decide +kernel)) ggX9_memory_X0_byteAt
theorem dX9_memory_0 : decode cX9_memory 0 = .ok (.aload_n 0, 1) := by decide +kernel
theorem dX9_memory_1 : decode cX9_memory 1 = .ok (.getfield 18, 3) := by decide +kernel
theorem dX9_memory_4 : decode cX9_memory 4 = .ok (.iload_n 1, 1) := by decide +kernel
theorem dX9_memory_5 : decode cX9_memory 5 = .ok (.invokevirtual 82, 3) := by decide +kernel
theorem dX9_memory_8 : decode cX9_memory 8 = .ok (.ireturn, 1) := by decide +kernel
theorem dX9_entry_0 : decode cX9_entry 0 = .ok (.aload_n 0, 1) := by decide +kernel
theorem dX9_entry_1 : decode cX9_entry 1 = .ok (.getfield 75, 3) := by decide +kernel
theorem dX9_entry_4 : decode cX9_entry 4 = .ok (.ireturn, 1) := by decide +kernel
set_option maxRecDepth 20000 in
theorem ggX9_findTypedFile_X8_mount : GoodIn wsX9_findTypedFile wsX8_mount := goodIn_r _ [10, 11, 12, 13, 14, 15, 16, 9, 17, 18, 19, 20, 21, 22, 23, 24, 25, 26, 27, 28, 29, 30, 31, 32, 33, 34, 35, 36, 37, 38, 39, 40, 41, 42, 43, 44, 45, 46, 47, 48, 49, 150, 151, 152, 153, 154, 155, 156, 157, 158, 159] (by decide +kernel) (by decide +kernel)
set_option maxRecDepth 20000 in
theorem gX9_findTypedFile_X8_mount : GoodIn wsX9_findTypedFile (wsV RX9 86 RX8 yX8_mount wsX8_mount) := goodIn_app (goodIn_of _ (by decide +kernel)) ggX9_findTypedFile_X8_mount
set_option maxRecDepth 20000 in
theorem ggX9_findTypedFile_X5_parse : GoodIn wsX9_findTypedFile wsX5_parse := goodIn_r _ [54, 55, 56, 57, 58, 59, 60, 61, 62, 63, 53, 64, 160, 161] (by decide +kernel) (by decide +kernel)
set_option maxRecDepth 20000 in
theorem gX9_findTypedFile_X5_parse : GoodIn wsX9_findTypedFile (wsV RX9 136 RX5 yX5_parse wsX5_parse) := goodIn_app (goodIn_of _ (by decide +kernel)) ggX9_findTypedFile_X5_parse
set_option maxRecDepth 20000 in
theorem ggX9_findTypedFile_X3_findFile : GoodIn wsX9_findTypedFile wsX3_findFile := goodIn_r _ [69, 70, 71, 72, 73, 68, 74, 75, 76, 77, 78, 79, 80, 9, 81, 12, 18, 19, 20, 21, 22, 23, 82, 83, 84, 85, 86, 87, 88, 89, 90, 91, 92, 93, 94, 95, 96, 47, 48, 49, 13, 97, 98, 99, 100, 45, 42, 101, 102, 103, 104, 44, 40, 43, 105, 106, 107, 108, 46, 109, 110, 111, 112, 113, 114, 115, 116, 117, 118, 119, 120, 121, 122, 123, 124, 125, 126, 127, 128, 129, 130, 131, 132, 133, 134, 135, 136, 53, 137, 55, 138, 162, 163, 164, 165, 150, 151, 152, 153, 154, 155, 156, 157, 158, 160, 161, 159, 166, 167, 168, 169, 170] (by decide +kernel) (by decide +kernel)
set_option maxRecDepth 20000 in
theorem gX9_findTypedFile_X3_findFile : GoodIn wsX9_findTypedFile (wsV RX9 140 RX3 yX3_findFile wsX3_findFile) := goodIn_app (goodIn_of _ (by decide +kernel)) ggX9_findTypedFile_X3_findFile
theorem dX9_findTypedFile_0 : decode cX9_findTypedFile 0 = .ok (.aload_n 0, 1) := by decide +kernel
theorem dX9_findTypedFile_1 : decode cX9_findTypedFile 1 = .ok (.getfield 26, 3) := by decide +kernel
theorem dX9_findTypedFile_4 : decode cX9_findTypedFile 4 = .ok (.invokevirtual 86, 3) := by decide +kernel
theorem dX9_findTypedFile_7 : decode cX9_findTypedFile 7 = .ok (.istore_n 1, 1) := by decide +kernel
theorem dX9_findTypedFile_8 : decode cX9_findTypedFile 8 = .ok (.iload_n 1, 1) := by decide +kernel
theorem dX9_findTypedFile_9 : decode cX9_findTypedFile 9 = .ok (.ifCond .ge 5, 3) := by decide +kernel
theorem dX9_findTypedFile_12 : decode cX9_findTypedFile 12 = .ok (.iload_n 1, 1) := by decide +kernel
theorem dX9_findTypedFile_13 : decode cX9_findTypedFile 13 = .ok (.ireturn, 1) := by decide +kernel
theorem dX9_findTypedFile_14 : decode cX9_findTypedFile 14 = .ok (.aload_n 0, 1) := by decide +kernel
theorem dX9_findTypedFile_15 : decode cX9_findTypedFile 15 = .ok (.getfield 33, 3) := by decide +kernel
theorem dX9_findTypedFile_18 : decode cX9_findTypedFile 18 = .ok (.aload_n 0, 1) := by decide +kernel
theorem dX9_findTypedFile_19 : decode cX9_findTypedFile 19 = .ok (.getfield 67, 3) := by decide +kernel
theorem dX9_findTypedFile_22 : decode cX9_findTypedFile 22 = .ok (.iconst 0, 1) := by decide +kernel
theorem dX9_findTypedFile_23 : decode cX9_findTypedFile 23 = .ok (.aload_n 0, 1) := by decide +kernel
theorem dX9_findTypedFile_24 : decode cX9_findTypedFile 24 = .ok (.getfield 71, 3) := by decide +kernel
theorem dX9_findTypedFile_27 : decode cX9_findTypedFile 27 = .ok (.invokevirtual 136, 3) := by decide +kernel
theorem dX9_findTypedFile_30 : decode cX9_findTypedFile 30 = .ok (.ifCond .eq 17, 3) := by decide +kernel
theorem dX9_findTypedFile_33 : decode cX9_findTypedFile 33 = .ok (.aload_n 0, 1) := by decide +kernel
theorem dX9_findTypedFile_34 : decode cX9_findTypedFile 34 = .ok (.getfield 42, 3) := by decide +kernel
theorem dX9_findTypedFile_37 : decode cX9_findTypedFile 37 = .ok (.aload_n 0, 1) := by decide +kernel
theorem dX9_findTypedFile_38 : decode cX9_findTypedFile 38 = .ok (.getfield 33, 3) := by decide +kernel
theorem dX9_findTypedFile_41 : decode cX9_findTypedFile 41 = .ok (.invokevirtual 140, 3) := by decide +kernel
theorem dX9_findTypedFile_44 : decode cX9_findTypedFile 44 = .ok (.goto 5, 3) := by decide +kernel
theorem dX9_findTypedFile_47 : decode cX9_findTypedFile 47 = .ok (.bipush (-5), 2) := by decide +kernel
theorem dX9_findTypedFile_49 : decode cX9_findTypedFile 49 = .ok (.ireturn, 1) := by decide +kernel
set_option maxRecDepth 20000 in
theorem ggX9_findTypedDirectory_X5_parse : GoodIn wsX9_findTypedDirectory wsX5_parse := goodIn_r _ [11, 12, 13, 14, 15, 16, 17, 18, 19, 20, 10, 21, 132, 133] (by decide +kernel) (by decide +kernel)
set_option maxRecDepth 20000 in
theorem gX9_findTypedDirectory_X5_parse : GoodIn wsX9_findTypedDirectory (wsV RX9 136 RX5 yX5_parse wsX5_parse) := goodIn_app (goodIn_of _ (by decide +kernel)) ggX9_findTypedDirectory_X5_parse
set_option maxRecDepth 20000 in
theorem ggX9_findTypedDirectory_X3_find : GoodIn wsX9_findTypedDirectory wsX3_find := goodIn_r _ [26, 27, 28, 29, 30, 31, 32, 33, 34, 35, 36, 37, 38, 39, 40, 41, 42, 43, 44, 45, 46, 47, 48, 49, 50, 51, 52, 53, 54, 55, 56, 57, 58, 59, 60, 61, 62, 63, 64, 65, 66, 67, 68, 69, 70, 71, 72, 73, 74, 75, 76, 77, 78, 79, 80, 81, 82, 83, 84, 85, 86, 87, 25, 88, 89, 90, 91, 92, 93, 94, 95, 96, 97, 98, 99, 100, 101, 102, 103, 104, 105, 106, 107, 10, 108, 12, 109, 134, 135, 136, 137, 123, 124, 125, 126, 127, 128, 129, 130, 131, 132, 133, 138, 139, 140, 141, 142, 143] (by decide +kernel) (by decide +kernel)
set_option maxRecDepth 20000 in
theorem gX9_findTypedDirectory_X3_find : GoodIn wsX9_findTypedDirectory (wsV RX9 147 RX3 yX3_find wsX3_find) := goodIn_app (goodIn_of _ (by decide +kernel)) ggX9_findTypedDirectory_X3_find
set_option maxRecDepth 20000 in
theorem ggX9_findTypedDirectory_X8_isDirectory : GoodIn wsX9_findTypedDirectory wsX8_isDirectory := goodIn_r _ [35, 36, 37, 38, 39, 40, 41, 42, 123, 124, 125, 126, 127, 128, 129, 130, 131, 138] (by decide +kernel) (by decide +kernel)
set_option maxRecDepth 20000 in
theorem gX9_findTypedDirectory_X8_isDirectory : GoodIn wsX9_findTypedDirectory (wsV RX9 150 RX8 yX8_isDirectory wsX8_isDirectory) := goodIn_app (goodIn_of _ (by decide +kernel)) ggX9_findTypedDirectory_X8_isDirectory
set_option maxRecDepth 20000 in
theorem ggX9_findTypedDirectory_X8_firstClusterOf : GoodIn wsX9_findTypedDirectory wsX8_firstClusterOf := goodIn_r _ [46, 36, 37, 38, 39, 40, 41, 42, 123, 124, 125, 126, 127, 128, 129, 130, 131, 138] (by decide +kernel) (by decide +kernel)
set_option maxRecDepth 20000 in
theorem gX9_findTypedDirectory_X8_firstClusterOf : GoodIn wsX9_findTypedDirectory (wsV RX9 154 RX8 yX8_firstClusterOf wsX8_firstClusterOf) := goodIn_app (goodIn_of _ (by decide +kernel)) ggX9_findTypedDirectory_X8_firstClusterOf
theorem dX9_findTypedDirectory_0 : decode cX9_findTypedDirectory 0 = .ok (.aload_n 0, 1) := by decide +kernel
theorem dX9_findTypedDirectory_1 : decode cX9_findTypedDirectory 1 = .ok (.getfield 71, 3) := by decide +kernel
theorem dX9_findTypedDirectory_4 : decode cX9_findTypedDirectory 4 = .ok (.ifCond .ne 11, 3) := by decide +kernel
theorem dX9_findTypedDirectory_7 : decode cX9_findTypedDirectory 7 = .ok (.aload_n 0, 1) := by decide +kernel
theorem dX9_findTypedDirectory_8 : decode cX9_findTypedDirectory 8 = .ok (.getfield 26, 3) := by decide +kernel
theorem dX9_findTypedDirectory_11 : decode cX9_findTypedDirectory 11 = .ok (.getfield 144, 3) := by decide +kernel
theorem dX9_findTypedDirectory_14 : decode cX9_findTypedDirectory 14 = .ok (.ireturn, 1) := by decide +kernel
theorem dX9_findTypedDirectory_15 : decode cX9_findTypedDirectory 15 = .ok (.aload_n 0, 1) := by decide +kernel
theorem dX9_findTypedDirectory_16 : decode cX9_findTypedDirectory 16 = .ok (.getfield 33, 3) := by decide +kernel
theorem dX9_findTypedDirectory_19 : decode cX9_findTypedDirectory 19 = .ok (.aload_n 0, 1) := by decide +kernel
theorem dX9_findTypedDirectory_20 : decode cX9_findTypedDirectory 20 = .ok (.getfield 67, 3) := by decide +kernel
theorem dX9_findTypedDirectory_23 : decode cX9_findTypedDirectory 23 = .ok (.iconst 0, 1) := by decide +kernel
theorem dX9_findTypedDirectory_24 : decode cX9_findTypedDirectory 24 = .ok (.aload_n 0, 1) := by decide +kernel
theorem dX9_findTypedDirectory_25 : decode cX9_findTypedDirectory 25 = .ok (.getfield 71, 3) := by decide +kernel
theorem dX9_findTypedDirectory_28 : decode cX9_findTypedDirectory 28 = .ok (.invokevirtual 136, 3) := by decide +kernel
theorem dX9_findTypedDirectory_31 : decode cX9_findTypedDirectory 31 = .ok (.ifCond .ne 6, 3) := by decide +kernel
theorem dX9_findTypedDirectory_34 : decode cX9_findTypedDirectory 34 = .ok (.bipush (-5), 2) := by decide +kernel
theorem dX9_findTypedDirectory_36 : decode cX9_findTypedDirectory 36 = .ok (.ireturn, 1) := by decide +kernel
theorem dX9_findTypedDirectory_37 : decode cX9_findTypedDirectory 37 = .ok (.aload_n 0, 1) := by decide +kernel
theorem dX9_findTypedDirectory_38 : decode cX9_findTypedDirectory 38 = .ok (.getfield 42, 3) := by decide +kernel
theorem dX9_findTypedDirectory_41 : decode cX9_findTypedDirectory 41 = .ok (.aload_n 0, 1) := by decide +kernel
theorem dX9_findTypedDirectory_42 : decode cX9_findTypedDirectory 42 = .ok (.getfield 33, 3) := by decide +kernel
theorem dX9_findTypedDirectory_45 : decode cX9_findTypedDirectory 45 = .ok (.invokevirtual 147, 3) := by decide +kernel
theorem dX9_findTypedDirectory_48 : decode cX9_findTypedDirectory 48 = .ok (.istore_n 1, 1) := by decide +kernel
theorem dX9_findTypedDirectory_49 : decode cX9_findTypedDirectory 49 = .ok (.iload_n 1, 1) := by decide +kernel
theorem dX9_findTypedDirectory_50 : decode cX9_findTypedDirectory 50 = .ok (.ifCond .ge 5, 3) := by decide +kernel
theorem dX9_findTypedDirectory_53 : decode cX9_findTypedDirectory 53 = .ok (.iload_n 1, 1) := by decide +kernel
theorem dX9_findTypedDirectory_54 : decode cX9_findTypedDirectory 54 = .ok (.ireturn, 1) := by decide +kernel
theorem dX9_findTypedDirectory_55 : decode cX9_findTypedDirectory 55 = .ok (.aload_n 0, 1) := by decide +kernel
theorem dX9_findTypedDirectory_56 : decode cX9_findTypedDirectory 56 = .ok (.getfield 26, 3) := by decide +kernel
theorem dX9_findTypedDirectory_59 : decode cX9_findTypedDirectory 59 = .ok (.iload_n 1, 1) := by decide +kernel
theorem dX9_findTypedDirectory_60 : decode cX9_findTypedDirectory 60 = .ok (.invokevirtual 150, 3) := by decide +kernel
theorem dX9_findTypedDirectory_63 : decode cX9_findTypedDirectory 63 = .ok (.ifCond .eq 14, 3) := by decide +kernel
theorem dX9_findTypedDirectory_66 : decode cX9_findTypedDirectory 66 = .ok (.aload_n 0, 1) := by decide +kernel
theorem dX9_findTypedDirectory_67 : decode cX9_findTypedDirectory 67 = .ok (.getfield 26, 3) := by decide +kernel
theorem dX9_findTypedDirectory_70 : decode cX9_findTypedDirectory 70 = .ok (.iload_n 1, 1) := by decide +kernel
theorem dX9_findTypedDirectory_71 : decode cX9_findTypedDirectory 71 = .ok (.invokevirtual 154, 3) := by decide +kernel
theorem dX9_findTypedDirectory_74 : decode cX9_findTypedDirectory 74 = .ok (.goto 5, 3) := by decide +kernel
theorem dX9_findTypedDirectory_77 : decode cX9_findTypedDirectory 77 = .ok (.bipush (-8), 2) := by decide +kernel
theorem dX9_findTypedDirectory_79 : decode cX9_findTypedDirectory 79 = .ok (.ireturn, 1) := by decide +kernel
set_option maxRecDepth 20000 in
theorem ggX9_takeSettings_X5_parse : GoodIn wsX9_takeSettings wsX5_parse := goodIn_r _ [10, 11, 12, 13, 14, 15, 16, 17, 18, 19, 9, 20, 168, 169] (by decide +kernel) (by decide +kernel)
set_option maxRecDepth 20000 in
theorem gX9_takeSettings_X5_parse : GoodIn wsX9_takeSettings (wsV RX9 136 RX5 yX5_parse wsX5_parse) := goodIn_app (goodIn_of _ (by decide +kernel)) ggX9_takeSettings_X5_parse
set_option maxRecDepth 20000 in
theorem ggX9_takeSettings_X3_findFile : GoodIn wsX9_takeSettings wsX3_findFile := goodIn_r _ [25, 26, 27, 28, 29, 24, 30, 31, 32, 33, 34, 35, 36, 37, 38, 39, 40, 41, 42, 43, 44, 45, 46, 47, 48, 49, 50, 51, 52, 53, 54, 55, 56, 57, 58, 59, 60, 61, 62, 63, 64, 65, 66, 67, 68, 69, 70, 71, 72, 73, 74, 75, 76, 77, 78, 79, 80, 81, 82, 83, 84, 85, 86, 87, 88, 89, 90, 91, 92, 93, 94, 95, 96, 97, 98, 99, 100, 101, 102, 103, 104, 105, 106, 107, 108, 109, 110, 9, 111, 11, 112, 164, 165, 166, 167, 170, 171, 172, 173, 174, 175, 176, 177, 178, 168, 169, 179, 180, 181, 182, 183, 184] (by decide +kernel) (by decide +kernel)
set_option maxRecDepth 20000 in
theorem gX9_takeSettings_X3_findFile : GoodIn wsX9_takeSettings (wsV RX9 140 RX3 yX3_findFile wsX3_findFile) := goodIn_app (goodIn_of _ (by decide +kernel)) ggX9_takeSettings_X3_findFile
set_option maxRecDepth 20000 in
theorem ggX9_takeSettings_X3_open : GoodIn wsX9_takeSettings wsX3_open := goodIn_r _ [116, 26, 117, 118, 119, 120, 37, 121, 39, 78, 79, 80, 43, 81, 45, 46, 47, 48, 49, 40, 41, 42, 44, 50, 51, 52, 53, 54, 55, 56, 57, 58, 59, 60, 61, 62, 63, 64, 65, 66, 67, 68, 69, 70, 71, 72, 73, 74, 75, 76, 77, 82, 83, 84, 85, 86, 87, 122, 99, 100, 101, 102, 164, 165, 166, 167, 170, 171, 172, 173, 174, 175, 176, 177, 178, 179, 180, 181, 182, 183, 184] (by decide +kernel) (by decide +kernel)
set_option maxRecDepth 20000 in
theorem gX9_takeSettings_X3_open : GoodIn wsX9_takeSettings (wsV RX9 96 RX3 yX3_open wsX3_open) := goodIn_app (goodIn_of _ (by decide +kernel)) ggX9_takeSettings_X3_open
set_option maxRecDepth 20000 in
theorem ggX9_takeSettings_X6_take : GoodIn wsX9_takeSettings wsX6_take := goodIn_r _ [127, 128, 129, 130, 131, 132, 133, 134, 135, 136, 137, 138, 139, 140, 141, 142, 143, 53, 144, 97, 103, 104, 105, 106, 57, 102, 55, 59, 107, 41, 42, 43, 44, 45, 145, 146, 147, 126, 148, 149, 150, 151, 152, 185, 186, 187, 188, 189, 190, 191, 180, 181, 182, 183, 184, 170, 171, 172, 173, 174, 175, 176, 177, 178, 179] (by decide +kernel) (by decide +kernel)
set_option maxRecDepth 20000 in
theorem gX9_takeSettings_X6_take : GoodIn wsX9_takeSettings (wsV RX9 160 RX6 yX6_take wsX6_take) := goodIn_app (goodIn_of _ (by decide +kernel)) ggX9_takeSettings_X6_take
theorem dX9_takeSettings_0 : decode cX9_takeSettings 0 = .ok (.aload_n 0, 1) := by decide +kernel
theorem dX9_takeSettings_1 : decode cX9_takeSettings 1 = .ok (.getfield 33, 3) := by decide +kernel
theorem dX9_takeSettings_4 : decode cX9_takeSettings 4 = .ok (.getstatic 157, 3) := by decide +kernel
theorem dX9_takeSettings_7 : decode cX9_takeSettings 7 = .ok (.iconst 0, 1) := by decide +kernel
theorem dX9_takeSettings_8 : decode cX9_takeSettings 8 = .ok (.getstatic 157, 3) := by decide +kernel
theorem dX9_takeSettings_11 : decode cX9_takeSettings 11 = .ok (.arraylength, 1) := by decide +kernel
theorem dX9_takeSettings_12 : decode cX9_takeSettings 12 = .ok (.invokevirtual 136, 3) := by decide +kernel
theorem dX9_takeSettings_15 : decode cX9_takeSettings 15 = .ok (.pop, 1) := by decide +kernel
theorem dX9_takeSettings_16 : decode cX9_takeSettings 16 = .ok (.aload_n 0, 1) := by decide +kernel
theorem dX9_takeSettings_17 : decode cX9_takeSettings 17 = .ok (.getfield 42, 3) := by decide +kernel
theorem dX9_takeSettings_20 : decode cX9_takeSettings 20 = .ok (.aload_n 0, 1) := by decide +kernel
theorem dX9_takeSettings_21 : decode cX9_takeSettings 21 = .ok (.getfield 33, 3) := by decide +kernel
theorem dX9_takeSettings_24 : decode cX9_takeSettings 24 = .ok (.invokevirtual 140, 3) := by decide +kernel
theorem dX9_takeSettings_27 : decode cX9_takeSettings 27 = .ok (.istore_n 1, 1) := by decide +kernel
theorem dX9_takeSettings_28 : decode cX9_takeSettings 28 = .ok (.iload_n 1, 1) := by decide +kernel
theorem dX9_takeSettings_29 : decode cX9_takeSettings 29 = .ok (.ifCond .ge 5, 3) := by decide +kernel
theorem dX9_takeSettings_32 : decode cX9_takeSettings 32 = .ok (.iload_n 1, 1) := by decide +kernel
theorem dX9_takeSettings_33 : decode cX9_takeSettings 33 = .ok (.ireturn, 1) := by decide +kernel
theorem dX9_takeSettings_34 : decode cX9_takeSettings 34 = .ok (.aload_n 0, 1) := by decide +kernel
theorem dX9_takeSettings_35 : decode cX9_takeSettings 35 = .ok (.getfield 42, 3) := by decide +kernel
theorem dX9_takeSettings_38 : decode cX9_takeSettings 38 = .ok (.iload_n 1, 1) := by decide +kernel
theorem dX9_takeSettings_39 : decode cX9_takeSettings 39 = .ok (.invokevirtual 96, 3) := by decide +kernel
theorem dX9_takeSettings_42 : decode cX9_takeSettings 42 = .ok (.istore_n 2, 1) := by decide +kernel
theorem dX9_takeSettings_43 : decode cX9_takeSettings 43 = .ok (.iload_n 2, 1) := by decide +kernel
theorem dX9_takeSettings_44 : decode cX9_takeSettings 44 = .ok (.ifCond .ge 5, 3) := by decide +kernel
theorem dX9_takeSettings_47 : decode cX9_takeSettings 47 = .ok (.iload_n 2, 1) := by decide +kernel
theorem dX9_takeSettings_48 : decode cX9_takeSettings 48 = .ok (.ireturn, 1) := by decide +kernel
theorem dX9_takeSettings_49 : decode cX9_takeSettings 49 = .ok (.aload_n 0, 1) := by decide +kernel
theorem dX9_takeSettings_50 : decode cX9_takeSettings 50 = .ok (.getfield 56, 3) := by decide +kernel
theorem dX9_takeSettings_53 : decode cX9_takeSettings 53 = .ok (.aload_n 0, 1) := by decide +kernel
theorem dX9_takeSettings_54 : decode cX9_takeSettings 54 = .ok (.getfield 42, 3) := by decide +kernel
theorem dX9_takeSettings_57 : decode cX9_takeSettings 57 = .ok (.getfield 99, 3) := by decide +kernel
theorem dX9_takeSettings_60 : decode cX9_takeSettings 60 = .ok (.iload_n 2, 1) := by decide +kernel
theorem dX9_takeSettings_61 : decode cX9_takeSettings 61 = .ok (.invokevirtual 160, 3) := by decide +kernel
theorem dX9_takeSettings_64 : decode cX9_takeSettings 64 = .ok (.ifCond .eq 7, 3) := by decide +kernel
theorem dX9_takeSettings_67 : decode cX9_takeSettings 67 = .ok (.iconst 0, 1) := by decide +kernel
theorem dX9_takeSettings_68 : decode cX9_takeSettings 68 = .ok (.goto 5, 3) := by decide +kernel
theorem dX9_takeSettings_71 : decode cX9_takeSettings 71 = .ok (.bipush (-10), 2) := by decide +kernel
theorem dX9_takeSettings_73 : decode cX9_takeSettings 73 = .ok (.ireturn, 1) := by decide +kernel
set_option maxRecDepth 20000 in
theorem ggX9_load_X5_parse : GoodIn wsX9_load wsX5_parse := goodIn_r _ [16, 17, 18, 19, 20, 21, 22, 23, 24, 25, 15, 26, 214, 215] (by decide +kernel) (by decide +kernel)
set_option maxRecDepth 20000 in
theorem gX9_load_X5_parse : GoodIn wsX9_load (wsV RX9 136 RX5 yX5_parse wsX5_parse) := goodIn_app (goodIn_of _ (by decide +kernel)) ggX9_load_X5_parse
set_option maxRecDepth 20000 in
theorem ggX9_load_X3_findFile : GoodIn wsX9_load wsX3_findFile := goodIn_r _ [31, 32, 33, 34, 35, 30, 36, 37, 38, 39, 40, 41, 42, 43, 44, 45, 46, 47, 48, 49, 50, 51, 52, 53, 54, 55, 56, 57, 58, 59, 60, 61, 62, 63, 64, 65, 66, 67, 68, 69, 70, 71, 72, 73, 74, 75, 76, 77, 78, 79, 80, 81, 82, 83, 84, 85, 86, 87, 88, 89, 90, 91, 92, 93, 94, 95, 96, 97, 98, 99, 100, 101, 102, 103, 104, 105, 106, 107, 108, 109, 110, 111, 112, 113, 114, 115, 116, 15, 117, 17, 118, 207, 208, 209, 210, 216, 217, 218, 219, 220, 221, 222, 223, 224, 214, 215, 225, 226, 227, 228, 229, 230] (by decide +kernel) (by decide +kernel)
set_option maxRecDepth 20000 in
theorem gX9_load_X3_findFile : GoodIn wsX9_load (wsV RX9 140 RX3 yX3_findFile wsX3_findFile) := goodIn_app (goodIn_of _ (by decide +kernel)) ggX9_load_X3_findFile
set_option maxRecDepth 20000 in
theorem ggX9_load_X3_open : GoodIn wsX9_load wsX3_open := goodIn_r _ [122, 32, 123, 124, 125, 126, 43, 127, 45, 84, 85, 86, 49, 87, 51, 52, 53, 54, 55, 46, 47, 48, 50, 56, 57, 58, 59, 60, 61, 62, 63, 64, 65, 66, 67, 68, 69, 70, 71, 72, 73, 74, 75, 76, 77, 78, 79, 80, 81, 82, 83, 88, 89, 90, 91, 92, 93, 128, 105, 106, 107, 108, 207, 208, 209, 210, 216, 217, 218, 219, 220, 221, 222, 223, 224, 225, 226, 227, 228, 229, 230] (by decide +kernel) (by decide +kernel)
set_option maxRecDepth 20000 in
theorem gX9_load_X3_open : GoodIn wsX9_load (wsV RX9 96 RX3 yX3_open wsX3_open) := goodIn_app (goodIn_of _ (by decide +kernel)) ggX9_load_X3_open
set_option maxRecDepth 20000 in
theorem ggX9_load_X4_takeHeader : GoodIn wsX9_load wsX4_takeHeader := goodIn_r _ [133, 134, 135, 136, 137, 138, 139, 140, 132, 141, 142, 143, 144, 59, 145, 146, 147, 148, 149, 103, 109, 110, 111, 112, 63, 108, 61, 65, 113, 47, 48, 49, 50, 51, 211, 212, 213, 226, 227, 228, 229, 230, 216, 217, 218, 219, 220, 221, 222, 223, 224, 225] (by decide +kernel) (by decide +kernel)
set_option maxRecDepth 20000 in
theorem gX9_load_X4_takeHeader : GoodIn wsX9_load (wsV RX9 173 RX4 yX4_takeHeader wsX4_takeHeader) := goodIn_app (goodIn_of _ (by decide +kernel)) ggX9_load_X4_takeHeader
set_option maxRecDepth 20000 in
theorem ggX9_load_X4_fits : GoodIn wsX9_load wsX4_fits := goodIn_r _ [153, 135, 136, 211, 212, 213] (by decide +kernel) (by decide +kernel)
set_option maxRecDepth 20000 in
theorem gX9_load_X4_fits : GoodIn wsX9_load (wsV RX9 176 RX4 yX4_fits wsX4_fits) := goodIn_app (goodIn_of _ (by decide +kernel)) ggX9_load_X4_fits
set_option maxRecDepth 20000 in
theorem ggX9_load_X0_clear : GoodIn wsX9_load wsX0_clear := goodIn_r _ [157, 51, 158, 159, 21, 160, 225] (by decide +kernel) (by decide +kernel)
set_option maxRecDepth 20000 in
theorem gX9_load_X0_clear : GoodIn wsX9_load (wsV RX9 179 RX0 yX0_clear wsX0_clear) := goodIn_app (goodIn_of _ (by decide +kernel)) ggX9_load_X0_clear
set_option maxRecDepth 20000 in
theorem ggX9_load_X9_copyKernel : GoodIn wsX9_load wsX9_copyKernel := goodIn_r _ [165, 9, 7, 166, 6, 8, 167, 147, 148, 59, 149, 103, 109, 110, 111, 112, 63, 108, 61, 65, 113, 47, 48, 49, 50, 51, 168, 169, 170, 171, 189, 190, 191, 192, 193, 194, 195, 196, 197, 198, 199, 211, 212, 213, 207, 208, 209, 210, 226, 227, 228, 229, 230, 216, 217, 218, 219, 220, 221, 222, 223, 224, 225] (by decide +kernel) (by decide +kernel)
set_option maxRecDepth 20000 in
theorem gX9_load_X9_copyKernel : GoodIn wsX9_load (wsV RX9 182 RX9 yX9_copyKernel wsX9_copyKernel) := goodIn_app (goodIn_of _ (by decide +kernel)) ggX9_load_X9_copyKernel
set_option maxRecDepth 20000 in
theorem ggX9_load_X9_writeInformation : GoodIn wsX9_load wsX9_writeInformation := goodIn_r _ [175, 7, 2, 176, 5, 4, 166, 9, 177, 178, 179, 180, 181, 182, 183, 132, 184, 134, 168, 169, 170, 49, 171, 51, 189, 190, 191, 192, 193, 194, 195, 196, 197, 198, 199, 200, 201, 202, 203, 204, 205, 206, 211, 212, 213, 216, 217, 218, 219, 220, 221, 222, 223, 224, 225] (by decide +kernel) (by decide +kernel)
set_option maxRecDepth 20000 in
theorem gX9_load_X9_writeInformation : GoodIn wsX9_load (wsV RX9 185 RX9 yX9_writeInformation wsX9_writeInformation) := goodIn_app (goodIn_of _ (by decide +kernel)) ggX9_load_X9_writeInformation
set_option maxRecDepth 20000 in
theorem ggX9_load_X9_copyArguments : GoodIn wsX9_load wsX9_copyArguments := goodIn_r _ [188, 2, 176, 4, 5, 9, 3, 168, 169, 170, 49, 171, 51, 189, 190, 191, 192, 193, 194, 195, 196, 197, 198, 199, 200, 201, 202, 203, 204, 205, 206, 225] (by decide +kernel) (by decide +kernel)
set_option maxRecDepth 20000 in
theorem gX9_load_X9_copyArguments : GoodIn wsX9_load (wsV RX9 188 RX9 yX9_copyArguments wsX9_copyArguments) := goodIn_app (goodIn_of _ (by decide +kernel)) ggX9_load_X9_copyArguments
theorem dX9_load_0 : decode cX9_load 0 = .ok (.aload_n 0, 1) := by decide +kernel
theorem dX9_load_1 : decode cX9_load 1 = .ok (.getfield 33, 3) := by decide +kernel
theorem dX9_load_4 : decode cX9_load 4 = .ok (.aload_n 0, 1) := by decide +kernel
theorem dX9_load_5 : decode cX9_load 5 = .ok (.getfield 56, 3) := by decide +kernel
theorem dX9_load_8 : decode cX9_load 8 = .ok (.getfield 164, 3) := by decide +kernel
theorem dX9_load_11 : decode cX9_load 11 = .ok (.aload_n 1, 1) := by decide +kernel
theorem dX9_load_12 : decode cX9_load 12 = .ok (.getfield 167, 3) := by decide +kernel
theorem dX9_load_15 : decode cX9_load 15 = .ok (.aload_n 1, 1) := by decide +kernel
theorem dX9_load_16 : decode cX9_load 16 = .ok (.getfield 170, 3) := by decide +kernel
theorem dX9_load_19 : decode cX9_load 19 = .ok (.invokevirtual 136, 3) := by decide +kernel
theorem dX9_load_22 : decode cX9_load 22 = .ok (.ifCond .ne 6, 3) := by decide +kernel
theorem dX9_load_25 : decode cX9_load 25 = .ok (.bipush (-5), 2) := by decide +kernel
theorem dX9_load_27 : decode cX9_load 27 = .ok (.ireturn, 1) := by decide +kernel
theorem dX9_load_28 : decode cX9_load 28 = .ok (.aload_n 0, 1) := by decide +kernel
theorem dX9_load_29 : decode cX9_load 29 = .ok (.getfield 42, 3) := by decide +kernel
theorem dX9_load_32 : decode cX9_load 32 = .ok (.aload_n 0, 1) := by decide +kernel
theorem dX9_load_33 : decode cX9_load 33 = .ok (.getfield 33, 3) := by decide +kernel
theorem dX9_load_36 : decode cX9_load 36 = .ok (.invokevirtual 140, 3) := by decide +kernel
theorem dX9_load_39 : decode cX9_load 39 = .ok (.istore_n 2, 1) := by decide +kernel
theorem dX9_load_40 : decode cX9_load 40 = .ok (.iload_n 2, 1) := by decide +kernel
theorem dX9_load_41 : decode cX9_load 41 = .ok (.ifCond .ge 5, 3) := by decide +kernel
theorem dX9_load_44 : decode cX9_load 44 = .ok (.iload_n 2, 1) := by decide +kernel
theorem dX9_load_45 : decode cX9_load 45 = .ok (.ireturn, 1) := by decide +kernel
theorem dX9_load_46 : decode cX9_load 46 = .ok (.aload_n 0, 1) := by decide +kernel
theorem dX9_load_47 : decode cX9_load 47 = .ok (.getfield 42, 3) := by decide +kernel
theorem dX9_load_50 : decode cX9_load 50 = .ok (.iload_n 2, 1) := by decide +kernel
theorem dX9_load_51 : decode cX9_load 51 = .ok (.invokevirtual 96, 3) := by decide +kernel
theorem dX9_load_54 : decode cX9_load 54 = .ok (.istore_n 3, 1) := by decide +kernel
theorem dX9_load_55 : decode cX9_load 55 = .ok (.iload_n 3, 1) := by decide +kernel
theorem dX9_load_56 : decode cX9_load 56 = .ok (.ifCond .ge 5, 3) := by decide +kernel
theorem dX9_load_59 : decode cX9_load 59 = .ok (.iload_n 3, 1) := by decide +kernel
theorem dX9_load_60 : decode cX9_load 60 = .ok (.ireturn, 1) := by decide +kernel
theorem dX9_load_61 : decode cX9_load 61 = .ok (.aload_n 0, 1) := by decide +kernel
theorem dX9_load_62 : decode cX9_load 62 = .ok (.getfield 63, 3) := by decide +kernel
end
section
theorem dX9_load_65 : decode cX9_load 65 = .ok (.aload_n 0, 1) := by decide +kernel
theorem dX9_load_66 : decode cX9_load 66 = .ok (.getfield 42, 3) := by decide +kernel
theorem dX9_load_69 : decode cX9_load 69 = .ok (.getfield 99, 3) := by decide +kernel
theorem dX9_load_72 : decode cX9_load 72 = .ok (.iload_n 3, 1) := by decide +kernel
theorem dX9_load_73 : decode cX9_load 73 = .ok (.invokevirtual 173, 3) := by decide +kernel
theorem dX9_load_76 : decode cX9_load 76 = .ok (.ifCond .ne 6, 3) := by decide +kernel
theorem dX9_load_79 : decode cX9_load 79 = .ok (.bipush (-11), 2) := by decide +kernel
theorem dX9_load_81 : decode cX9_load 81 = .ok (.ireturn, 1) := by decide +kernel
theorem dX9_load_82 : decode cX9_load 82 = .ok (.aload_n 0, 1) := by decide +kernel
theorem dX9_load_83 : decode cX9_load 83 = .ok (.getfield 63, 3) := by decide +kernel
theorem dX9_load_86 : decode cX9_load 86 = .ok (.iload_n 3, 1) := by decide +kernel
theorem dX9_load_87 : decode cX9_load 87 = .ok (.invokevirtual 176, 3) := by decide +kernel
theorem dX9_load_90 : decode cX9_load 90 = .ok (.ifCond .ne 6, 3) := by decide +kernel
theorem dX9_load_93 : decode cX9_load 93 = .ok (.bipush (-12), 2) := by decide +kernel
theorem dX9_load_95 : decode cX9_load 95 = .ok (.ireturn, 1) := by decide +kernel
theorem dX9_load_96 : decode cX9_load 96 = .ok (.aload_n 0, 1) := by decide +kernel
theorem dX9_load_97 : decode cX9_load 97 = .ok (.getfield 18, 3) := by decide +kernel
theorem dX9_load_100 : decode cX9_load 100 = .ok (.invokevirtual 179, 3) := by decide +kernel
theorem dX9_load_103 : decode cX9_load 103 = .ok (.aload_n 0, 1) := by decide +kernel
theorem dX9_load_104 : decode cX9_load 104 = .ok (.iload_n 3, 1) := by decide +kernel
theorem dX9_load_105 : decode cX9_load 105 = .ok (.invokevirtual 182, 3) := by decide +kernel
theorem dX9_load_108 : decode cX9_load 108 = .ok (.aload_n 0, 1) := by decide +kernel
theorem dX9_load_109 : decode cX9_load 109 = .ok (.iload_n 3, 1) := by decide +kernel
theorem dX9_load_110 : decode cX9_load 110 = .ok (.invokevirtual 185, 3) := by decide +kernel
theorem dX9_load_113 : decode cX9_load 113 = .ok (.aload_n 0, 1) := by decide +kernel
theorem dX9_load_114 : decode cX9_load 114 = .ok (.invokevirtual 188, 3) := by decide +kernel
theorem dX9_load_117 : decode cX9_load 117 = .ok (.aload_n 0, 1) := by decide +kernel
theorem dX9_load_118 : decode cX9_load 118 = .ok (.aload_n 0, 1) := by decide +kernel
theorem dX9_load_119 : decode cX9_load 119 = .ok (.getfield 63, 3) := by decide +kernel
theorem dX9_load_122 : decode cX9_load 122 = .ok (.getfield 191, 3) := by decide +kernel
theorem dX9_load_125 : decode cX9_load 125 = .ok (.putfield 75, 3) := by decide +kernel
theorem dX9_load_128 : decode cX9_load 128 = .ok (.iconst 0, 1) := by decide +kernel
theorem dX9_load_129 : decode cX9_load 129 = .ok (.ireturn, 1) := by decide +kernel
set_option maxRecDepth 20000 in
theorem ggX9_copyKernel_X2_byteAt : GoodIn wsX9_copyKernel wsX2_byteAt := goodIn_r _ [10, 11, 12, 13, 14, 9, 15, 16, 17, 18, 19, 20, 21, 22, 23, 24, 25, 48, 49, 50, 51, 52, 53, 54, 55, 56, 57, 58, 59, 60, 61, 62] (by decide +kernel) (by decide +kernel)
set_option maxRecDepth 20000 in
theorem gX9_copyKernel_X2_byteAt : GoodIn wsX9_copyKernel (wsV RX9 103 RX2 yX2_byteAt wsX2_byteAt) := goodIn_app (goodIn_of _ (by decide +kernel)) ggX9_copyKernel_X2_byteAt
set_option maxRecDepth 20000 in
theorem ggX9_copyKernel_X0_put : GoodIn wsX9_copyKernel wsX0_put := goodIn_r _ [29, 25, 62] (by decide +kernel) (by decide +kernel)
set_option maxRecDepth 20000 in
theorem gX9_copyKernel_X0_put : GoodIn wsX9_copyKernel (wsV RX9 78 RX0 yX0_put wsX0_put) := goodIn_app (goodIn_of _ (by decide +kernel)) ggX9_copyKernel_X0_put
theorem dX9_copyKernel_0 : decode cX9_copyKernel 0 = .ok (.iconst 0, 1) := by decide +kernel
theorem dX9_copyKernel_1 : decode cX9_copyKernel 1 = .ok (.istore_n 2, 1) := by decide +kernel
theorem dX9_copyKernel_2 : decode cX9_copyKernel 2 = .ok (.iload_n 2, 1) := by decide +kernel
theorem dX9_copyKernel_3 : decode cX9_copyKernel 3 = .ok (.iload_n 1, 1) := by decide +kernel
theorem dX9_copyKernel_4 : decode cX9_copyKernel 4 = .ok (.if_icmp .ge 39, 3) := by decide +kernel
theorem dX9_copyKernel_7 : decode cX9_copyKernel 7 = .ok (.aload_n 0, 1) := by decide +kernel
theorem dX9_copyKernel_8 : decode cX9_copyKernel 8 = .ok (.getfield 18, 3) := by decide +kernel
theorem dX9_copyKernel_11 : decode cX9_copyKernel 11 = .ok (.aload_n 0, 1) := by decide +kernel
theorem dX9_copyKernel_12 : decode cX9_copyKernel 12 = .ok (.getfield 63, 3) := by decide +kernel
theorem dX9_copyKernel_15 : decode cX9_copyKernel 15 = .ok (.getfield 194, 3) := by decide +kernel
theorem dX9_copyKernel_18 : decode cX9_copyKernel 18 = .ok (.iload_n 2, 1) := by decide +kernel
theorem dX9_copyKernel_19 : decode cX9_copyKernel 19 = .ok (.iadd, 1) := by decide +kernel
theorem dX9_copyKernel_20 : decode cX9_copyKernel 20 = .ok (.aload_n 0, 1) := by decide +kernel
theorem dX9_copyKernel_21 : decode cX9_copyKernel 21 = .ok (.getfield 42, 3) := by decide +kernel
theorem dX9_copyKernel_24 : decode cX9_copyKernel 24 = .ok (.getfield 99, 3) := by decide +kernel
theorem dX9_copyKernel_27 : decode cX9_copyKernel 27 = .ok (.iload_n 2, 1) := by decide +kernel
theorem dX9_copyKernel_28 : decode cX9_copyKernel 28 = .ok (.invokevirtual 103, 3) := by decide +kernel
theorem dX9_copyKernel_31 : decode cX9_copyKernel 31 = .ok (.i2l, 1) := by decide +kernel
theorem dX9_copyKernel_32 : decode cX9_copyKernel 32 = .ok (.iconst 1, 1) := by decide +kernel
theorem dX9_copyKernel_33 : decode cX9_copyKernel 33 = .ok (.invokevirtual 78, 3) := by decide +kernel
theorem dX9_copyKernel_36 : decode cX9_copyKernel 36 = .ok (.pop, 1) := by decide +kernel
theorem dX9_copyKernel_37 : decode cX9_copyKernel 37 = .ok (.iinc 2 1, 3) := by decide +kernel
theorem dX9_copyKernel_40 : decode cX9_copyKernel 40 = .ok (.goto (-38), 3) := by decide +kernel
theorem dX9_copyKernel_43 : decode cX9_copyKernel 43 = .ok (.return_, 1) := by decide +kernel
set_option maxRecDepth 20000 in
theorem ggX9_writeInformation_X4_wantsMemoryBytes : GoodIn wsX9_writeInformation wsX4_wantsMemoryBytes := goodIn_r _ [16, 17, 42, 43, 44] (by decide +kernel) (by decide +kernel)
set_option maxRecDepth 20000 in
theorem gX9_writeInformation_X4_wantsMemoryBytes : GoodIn wsX9_writeInformation (wsV RX9 197 RX4 yX4_wantsMemoryBytes wsX4_wantsMemoryBytes) := goodIn_app (goodIn_of _ (by decide +kernel)) ggX9_writeInformation_X4_wantsMemoryBytes
set_option maxRecDepth 20000 in
theorem ggX9_writeInformation_X0_put : GoodIn wsX9_writeInformation wsX0_put := goodIn_r _ [22, 23, 54] (by decide +kernel) (by decide +kernel)
set_option maxRecDepth 20000 in
theorem gX9_writeInformation_X0_put : GoodIn wsX9_writeInformation (wsV RX9 78 RX0 yX0_put wsX0_put) := goodIn_app (goodIn_of _ (by decide +kernel)) ggX9_writeInformation_X0_put
theorem dX9_writeInformation_0 : decode cX9_writeInformation 0 = .ok (.aload_n 0, 1) := by decide +kernel
theorem dX9_writeInformation_1 : decode cX9_writeInformation 1 = .ok (.getfield 63, 3) := by decide +kernel
theorem dX9_writeInformation_4 : decode cX9_writeInformation 4 = .ok (.invokevirtual 197, 3) := by decide +kernel
theorem dX9_writeInformation_7 : decode cX9_writeInformation 7 = .ok (.ifCond .eq 9, 3) := by decide +kernel
theorem dX9_writeInformation_10 : decode cX9_writeInformation 10 = .ok (.sipush 1024, 3) := by decide +kernel
theorem dX9_writeInformation_13 : decode cX9_writeInformation 13 = .ok (.goto 4, 3) := by decide +kernel
theorem dX9_writeInformation_16 : decode cX9_writeInformation 16 = .ok (.iconst 0, 1) := by decide +kernel
theorem dX9_writeInformation_17 : decode cX9_writeInformation 17 = .ok (.istore_n 2, 1) := by decide +kernel
theorem dX9_writeInformation_18 : decode cX9_writeInformation 18 = .ok (.aload_n 0, 1) := by decide +kernel
theorem dX9_writeInformation_19 : decode cX9_writeInformation 19 = .ok (.getfield 56, 3) := by decide +kernel
theorem dX9_writeInformation_22 : decode cX9_writeInformation 22 = .ok (.getfield 201, 3) := by decide +kernel
theorem dX9_writeInformation_25 : decode cX9_writeInformation 25 = .ok (.getfield 170, 3) := by decide +kernel
theorem dX9_writeInformation_28 : decode cX9_writeInformation 28 = .ok (.aload_n 0, 1) := by decide +kernel
theorem dX9_writeInformation_29 : decode cX9_writeInformation 29 = .ok (.getfield 56, 3) := by decide +kernel
theorem dX9_writeInformation_32 : decode cX9_writeInformation 32 = .ok (.getfield 201, 3) := by decide +kernel
theorem dX9_writeInformation_35 : decode cX9_writeInformation 35 = .ok (.getfield 167, 3) := by decide +kernel
theorem dX9_writeInformation_38 : decode cX9_writeInformation 38 = .ok (.if_icmp .le 8, 3) := by decide +kernel
theorem dX9_writeInformation_41 : decode cX9_writeInformation 41 = .ok (.bipush 32, 2) := by decide +kernel
theorem dX9_writeInformation_43 : decode cX9_writeInformation 43 = .ok (.goto 4, 3) := by decide +kernel
theorem dX9_writeInformation_46 : decode cX9_writeInformation 46 = .ok (.iconst 0, 1) := by decide +kernel
theorem dX9_writeInformation_47 : decode cX9_writeInformation 47 = .ok (.istore_n 3, 1) := by decide +kernel
theorem dX9_writeInformation_48 : decode cX9_writeInformation 48 = .ok (.aload_n 0, 1) := by decide +kernel
theorem dX9_writeInformation_49 : decode cX9_writeInformation 49 = .ok (.getfield 63, 3) := by decide +kernel
theorem dX9_writeInformation_52 : decode cX9_writeInformation 52 = .ok (.getfield 194, 3) := by decide +kernel
theorem dX9_writeInformation_55 : decode cX9_writeInformation 55 = .ok (.iload_n 1, 1) := by decide +kernel
theorem dX9_writeInformation_56 : decode cX9_writeInformation 56 = .ok (.iadd, 1) := by decide +kernel
theorem dX9_writeInformation_57 : decode cX9_writeInformation 57 = .ok (.istore 4, 2) := by decide +kernel
theorem dX9_writeInformation_59 : decode cX9_writeInformation 59 = .ok (.aload_n 0, 1) := by decide +kernel
theorem dX9_writeInformation_60 : decode cX9_writeInformation 60 = .ok (.getfield 18, 3) := by decide +kernel
theorem dX9_writeInformation_63 : decode cX9_writeInformation 63 = .ok (.iconst 0, 1) := by decide +kernel
theorem dX9_writeInformation_64 : decode cX9_writeInformation 64 = .ok (.ldc2_w 204, 3) := by decide +kernel
theorem dX9_writeInformation_67 : decode cX9_writeInformation 67 = .ok (.iconst 4, 1) := by decide +kernel
theorem dX9_writeInformation_68 : decode cX9_writeInformation 68 = .ok (.invokevirtual 78, 3) := by decide +kernel
theorem dX9_writeInformation_71 : decode cX9_writeInformation 71 = .ok (.pop, 1) := by decide +kernel
theorem dX9_writeInformation_72 : decode cX9_writeInformation 72 = .ok (.aload_n 0, 1) := by decide +kernel
theorem dX9_writeInformation_73 : decode cX9_writeInformation 73 = .ok (.getfield 18, 3) := by decide +kernel
theorem dX9_writeInformation_76 : decode cX9_writeInformation 76 = .ok (.iconst 4, 1) := by decide +kernel
theorem dX9_writeInformation_77 : decode cX9_writeInformation 77 = .ok (.iload_n 2, 1) := by decide +kernel
theorem dX9_writeInformation_78 : decode cX9_writeInformation 78 = .ok (.i2l, 1) := by decide +kernel
theorem dX9_writeInformation_79 : decode cX9_writeInformation 79 = .ok (.iconst 4, 1) := by decide +kernel
theorem dX9_writeInformation_80 : decode cX9_writeInformation 80 = .ok (.invokevirtual 78, 3) := by decide +kernel
theorem dX9_writeInformation_83 : decode cX9_writeInformation 83 = .ok (.pop, 1) := by decide +kernel
theorem dX9_writeInformation_84 : decode cX9_writeInformation 84 = .ok (.aload_n 0, 1) := by decide +kernel
theorem dX9_writeInformation_85 : decode cX9_writeInformation 85 = .ok (.getfield 18, 3) := by decide +kernel
theorem dX9_writeInformation_88 : decode cX9_writeInformation 88 = .ok (.bipush 8, 2) := by decide +kernel
theorem dX9_writeInformation_90 : decode cX9_writeInformation 90 = .ok (.iload_n 3, 1) := by decide +kernel
theorem dX9_writeInformation_91 : decode cX9_writeInformation 91 = .ok (.i2l, 1) := by decide +kernel
theorem dX9_writeInformation_92 : decode cX9_writeInformation 92 = .ok (.iconst 4, 1) := by decide +kernel
theorem dX9_writeInformation_93 : decode cX9_writeInformation 93 = .ok (.invokevirtual 78, 3) := by decide +kernel
theorem dX9_writeInformation_96 : decode cX9_writeInformation 96 = .ok (.pop, 1) := by decide +kernel
theorem dX9_writeInformation_97 : decode cX9_writeInformation 97 = .ok (.aload_n 0, 1) := by decide +kernel
theorem dX9_writeInformation_98 : decode cX9_writeInformation 98 = .ok (.getfield 18, 3) := by decide +kernel
theorem dX9_writeInformation_101 : decode cX9_writeInformation 101 = .ok (.bipush 12, 2) := by decide +kernel
theorem dX9_writeInformation_103 : decode cX9_writeInformation 103 = .ok (.aload_n 0, 1) := by decide +kernel
theorem dX9_writeInformation_104 : decode cX9_writeInformation 104 = .ok (.getfield 63, 3) := by decide +kernel
theorem dX9_writeInformation_107 : decode cX9_writeInformation 107 = .ok (.getfield 194, 3) := by decide +kernel
theorem dX9_writeInformation_110 : decode cX9_writeInformation 110 = .ok (.i2l, 1) := by decide +kernel
theorem dX9_writeInformation_111 : decode cX9_writeInformation 111 = .ok (.iconst 4, 1) := by decide +kernel
theorem dX9_writeInformation_112 : decode cX9_writeInformation 112 = .ok (.invokevirtual 78, 3) := by decide +kernel
theorem dX9_writeInformation_115 : decode cX9_writeInformation 115 = .ok (.pop, 1) := by decide +kernel
theorem dX9_writeInformation_116 : decode cX9_writeInformation 116 = .ok (.aload_n 0, 1) := by decide +kernel
theorem dX9_writeInformation_117 : decode cX9_writeInformation 117 = .ok (.getfield 18, 3) := by decide +kernel
theorem dX9_writeInformation_120 : decode cX9_writeInformation 120 = .ok (.bipush 16, 2) := by decide +kernel
theorem dX9_writeInformation_122 : decode cX9_writeInformation 122 = .ok (.iload 4, 2) := by decide +kernel
theorem dX9_writeInformation_124 : decode cX9_writeInformation 124 = .ok (.i2l, 1) := by decide +kernel
theorem dX9_writeInformation_125 : decode cX9_writeInformation 125 = .ok (.iconst 4, 1) := by decide +kernel
theorem dX9_writeInformation_126 : decode cX9_writeInformation 126 = .ok (.invokevirtual 78, 3) := by decide +kernel
theorem dX9_writeInformation_129 : decode cX9_writeInformation 129 = .ok (.pop, 1) := by decide +kernel
theorem dX9_writeInformation_130 : decode cX9_writeInformation 130 = .ok (.aload_n 0, 1) := by decide +kernel
theorem dX9_writeInformation_131 : decode cX9_writeInformation 131 = .ok (.getfield 18, 3) := by decide +kernel
theorem dX9_writeInformation_134 : decode cX9_writeInformation 134 = .ok (.bipush 20, 2) := by decide +kernel
theorem dX9_writeInformation_136 : decode cX9_writeInformation 136 = .ok (.aload_n 0, 1) := by decide +kernel
theorem dX9_writeInformation_137 : decode cX9_writeInformation 137 = .ok (.getfield 26, 3) := by decide +kernel
theorem dX9_writeInformation_140 : decode cX9_writeInformation 140 = .ok (.getfield 206, 3) := by decide +kernel
theorem dX9_writeInformation_143 : decode cX9_writeInformation 143 = .ok (.i2l, 1) := by decide +kernel
theorem dX9_writeInformation_144 : decode cX9_writeInformation 144 = .ok (.iconst 4, 1) := by decide +kernel
theorem dX9_writeInformation_145 : decode cX9_writeInformation 145 = .ok (.invokevirtual 78, 3) := by decide +kernel
theorem dX9_writeInformation_148 : decode cX9_writeInformation 148 = .ok (.pop, 1) := by decide +kernel
theorem dX9_writeInformation_149 : decode cX9_writeInformation 149 = .ok (.aload_n 0, 1) := by decide +kernel
theorem dX9_writeInformation_150 : decode cX9_writeInformation 150 = .ok (.getfield 18, 3) := by decide +kernel
theorem dX9_writeInformation_153 : decode cX9_writeInformation 153 = .ok (.bipush 24, 2) := by decide +kernel
theorem dX9_writeInformation_155 : decode cX9_writeInformation 155 = .ok (.ldc 209, 2) := by decide +kernel
theorem dX9_writeInformation_157 : decode cX9_writeInformation 157 = .ok (.iload_n 2, 1) := by decide +kernel
theorem dX9_writeInformation_158 : decode cX9_writeInformation 158 = .ok (.iadd, 1) := by decide +kernel
theorem dX9_writeInformation_159 : decode cX9_writeInformation 159 = .ok (.iload_n 3, 1) := by decide +kernel
theorem dX9_writeInformation_160 : decode cX9_writeInformation 160 = .ok (.iadd, 1) := by decide +kernel
theorem dX9_writeInformation_161 : decode cX9_writeInformation 161 = .ok (.aload_n 0, 1) := by decide +kernel
theorem dX9_writeInformation_162 : decode cX9_writeInformation 162 = .ok (.getfield 63, 3) := by decide +kernel
theorem dX9_writeInformation_165 : decode cX9_writeInformation 165 = .ok (.getfield 194, 3) := by decide +kernel
theorem dX9_writeInformation_168 : decode cX9_writeInformation 168 = .ok (.iadd, 1) := by decide +kernel
theorem dX9_writeInformation_169 : decode cX9_writeInformation 169 = .ok (.iload 4, 2) := by decide +kernel
theorem dX9_writeInformation_171 : decode cX9_writeInformation 171 = .ok (.iadd, 1) := by decide +kernel
theorem dX9_writeInformation_172 : decode cX9_writeInformation 172 = .ok (.aload_n 0, 1) := by decide +kernel
theorem dX9_writeInformation_173 : decode cX9_writeInformation 173 = .ok (.getfield 26, 3) := by decide +kernel
theorem dX9_writeInformation_176 : decode cX9_writeInformation 176 = .ok (.getfield 206, 3) := by decide +kernel
theorem dX9_writeInformation_179 : decode cX9_writeInformation 179 = .ok (.iadd, 1) := by decide +kernel
theorem dX9_writeInformation_180 : decode cX9_writeInformation 180 = .ok (.ineg, 1) := by decide +kernel
theorem dX9_writeInformation_181 : decode cX9_writeInformation 181 = .ok (.i2l, 1) := by decide +kernel
theorem dX9_writeInformation_182 : decode cX9_writeInformation 182 = .ok (.iconst 4, 1) := by decide +kernel
theorem dX9_writeInformation_183 : decode cX9_writeInformation 183 = .ok (.invokevirtual 78, 3) := by decide +kernel
theorem dX9_writeInformation_186 : decode cX9_writeInformation 186 = .ok (.pop, 1) := by decide +kernel
theorem dX9_writeInformation_187 : decode cX9_writeInformation 187 = .ok (.return_, 1) := by decide +kernel
set_option maxRecDepth 20000 in
theorem ggX9_copyArguments_X0_put : GoodIn wsX9_copyArguments wsX0_put := goodIn_r _ [11, 12, 31] (by decide +kernel) (by decide +kernel)
set_option maxRecDepth 20000 in
theorem gX9_copyArguments_X0_put : GoodIn wsX9_copyArguments (wsV RX9 78 RX0 yX0_put wsX0_put) := goodIn_app (goodIn_of _ (by decide +kernel)) ggX9_copyArguments_X0_put
theorem dX9_copyArguments_0 : decode cX9_copyArguments 0 = .ok (.aload_n 0, 1) := by decide +kernel
theorem dX9_copyArguments_1 : decode cX9_copyArguments 1 = .ok (.getfield 56, 3) := by decide +kernel
theorem dX9_copyArguments_4 : decode cX9_copyArguments 4 = .ok (.getfield 201, 3) := by decide +kernel
theorem dX9_copyArguments_7 : decode cX9_copyArguments 7 = .ok (.astore_n 1, 1) := by decide +kernel
theorem dX9_copyArguments_8 : decode cX9_copyArguments 8 = .ok (.aload_n 1, 1) := by decide +kernel
theorem dX9_copyArguments_9 : decode cX9_copyArguments 9 = .ok (.getfield 167, 3) := by decide +kernel
theorem dX9_copyArguments_12 : decode cX9_copyArguments 12 = .ok (.istore_n 2, 1) := by decide +kernel
theorem dX9_copyArguments_13 : decode cX9_copyArguments 13 = .ok (.iload_n 2, 1) := by decide +kernel
theorem dX9_copyArguments_14 : decode cX9_copyArguments 14 = .ok (.aload_n 1, 1) := by decide +kernel
theorem dX9_copyArguments_15 : decode cX9_copyArguments 15 = .ok (.getfield 170, 3) := by decide +kernel
theorem dX9_copyArguments_18 : decode cX9_copyArguments 18 = .ok (.if_icmp .ge 37, 3) := by decide +kernel
theorem dX9_copyArguments_21 : decode cX9_copyArguments 21 = .ok (.aload_n 0, 1) := by decide +kernel
theorem dX9_copyArguments_22 : decode cX9_copyArguments 22 = .ok (.getfield 18, 3) := by decide +kernel
theorem dX9_copyArguments_25 : decode cX9_copyArguments 25 = .ok (.bipush 32, 2) := by decide +kernel
theorem dX9_copyArguments_27 : decode cX9_copyArguments 27 = .ok (.iload_n 2, 1) := by decide +kernel
theorem dX9_copyArguments_28 : decode cX9_copyArguments 28 = .ok (.iadd, 1) := by decide +kernel
theorem dX9_copyArguments_29 : decode cX9_copyArguments 29 = .ok (.aload_n 1, 1) := by decide +kernel
theorem dX9_copyArguments_30 : decode cX9_copyArguments 30 = .ok (.getfield 167, 3) := by decide +kernel
theorem dX9_copyArguments_33 : decode cX9_copyArguments 33 = .ok (.isub, 1) := by decide +kernel
theorem dX9_copyArguments_34 : decode cX9_copyArguments 34 = .ok (.aload_n 0, 1) := by decide +kernel
theorem dX9_copyArguments_35 : decode cX9_copyArguments 35 = .ok (.getfield 56, 3) := by decide +kernel
theorem dX9_copyArguments_38 : decode cX9_copyArguments 38 = .ok (.getfield 164, 3) := by decide +kernel
theorem dX9_copyArguments_41 : decode cX9_copyArguments 41 = .ok (.iload_n 2, 1) := by decide +kernel
theorem dX9_copyArguments_42 : decode cX9_copyArguments 42 = .ok (.iaload, 1) := by decide +kernel
theorem dX9_copyArguments_43 : decode cX9_copyArguments 43 = .ok (.i2l, 1) := by decide +kernel
theorem dX9_copyArguments_44 : decode cX9_copyArguments 44 = .ok (.iconst 1, 1) := by decide +kernel
theorem dX9_copyArguments_45 : decode cX9_copyArguments 45 = .ok (.invokevirtual 78, 3) := by decide +kernel
theorem dX9_copyArguments_48 : decode cX9_copyArguments 48 = .ok (.pop, 1) := by decide +kernel
theorem dX9_copyArguments_49 : decode cX9_copyArguments 49 = .ok (.iinc 2 1, 3) := by decide +kernel
theorem dX9_copyArguments_52 : decode cX9_copyArguments 52 = .ok (.goto (-39), 3) := by decide +kernel
theorem dX9_copyArguments_55 : decode cX9_copyArguments 55 = .ok (.return_, 1) := by decide +kernel
theorem dX10_init_0 : decode cX10_init 0 = .ok (.aload_n 0, 1) := by decide +kernel
theorem dX10_init_1 : decode cX10_init 1 = .ok (.invokespecial 1, 3) := by decide +kernel
theorem dX10_init_4 : decode cX10_init 4 = .ok (.aload_n 0, 1) := by decide +kernel
theorem dX10_init_5 : decode cX10_init 5 = .ok (.sipush 2048, 3) := by decide +kernel
theorem dX10_init_8 : decode cX10_init 8 = .ok (.newarray .int, 2) := by decide +kernel
theorem dX10_init_10 : decode cX10_init 10 = .ok (.putfield 7, 3) := by decide +kernel
theorem dX10_init_13 : decode cX10_init 13 = .ok (.aload_n 0, 1) := by decide +kernel
theorem dX10_init_14 : decode cX10_init 14 = .ok (.sipush 1024, 3) := by decide +kernel
theorem dX10_init_17 : decode cX10_init 17 = .ok (.newarray .int, 2) := by decide +kernel
theorem dX10_init_19 : decode cX10_init 19 = .ok (.putfield 13, 3) := by decide +kernel
theorem dX10_init_22 : decode cX10_init 22 = .ok (.aload_n 0, 1) := by decide +kernel
theorem dX10_init_23 : decode cX10_init 23 = .ok (.iconst (-1), 1) := by decide +kernel
theorem dX10_init_24 : decode cX10_init 24 = .ok (.putfield 16, 3) := by decide +kernel
theorem dX10_init_27 : decode cX10_init 27 = .ok (.aload_n 0, 1) := by decide +kernel
theorem dX10_init_28 : decode cX10_init 28 = .ok (.bipush 20, 2) := by decide +kernel
theorem dX10_init_30 : decode cX10_init 30 = .ok (.newarray .int, 2) := by decide +kernel
theorem dX10_init_32 : decode cX10_init 32 = .ok (.putfield 20, 3) := by decide +kernel
theorem dX10_init_35 : decode cX10_init 35 = .ok (.aload_n 0, 1) := by decide +kernel
theorem dX10_init_36 : decode cX10_init 36 = .ok (.sipush 200, 3) := by decide +kernel
theorem dX10_init_39 : decode cX10_init 39 = .ok (.newarray .int, 2) := by decide +kernel
theorem dX10_init_41 : decode cX10_init 41 = .ok (.putfield 23, 3) := by decide +kernel
theorem dX10_init_44 : decode cX10_init 44 = .ok (.aload_n 0, 1) := by decide +kernel
theorem dX10_init_45 : decode cX10_init 45 = .ok (.iconst 4, 1) := by decide +kernel
theorem dX10_init_46 : decode cX10_init 46 = .ok (.newarray .int, 2) := by decide +kernel
theorem dX10_init_48 : decode cX10_init 48 = .ok (.putfield 26, 3) := by decide +kernel
theorem dX10_init_51 : decode cX10_init 51 = .ok (.aload_n 0, 1) := by decide +kernel
theorem dX10_init_52 : decode cX10_init 52 = .ok (.sipush 200, 3) := by decide +kernel
theorem dX10_init_55 : decode cX10_init 55 = .ok (.newarray .int, 2) := by decide +kernel
theorem dX10_init_57 : decode cX10_init 57 = .ok (.putfield 29, 3) := by decide +kernel
theorem dX10_init_60 : decode cX10_init 60 = .ok (.aload_n 0, 1) := by decide +kernel
theorem dX10_init_61 : decode cX10_init 61 = .ok (.sipush 200, 3) := by decide +kernel
theorem dX10_init_64 : decode cX10_init 64 = .ok (.newarray .int, 2) := by decide +kernel
theorem dX10_init_66 : decode cX10_init 66 = .ok (.putfield 32, 3) := by decide +kernel
theorem dX10_init_69 : decode cX10_init 69 = .ok (.aload_n 0, 1) := by decide +kernel
theorem dX10_init_70 : decode cX10_init 70 = .ok (.bipush 24, 2) := by decide +kernel
theorem dX10_init_72 : decode cX10_init 72 = .ok (.newarray .int, 2) := by decide +kernel
theorem dX10_init_74 : decode cX10_init 74 = .ok (.putfield 35, 3) := by decide +kernel
theorem dX10_init_77 : decode cX10_init 77 = .ok (.aload_n 0, 1) := by decide +kernel
theorem dX10_init_78 : decode cX10_init 78 = .ok (.iconst 5, 1) := by decide +kernel
theorem dX10_init_79 : decode cX10_init 79 = .ok (.newarray .int, 2) := by decide +kernel
theorem dX10_init_81 : decode cX10_init 81 = .ok (.putfield 38, 3) := by decide +kernel
theorem dX10_init_84 : decode cX10_init 84 = .ok (.aload_n 0, 1) := by decide +kernel
theorem dX10_init_85 : decode cX10_init 85 = .ok (.iconst 5, 1) := by decide +kernel
theorem dX10_init_86 : decode cX10_init 86 = .ok (.newarray .int, 2) := by decide +kernel
theorem dX10_init_88 : decode cX10_init 88 = .ok (.putfield 41, 3) := by decide +kernel
theorem dX10_init_91 : decode cX10_init 91 = .ok (.aload_n 0, 1) := by decide +kernel
theorem dX10_init_92 : decode cX10_init 92 = .ok (.iconst 5, 1) := by decide +kernel
theorem dX10_init_93 : decode cX10_init 93 = .ok (.newarray .int, 2) := by decide +kernel
theorem dX10_init_95 : decode cX10_init 95 = .ok (.putfield 44, 3) := by decide +kernel
theorem dX10_init_98 : decode cX10_init 98 = .ok (.return_, 1) := by decide +kernel
theorem dX10_poke_0 : decode cX10_poke 0 = .ok (.iload 4, 2) := by decide +kernel
theorem dX10_poke_2 : decode cX10_poke 2 = .ok (.iconst 1, 1) := by decide +kernel
theorem dX10_poke_3 : decode cX10_poke 3 = .ok (.if_icmp .lt 24, 3) := by decide +kernel
theorem dX10_poke_6 : decode cX10_poke 6 = .ok (.iload 4, 2) := by decide +kernel
theorem dX10_poke_8 : decode cX10_poke 8 = .ok (.bipush 8, 2) := by decide +kernel
theorem dX10_poke_10 : decode cX10_poke 10 = .ok (.if_icmp .gt 17, 3) := by decide +kernel
theorem dX10_poke_13 : decode cX10_poke 13 = .ok (.iload_n 1, 1) := by decide +kernel
theorem dX10_poke_14 : decode cX10_poke 14 = .ok (.ifCond .lt 13, 3) := by decide +kernel
theorem dX10_poke_17 : decode cX10_poke 17 = .ok (.iload_n 1, 1) := by decide +kernel
theorem dX10_poke_18 : decode cX10_poke 18 = .ok (.sipush 2048, 3) := by decide +kernel
theorem dX10_poke_21 : decode cX10_poke 21 = .ok (.iload 4, 2) := by decide +kernel
theorem dX10_poke_23 : decode cX10_poke 23 = .ok (.isub, 1) := by decide +kernel
theorem dX10_poke_24 : decode cX10_poke 24 = .ok (.if_icmp .le 5, 3) := by decide +kernel
theorem dX10_poke_27 : decode cX10_poke 27 = .ok (.iconst 0, 1) := by decide +kernel
theorem dX10_poke_28 : decode cX10_poke 28 = .ok (.ireturn, 1) := by decide +kernel
theorem dX10_poke_29 : decode cX10_poke 29 = .ok (.iconst 0, 1) := by decide +kernel
theorem dX10_poke_30 : decode cX10_poke 30 = .ok (.istore 5, 2) := by decide +kernel
theorem dX10_poke_32 : decode cX10_poke 32 = .ok (.iload 5, 2) := by decide +kernel
theorem dX10_poke_34 : decode cX10_poke 34 = .ok (.iload 4, 2) := by decide +kernel
theorem dX10_poke_36 : decode cX10_poke 36 = .ok (.if_icmp .ge 30, 3) := by decide +kernel
theorem dX10_poke_39 : decode cX10_poke 39 = .ok (.aload_n 0, 1) := by decide +kernel
theorem dX10_poke_40 : decode cX10_poke 40 = .ok (.getfield 7, 3) := by decide +kernel
theorem dX10_poke_43 : decode cX10_poke 43 = .ok (.iload_n 1, 1) := by decide +kernel
theorem dX10_poke_44 : decode cX10_poke 44 = .ok (.iload 5, 2) := by decide +kernel
theorem dX10_poke_46 : decode cX10_poke 46 = .ok (.iadd, 1) := by decide +kernel
theorem dX10_poke_47 : decode cX10_poke 47 = .ok (.lload_n 2, 1) := by decide +kernel
theorem dX10_poke_48 : decode cX10_poke 48 = .ok (.bipush 8, 2) := by decide +kernel
theorem dX10_poke_50 : decode cX10_poke 50 = .ok (.iload 5, 2) := by decide +kernel
theorem dX10_poke_52 : decode cX10_poke 52 = .ok (.imul, 1) := by decide +kernel
theorem dX10_poke_53 : decode cX10_poke 53 = .ok (.lushr, 1) := by decide +kernel
theorem dX10_poke_54 : decode cX10_poke 54 = .ok (.l2i, 1) := by decide +kernel
theorem dX10_poke_55 : decode cX10_poke 55 = .ok (.sipush 255, 3) := by decide +kernel
theorem dX10_poke_58 : decode cX10_poke 58 = .ok (.iand, 1) := by decide +kernel
theorem dX10_poke_59 : decode cX10_poke 59 = .ok (.iastore, 1) := by decide +kernel
theorem dX10_poke_60 : decode cX10_poke 60 = .ok (.iinc 5 1, 3) := by decide +kernel
theorem dX10_poke_63 : decode cX10_poke 63 = .ok (.goto (-31), 3) := by decide +kernel
theorem dX10_poke_66 : decode cX10_poke 66 = .ok (.iconst 1, 1) := by decide +kernel
theorem dX10_poke_67 : decode cX10_poke 67 = .ok (.ireturn, 1) := by decide +kernel
theorem dX10_peek_0 : decode cX10_peek 0 = .ok (.iload_n 1, 1) := by decide +kernel
theorem dX10_peek_1 : decode cX10_peek 1 = .ok (.ifCond .lt 10, 3) := by decide +kernel
theorem dX10_peek_4 : decode cX10_peek 4 = .ok (.iload_n 1, 1) := by decide +kernel
theorem dX10_peek_5 : decode cX10_peek 5 = .ok (.sipush 2047, 3) := by decide +kernel
theorem dX10_peek_8 : decode cX10_peek 8 = .ok (.if_icmp .le 7, 3) := by decide +kernel
theorem dX10_peek_11 : decode cX10_peek 11 = .ok (.iconst (-1), 1) := by decide +kernel
theorem dX10_peek_12 : decode cX10_peek 12 = .ok (.goto 9, 3) := by decide +kernel
theorem dX10_peek_15 : decode cX10_peek 15 = .ok (.aload_n 0, 1) := by decide +kernel
theorem dX10_peek_16 : decode cX10_peek 16 = .ok (.getfield 7, 3) := by decide +kernel
theorem dX10_peek_19 : decode cX10_peek 19 = .ok (.iload_n 1, 1) := by decide +kernel
theorem dX10_peek_20 : decode cX10_peek 20 = .ok (.iaload, 1) := by decide +kernel
theorem dX10_peek_21 : decode cX10_peek 21 = .ok (.ireturn, 1) := by decide +kernel
theorem dX10_word_0 : decode cX10_word 0 = .ok (.aload_n 0, 1) := by decide +kernel
theorem dX10_word_1 : decode cX10_word 1 = .ok (.getfield 7, 3) := by decide +kernel
theorem dX10_word_4 : decode cX10_word 4 = .ok (.iload_n 1, 1) := by decide +kernel
theorem dX10_word_5 : decode cX10_word 5 = .ok (.iaload, 1) := by decide +kernel
theorem dX10_word_6 : decode cX10_word 6 = .ok (.sipush 256, 3) := by decide +kernel
theorem dX10_word_9 : decode cX10_word 9 = .ok (.aload_n 0, 1) := by decide +kernel
theorem dX10_word_10 : decode cX10_word 10 = .ok (.getfield 7, 3) := by decide +kernel
theorem dX10_word_13 : decode cX10_word 13 = .ok (.iload_n 1, 1) := by decide +kernel
theorem dX10_word_14 : decode cX10_word 14 = .ok (.iconst 1, 1) := by decide +kernel
theorem dX10_word_15 : decode cX10_word 15 = .ok (.iadd, 1) := by decide +kernel
theorem dX10_word_16 : decode cX10_word 16 = .ok (.iaload, 1) := by decide +kernel
theorem dX10_word_17 : decode cX10_word 17 = .ok (.imul, 1) := by decide +kernel
theorem dX10_word_18 : decode cX10_word 18 = .ok (.iadd, 1) := by decide +kernel
theorem dX10_word_19 : decode cX10_word 19 = .ok (.ireturn, 1) := by decide +kernel
set_option maxRecDepth 20000 in
theorem ggX10_four_X10_word : GoodIn wsX10_four wsX10_word := goodIn_r _ [6, 7, 8, 9, 10, 11, 12, 13, 14, 15, 16, 17, 18, 19, 20, 21, 22, 23, 24, 25, 26, 27, 28, 29, 30, 31, 32, 33] (by decide +kernel) (by decide +kernel)
set_option maxRecDepth 20000 in
theorem gX10_four_X10_word : GoodIn wsX10_four (wsV RX10 47 RX10 yX10_word wsX10_word) := goodIn_app (goodIn_of _ (by decide +kernel)) ggX10_four_X10_word
theorem dX10_four_0 : decode cX10_four 0 = .ok (.aload_n 0, 1) := by decide +kernel
theorem dX10_four_1 : decode cX10_four 1 = .ok (.iload_n 1, 1) := by decide +kernel
theorem dX10_four_2 : decode cX10_four 2 = .ok (.invokevirtual 47, 3) := by decide +kernel
theorem dX10_four_5 : decode cX10_four 5 = .ok (.ldc 51, 2) := by decide +kernel
theorem dX10_four_7 : decode cX10_four 7 = .ok (.aload_n 0, 1) := by decide +kernel
theorem dX10_four_8 : decode cX10_four 8 = .ok (.iload_n 1, 1) := by decide +kernel
theorem dX10_four_9 : decode cX10_four 9 = .ok (.iconst 2, 1) := by decide +kernel
theorem dX10_four_10 : decode cX10_four 10 = .ok (.iadd, 1) := by decide +kernel
theorem dX10_four_11 : decode cX10_four 11 = .ok (.invokevirtual 47, 3) := by decide +kernel
theorem dX10_four_14 : decode cX10_four 14 = .ok (.imul, 1) := by decide +kernel
theorem dX10_four_15 : decode cX10_four 15 = .ok (.iadd, 1) := by decide +kernel
theorem dX10_four_16 : decode cX10_four 16 = .ok (.ireturn, 1) := by decide +kernel
theorem dX10_isUsable_0 : decode cX10_isUsable 0 = .ok (.bipush 6, 2) := by decide +kernel
theorem dX10_isUsable_2 : decode cX10_isUsable 2 = .ok (.bipush 8, 2) := by decide +kernel
theorem dX10_isUsable_4 : decode cX10_isUsable 4 = .ok (.iload_n 1, 1) := by decide +kernel
theorem dX10_isUsable_5 : decode cX10_isUsable 5 = .ok (.imul, 1) := by decide +kernel
theorem dX10_isUsable_6 : decode cX10_isUsable 6 = .ok (.iadd, 1) := by decide +kernel
theorem dX10_isUsable_7 : decode cX10_isUsable 7 = .ok (.istore_n 2, 1) := by decide +kernel
theorem dX10_isUsable_8 : decode cX10_isUsable 8 = .ok (.aload_n 0, 1) := by decide +kernel
theorem dX10_isUsable_9 : decode cX10_isUsable 9 = .ok (.getfield 7, 3) := by decide +kernel
theorem dX10_isUsable_12 : decode cX10_isUsable 12 = .ok (.iload_n 2, 1) := by decide +kernel
theorem dX10_isUsable_13 : decode cX10_isUsable 13 = .ok (.iconst 1, 1) := by decide +kernel
theorem dX10_isUsable_14 : decode cX10_isUsable 14 = .ok (.iadd, 1) := by decide +kernel
theorem dX10_isUsable_15 : decode cX10_isUsable 15 = .ok (.iaload, 1) := by decide +kernel
theorem dX10_isUsable_16 : decode cX10_isUsable 16 = .ok (.bipush 12, 2) := by decide +kernel
theorem dX10_isUsable_18 : decode cX10_isUsable 18 = .ok (.if_icmp .ne 53, 3) := by decide +kernel
theorem dX10_isUsable_21 : decode cX10_isUsable 21 = .ok (.aload_n 0, 1) := by decide +kernel
theorem dX10_isUsable_22 : decode cX10_isUsable 22 = .ok (.getfield 7, 3) := by decide +kernel
theorem dX10_isUsable_25 : decode cX10_isUsable 25 = .ok (.iload_n 2, 1) := by decide +kernel
theorem dX10_isUsable_26 : decode cX10_isUsable 26 = .ok (.iconst 2, 1) := by decide +kernel
theorem dX10_isUsable_27 : decode cX10_isUsable 27 = .ok (.iadd, 1) := by decide +kernel
theorem dX10_isUsable_28 : decode cX10_isUsable 28 = .ok (.iaload, 1) := by decide +kernel
theorem dX10_isUsable_29 : decode cX10_isUsable 29 = .ok (.iconst 1, 1) := by decide +kernel
theorem dX10_isUsable_30 : decode cX10_isUsable 30 = .ok (.if_icmp .lt 41, 3) := by decide +kernel
theorem dX10_isUsable_33 : decode cX10_isUsable 33 = .ok (.aload_n 0, 1) := by decide +kernel
theorem dX10_isUsable_34 : decode cX10_isUsable 34 = .ok (.getfield 7, 3) := by decide +kernel
theorem dX10_isUsable_37 : decode cX10_isUsable 37 = .ok (.iload_n 2, 1) := by decide +kernel
theorem dX10_isUsable_38 : decode cX10_isUsable 38 = .ok (.iconst 3, 1) := by decide +kernel
theorem dX10_isUsable_39 : decode cX10_isUsable 39 = .ok (.iadd, 1) := by decide +kernel
theorem dX10_isUsable_40 : decode cX10_isUsable 40 = .ok (.iaload, 1) := by decide +kernel
theorem dX10_isUsable_41 : decode cX10_isUsable 41 = .ok (.iconst 1, 1) := by decide +kernel
theorem dX10_isUsable_42 : decode cX10_isUsable 42 = .ok (.if_icmp .lt 29, 3) := by decide +kernel
theorem dX10_isUsable_45 : decode cX10_isUsable 45 = .ok (.aload_n 0, 1) := by decide +kernel
theorem dX10_isUsable_46 : decode cX10_isUsable 46 = .ok (.getfield 7, 3) := by decide +kernel
theorem dX10_isUsable_49 : decode cX10_isUsable 49 = .ok (.iload_n 2, 1) := by decide +kernel
theorem dX10_isUsable_50 : decode cX10_isUsable 50 = .ok (.iconst 2, 1) := by decide +kernel
theorem dX10_isUsable_51 : decode cX10_isUsable 51 = .ok (.iadd, 1) := by decide +kernel
theorem dX10_isUsable_52 : decode cX10_isUsable 52 = .ok (.iaload, 1) := by decide +kernel
theorem dX10_isUsable_53 : decode cX10_isUsable 53 = .ok (.aload_n 0, 1) := by decide +kernel
theorem dX10_isUsable_54 : decode cX10_isUsable 54 = .ok (.getfield 7, 3) := by decide +kernel
theorem dX10_isUsable_57 : decode cX10_isUsable 57 = .ok (.iload_n 2, 1) := by decide +kernel
theorem dX10_isUsable_58 : decode cX10_isUsable 58 = .ok (.iconst 3, 1) := by decide +kernel
theorem dX10_isUsable_59 : decode cX10_isUsable 59 = .ok (.iadd, 1) := by decide +kernel
theorem dX10_isUsable_60 : decode cX10_isUsable 60 = .ok (.iaload, 1) := by decide +kernel
theorem dX10_isUsable_61 : decode cX10_isUsable 61 = .ok (.iadd, 1) := by decide +kernel
theorem dX10_isUsable_62 : decode cX10_isUsable 62 = .ok (.bipush 64, 2) := by decide +kernel
theorem dX10_isUsable_64 : decode cX10_isUsable 64 = .ok (.if_icmp .gt 7, 3) := by decide +kernel
theorem dX10_isUsable_67 : decode cX10_isUsable 67 = .ok (.iconst 1, 1) := by decide +kernel
theorem dX10_isUsable_68 : decode cX10_isUsable 68 = .ok (.goto 4, 3) := by decide +kernel
theorem dX10_isUsable_71 : decode cX10_isUsable 71 = .ok (.iconst 0, 1) := by decide +kernel
theorem dX10_isUsable_72 : decode cX10_isUsable 72 = .ok (.ireturn, 1) := by decide +kernel
set_option maxRecDepth 20000 in
theorem ggX10_choose_X10_isUsable : GoodIn wsX10_choose wsX10_isUsable := goodIn_r _ [6, 1, 7, 8, 9, 10, 11, 12, 13, 14, 15, 16, 17, 18, 19, 20, 21, 22, 23, 24, 25, 26, 27, 28, 29, 30, 31, 32] (by decide +kernel) (by decide +kernel)
set_option maxRecDepth 20000 in
theorem gX10_choose_X10_isUsable : GoodIn wsX10_choose (wsV RX10 52 RX10 yX10_isUsable wsX10_isUsable) := goodIn_app (goodIn_of _ (by decide +kernel)) ggX10_choose_X10_isUsable
theorem dX10_choose_0 : decode cX10_choose 0 = .ok (.iconst 0, 1) := by decide +kernel
theorem dX10_choose_1 : decode cX10_choose 1 = .ok (.istore_n 1, 1) := by decide +kernel
theorem dX10_choose_2 : decode cX10_choose 2 = .ok (.iload_n 1, 1) := by decide +kernel
theorem dX10_choose_3 : decode cX10_choose 3 = .ok (.iconst 3, 1) := by decide +kernel
theorem dX10_choose_4 : decode cX10_choose 4 = .ok (.if_icmp .ge 37, 3) := by decide +kernel
theorem dX10_choose_7 : decode cX10_choose 7 = .ok (.aload_n 0, 1) := by decide +kernel
theorem dX10_choose_8 : decode cX10_choose 8 = .ok (.iload_n 1, 1) := by decide +kernel
theorem dX10_choose_9 : decode cX10_choose 9 = .ok (.invokevirtual 52, 3) := by decide +kernel
theorem dX10_choose_12 : decode cX10_choose 12 = .ok (.ifCond .eq 23, 3) := by decide +kernel
theorem dX10_choose_15 : decode cX10_choose 15 = .ok (.aload_n 0, 1) := by decide +kernel
theorem dX10_choose_16 : decode cX10_choose 16 = .ok (.getfield 7, 3) := by decide +kernel
theorem dX10_choose_19 : decode cX10_choose 19 = .ok (.bipush 6, 2) := by decide +kernel
theorem dX10_choose_21 : decode cX10_choose 21 = .ok (.bipush 8, 2) := by decide +kernel
theorem dX10_choose_23 : decode cX10_choose 23 = .ok (.iload_n 1, 1) := by decide +kernel
theorem dX10_choose_24 : decode cX10_choose 24 = .ok (.imul, 1) := by decide +kernel
theorem dX10_choose_25 : decode cX10_choose 25 = .ok (.iadd, 1) := by decide +kernel
theorem dX10_choose_26 : decode cX10_choose 26 = .ok (.iaload, 1) := by decide +kernel
theorem dX10_choose_27 : decode cX10_choose 27 = .ok (.sipush 128, 3) := by decide +kernel
theorem dX10_choose_30 : decode cX10_choose 30 = .ok (.if_icmp .ne 5, 3) := by decide +kernel
theorem dX10_choose_33 : decode cX10_choose 33 = .ok (.iload_n 1, 1) := by decide +kernel
theorem dX10_choose_34 : decode cX10_choose 34 = .ok (.ireturn, 1) := by decide +kernel
theorem dX10_choose_35 : decode cX10_choose 35 = .ok (.iinc 1 1, 3) := by decide +kernel
theorem dX10_choose_38 : decode cX10_choose 38 = .ok (.goto (-36), 3) := by decide +kernel
theorem dX10_choose_41 : decode cX10_choose 41 = .ok (.iconst 0, 1) := by decide +kernel
theorem dX10_choose_42 : decode cX10_choose 42 = .ok (.istore_n 1, 1) := by decide +kernel
theorem dX10_choose_43 : decode cX10_choose 43 = .ok (.iload_n 1, 1) := by decide +kernel
theorem dX10_choose_44 : decode cX10_choose 44 = .ok (.iconst 3, 1) := by decide +kernel
theorem dX10_choose_45 : decode cX10_choose 45 = .ok (.if_icmp .ge 19, 3) := by decide +kernel
theorem dX10_choose_48 : decode cX10_choose 48 = .ok (.aload_n 0, 1) := by decide +kernel
theorem dX10_choose_49 : decode cX10_choose 49 = .ok (.iload_n 1, 1) := by decide +kernel
theorem dX10_choose_50 : decode cX10_choose 50 = .ok (.invokevirtual 52, 3) := by decide +kernel
theorem dX10_choose_53 : decode cX10_choose 53 = .ok (.ifCond .eq 5, 3) := by decide +kernel
theorem dX10_choose_56 : decode cX10_choose 56 = .ok (.iload_n 1, 1) := by decide +kernel
theorem dX10_choose_57 : decode cX10_choose 57 = .ok (.ireturn, 1) := by decide +kernel
theorem dX10_choose_58 : decode cX10_choose 58 = .ok (.iinc 1 1, 3) := by decide +kernel
theorem dX10_choose_61 : decode cX10_choose 61 = .ok (.goto (-18), 3) := by decide +kernel
theorem dX10_choose_64 : decode cX10_choose 64 = .ok (.iconst (-1), 1) := by decide +kernel
theorem dX10_choose_65 : decode cX10_choose 65 = .ok (.ireturn, 1) := by decide +kernel
set_option maxRecDepth 20000 in
theorem ggX10_volume_X10_choose : GoodIn wsX10_volume wsX10_choose := goodIn_r _ [14, 1, 15, 16, 17, 13, 18, 19, 20, 21, 22, 23, 24, 25, 26, 27, 28, 29, 30, 31, 32, 33, 34, 35, 36, 37, 38, 39, 40, 41, 42, 43, 44] (by decide +kernel) (by decide +kernel)
set_option maxRecDepth 20000 in
theorem gX10_volume_X10_choose : GoodIn wsX10_volume (wsV RX10 56 RX10 yX10_choose wsX10_choose) := goodIn_app (goodIn_of _ (by decide +kernel)) ggX10_volume_X10_choose
theorem dX10_volume_0 : decode cX10_volume 0 = .ok (.aload_n 0, 1) := by decide +kernel
theorem dX10_volume_1 : decode cX10_volume 1 = .ok (.getfield 7, 3) := by decide +kernel
theorem dX10_volume_4 : decode cX10_volume 4 = .ok (.bipush 30, 2) := by decide +kernel
theorem dX10_volume_6 : decode cX10_volume 6 = .ok (.iaload, 1) := by decide +kernel
theorem dX10_volume_7 : decode cX10_volume 7 = .ok (.bipush 85, 2) := by decide +kernel
theorem dX10_volume_9 : decode cX10_volume 9 = .ok (.if_icmp .ne 16, 3) := by decide +kernel
theorem dX10_volume_12 : decode cX10_volume 12 = .ok (.aload_n 0, 1) := by decide +kernel
theorem dX10_volume_13 : decode cX10_volume 13 = .ok (.getfield 7, 3) := by decide +kernel
theorem dX10_volume_16 : decode cX10_volume 16 = .ok (.bipush 31, 2) := by decide +kernel
theorem dX10_volume_18 : decode cX10_volume 18 = .ok (.iaload, 1) := by decide +kernel
theorem dX10_volume_19 : decode cX10_volume 19 = .ok (.sipush 170, 3) := by decide +kernel
theorem dX10_volume_22 : decode cX10_volume 22 = .ok (.if_icmp .eq 6, 3) := by decide +kernel
theorem dX10_volume_25 : decode cX10_volume 25 = .ok (.bipush (-2), 2) := by decide +kernel
theorem dX10_volume_27 : decode cX10_volume 27 = .ok (.ireturn, 1) := by decide +kernel
theorem dX10_volume_28 : decode cX10_volume 28 = .ok (.aload_n 0, 1) := by decide +kernel
theorem dX10_volume_29 : decode cX10_volume 29 = .ok (.aload_n 0, 1) := by decide +kernel
theorem dX10_volume_30 : decode cX10_volume 30 = .ok (.invokevirtual 56, 3) := by decide +kernel
theorem dX10_volume_33 : decode cX10_volume 33 = .ok (.putfield 60, 3) := by decide +kernel
theorem dX10_volume_36 : decode cX10_volume 36 = .ok (.aload_n 0, 1) := by decide +kernel
theorem dX10_volume_37 : decode cX10_volume 37 = .ok (.getfield 60, 3) := by decide +kernel
theorem dX10_volume_40 : decode cX10_volume 40 = .ok (.ifCond .ge 6, 3) := by decide +kernel
theorem dX10_volume_43 : decode cX10_volume 43 = .ok (.bipush (-3), 2) := by decide +kernel
theorem dX10_volume_45 : decode cX10_volume 45 = .ok (.ireturn, 1) := by decide +kernel
theorem dX10_volume_46 : decode cX10_volume 46 = .ok (.aload_n 0, 1) := by decide +kernel
theorem dX10_volume_47 : decode cX10_volume 47 = .ok (.getfield 7, 3) := by decide +kernel
theorem dX10_volume_50 : decode cX10_volume 50 = .ok (.bipush 8, 2) := by decide +kernel
theorem dX10_volume_52 : decode cX10_volume 52 = .ok (.bipush 8, 2) := by decide +kernel
theorem dX10_volume_54 : decode cX10_volume 54 = .ok (.aload_n 0, 1) := by decide +kernel
theorem dX10_volume_55 : decode cX10_volume 55 = .ok (.getfield 60, 3) := by decide +kernel
theorem dX10_volume_58 : decode cX10_volume 58 = .ok (.imul, 1) := by decide +kernel
theorem dX10_volume_59 : decode cX10_volume 59 = .ok (.iadd, 1) := by decide +kernel
theorem dX10_volume_60 : decode cX10_volume 60 = .ok (.iaload, 1) := by decide +kernel
theorem dX10_volume_61 : decode cX10_volume 61 = .ok (.istore_n 1, 1) := by decide +kernel
theorem dX10_volume_62 : decode cX10_volume 62 = .ok (.aload_n 0, 1) := by decide +kernel
theorem dX10_volume_63 : decode cX10_volume 63 = .ok (.getfield 7, 3) := by decide +kernel
theorem dX10_volume_66 : decode cX10_volume 66 = .ok (.bipush 9, 2) := by decide +kernel
theorem dX10_volume_68 : decode cX10_volume 68 = .ok (.bipush 8, 2) := by decide +kernel
theorem dX10_volume_70 : decode cX10_volume 70 = .ok (.aload_n 0, 1) := by decide +kernel
theorem dX10_volume_71 : decode cX10_volume 71 = .ok (.getfield 60, 3) := by decide +kernel
theorem dX10_volume_74 : decode cX10_volume 74 = .ok (.imul, 1) := by decide +kernel
theorem dX10_volume_75 : decode cX10_volume 75 = .ok (.iadd, 1) := by decide +kernel
theorem dX10_volume_76 : decode cX10_volume 76 = .ok (.iaload, 1) := by decide +kernel
theorem dX10_volume_77 : decode cX10_volume 77 = .ok (.istore_n 2, 1) := by decide +kernel
theorem dX10_volume_78 : decode cX10_volume 78 = .ok (.bipush 32, 2) := by decide +kernel
theorem dX10_volume_80 : decode cX10_volume 80 = .ok (.iload_n 1, 1) := by decide +kernel
theorem dX10_volume_81 : decode cX10_volume 81 = .ok (.imul, 1) := by decide +kernel
theorem dX10_volume_82 : decode cX10_volume 82 = .ok (.istore_n 3, 1) := by decide +kernel
theorem dX10_volume_83 : decode cX10_volume 83 = .ok (.aload_n 0, 1) := by decide +kernel
theorem dX10_volume_84 : decode cX10_volume 84 = .ok (.aload_n 0, 1) := by decide +kernel
theorem dX10_volume_85 : decode cX10_volume 85 = .ok (.getfield 7, 3) := by decide +kernel
theorem dX10_volume_88 : decode cX10_volume 88 = .ok (.iload_n 3, 1) := by decide +kernel
theorem dX10_volume_89 : decode cX10_volume 89 = .ok (.iconst 1, 1) := by decide +kernel
theorem dX10_volume_90 : decode cX10_volume 90 = .ok (.iadd, 1) := by decide +kernel
theorem dX10_volume_91 : decode cX10_volume 91 = .ok (.iaload, 1) := by decide +kernel
theorem dX10_volume_92 : decode cX10_volume 92 = .ok (.putfield 63, 3) := by decide +kernel
theorem dX10_volume_95 : decode cX10_volume 95 = .ok (.aload_n 0, 1) := by decide +kernel
theorem dX10_volume_96 : decode cX10_volume 96 = .ok (.getfield 7, 3) := by decide +kernel
theorem dX10_volume_99 : decode cX10_volume 99 = .ok (.iload_n 3, 1) := by decide +kernel
theorem dX10_volume_100 : decode cX10_volume 100 = .ok (.iconst 2, 1) := by decide +kernel
theorem dX10_volume_101 : decode cX10_volume 101 = .ok (.iadd, 1) := by decide +kernel
theorem dX10_volume_102 : decode cX10_volume 102 = .ok (.iaload, 1) := by decide +kernel
theorem dX10_volume_103 : decode cX10_volume 103 = .ok (.istore 4, 2) := by decide +kernel
theorem dX10_volume_105 : decode cX10_volume 105 = .ok (.aload_n 0, 1) := by decide +kernel
theorem dX10_volume_106 : decode cX10_volume 106 = .ok (.aload_n 0, 1) := by decide +kernel
theorem dX10_volume_107 : decode cX10_volume 107 = .ok (.getfield 7, 3) := by decide +kernel
theorem dX10_volume_110 : decode cX10_volume 110 = .ok (.iload_n 3, 1) := by decide +kernel
theorem dX10_volume_111 : decode cX10_volume 111 = .ok (.iconst 3, 1) := by decide +kernel
theorem dX10_volume_112 : decode cX10_volume 112 = .ok (.iadd, 1) := by decide +kernel
theorem dX10_volume_113 : decode cX10_volume 113 = .ok (.iaload, 1) := by decide +kernel
theorem dX10_volume_114 : decode cX10_volume 114 = .ok (.putfield 66, 3) := by decide +kernel
theorem dX10_volume_117 : decode cX10_volume 117 = .ok (.aload_n 0, 1) := by decide +kernel
theorem dX10_volume_118 : decode cX10_volume 118 = .ok (.aload_n 0, 1) := by decide +kernel
theorem dX10_volume_119 : decode cX10_volume 119 = .ok (.getfield 7, 3) := by decide +kernel
theorem dX10_volume_122 : decode cX10_volume 122 = .ok (.iload_n 3, 1) := by decide +kernel
theorem dX10_volume_123 : decode cX10_volume 123 = .ok (.iconst 4, 1) := by decide +kernel
theorem dX10_volume_124 : decode cX10_volume 124 = .ok (.iadd, 1) := by decide +kernel
theorem dX10_volume_125 : decode cX10_volume 125 = .ok (.iaload, 1) := by decide +kernel
theorem dX10_volume_126 : decode cX10_volume 126 = .ok (.putfield 69, 3) := by decide +kernel
theorem dX10_volume_129 : decode cX10_volume 129 = .ok (.aload_n 0, 1) := by decide +kernel
theorem dX10_volume_130 : decode cX10_volume 130 = .ok (.aload_n 0, 1) := by decide +kernel
theorem dX10_volume_131 : decode cX10_volume 131 = .ok (.getfield 7, 3) := by decide +kernel
theorem dX10_volume_134 : decode cX10_volume 134 = .ok (.iload_n 3, 1) := by decide +kernel
theorem dX10_volume_135 : decode cX10_volume 135 = .ok (.iconst 5, 1) := by decide +kernel
theorem dX10_volume_136 : decode cX10_volume 136 = .ok (.iadd, 1) := by decide +kernel
theorem dX10_volume_137 : decode cX10_volume 137 = .ok (.iaload, 1) := by decide +kernel
theorem dX10_volume_138 : decode cX10_volume 138 = .ok (.putfield 72, 3) := by decide +kernel
theorem dX10_volume_141 : decode cX10_volume 141 = .ok (.aload_n 0, 1) := by decide +kernel
theorem dX10_volume_142 : decode cX10_volume 142 = .ok (.getfield 7, 3) := by decide +kernel
theorem dX10_volume_145 : decode cX10_volume 145 = .ok (.iload_n 3, 1) := by decide +kernel
theorem dX10_volume_146 : decode cX10_volume 146 = .ok (.iaload, 1) := by decide +kernel
theorem dX10_volume_147 : decode cX10_volume 147 = .ok (.sipush 235, 3) := by decide +kernel
theorem dX10_volume_150 : decode cX10_volume 150 = .ok (.if_icmp .ne 60, 3) := by decide +kernel
theorem dX10_volume_153 : decode cX10_volume 153 = .ok (.aload_n 0, 1) := by decide +kernel
theorem dX10_volume_154 : decode cX10_volume 154 = .ok (.getfield 7, 3) := by decide +kernel
theorem dX10_volume_157 : decode cX10_volume 157 = .ok (.iload_n 3, 1) := by decide +kernel
theorem dX10_volume_158 : decode cX10_volume 158 = .ok (.bipush 30, 2) := by decide +kernel
theorem dX10_volume_160 : decode cX10_volume 160 = .ok (.iadd, 1) := by decide +kernel
theorem dX10_volume_161 : decode cX10_volume 161 = .ok (.iaload, 1) := by decide +kernel
theorem dX10_volume_162 : decode cX10_volume 162 = .ok (.bipush 85, 2) := by decide +kernel
theorem dX10_volume_164 : decode cX10_volume 164 = .ok (.if_icmp .ne 46, 3) := by decide +kernel
theorem dX10_volume_167 : decode cX10_volume 167 = .ok (.aload_n 0, 1) := by decide +kernel
theorem dX10_volume_168 : decode cX10_volume 168 = .ok (.getfield 7, 3) := by decide +kernel
theorem dX10_volume_171 : decode cX10_volume 171 = .ok (.iload_n 3, 1) := by decide +kernel
theorem dX10_volume_172 : decode cX10_volume 172 = .ok (.bipush 31, 2) := by decide +kernel
theorem dX10_volume_174 : decode cX10_volume 174 = .ok (.iadd, 1) := by decide +kernel
theorem dX10_volume_175 : decode cX10_volume 175 = .ok (.iaload, 1) := by decide +kernel
theorem dX10_volume_176 : decode cX10_volume 176 = .ok (.sipush 170, 3) := by decide +kernel
theorem dX10_volume_179 : decode cX10_volume 179 = .ok (.if_icmp .ne 31, 3) := by decide +kernel
theorem dX10_volume_182 : decode cX10_volume 182 = .ok (.aload_n 0, 1) := by decide +kernel
theorem dX10_volume_183 : decode cX10_volume 183 = .ok (.getfield 63, 3) := by decide +kernel
theorem dX10_volume_186 : decode cX10_volume 186 = .ok (.iconst 1, 1) := by decide +kernel
theorem dX10_volume_187 : decode cX10_volume 187 = .ok (.if_icmp .eq 19, 3) := by decide +kernel
theorem dX10_volume_190 : decode cX10_volume 190 = .ok (.aload_n 0, 1) := by decide +kernel
theorem dX10_volume_191 : decode cX10_volume 191 = .ok (.getfield 63, 3) := by decide +kernel
theorem dX10_volume_194 : decode cX10_volume 194 = .ok (.iconst 2, 1) := by decide +kernel
theorem dX10_volume_195 : decode cX10_volume 195 = .ok (.if_icmp .eq 11, 3) := by decide +kernel
theorem dX10_volume_198 : decode cX10_volume 198 = .ok (.aload_n 0, 1) := by decide +kernel
theorem dX10_volume_199 : decode cX10_volume 199 = .ok (.getfield 63, 3) := by decide +kernel
theorem dX10_volume_202 : decode cX10_volume 202 = .ok (.iconst 4, 1) := by decide +kernel
theorem dX10_volume_203 : decode cX10_volume 203 = .ok (.if_icmp .ne 7, 3) := by decide +kernel
theorem dX10_volume_206 : decode cX10_volume 206 = .ok (.iconst 1, 1) := by decide +kernel
theorem dX10_volume_207 : decode cX10_volume 207 = .ok (.goto 4, 3) := by decide +kernel
theorem dX10_volume_210 : decode cX10_volume 210 = .ok (.iconst 0, 1) := by decide +kernel
theorem dX10_volume_211 : decode cX10_volume 211 = .ok (.istore 5, 2) := by decide +kernel
theorem dX10_volume_213 : decode cX10_volume 213 = .ok (.iload 5, 2) := by decide +kernel
theorem dX10_volume_215 : decode cX10_volume 215 = .ok (.ifCond .eq 33, 3) := by decide +kernel
theorem dX10_volume_218 : decode cX10_volume 218 = .ok (.iload 4, 2) := by decide +kernel
theorem dX10_volume_220 : decode cX10_volume 220 = .ok (.iconst 1, 1) := by decide +kernel
theorem dX10_volume_221 : decode cX10_volume 221 = .ok (.if_icmp .lt 27, 3) := by decide +kernel
theorem dX10_volume_224 : decode cX10_volume 224 = .ok (.aload_n 0, 1) := by decide +kernel
theorem dX10_volume_225 : decode cX10_volume 225 = .ok (.getfield 66, 3) := by decide +kernel
theorem dX10_volume_228 : decode cX10_volume 228 = .ok (.iconst 1, 1) := by decide +kernel
theorem dX10_volume_229 : decode cX10_volume 229 = .ok (.if_icmp .lt 19, 3) := by decide +kernel
theorem dX10_volume_232 : decode cX10_volume 232 = .ok (.aload_n 0, 1) := by decide +kernel
theorem dX10_volume_233 : decode cX10_volume 233 = .ok (.getfield 66, 3) := by decide +kernel
theorem dX10_volume_236 : decode cX10_volume 236 = .ok (.iconst 2, 1) := by decide +kernel
theorem dX10_volume_237 : decode cX10_volume 237 = .ok (.if_icmp .gt 11, 3) := by decide +kernel
theorem dX10_volume_240 : decode cX10_volume 240 = .ok (.aload_n 0, 1) := by decide +kernel
theorem dX10_volume_241 : decode cX10_volume 241 = .ok (.getfield 69, 3) := by decide +kernel
theorem dX10_volume_244 : decode cX10_volume 244 = .ok (.iconst 1, 1) := by decide +kernel
theorem dX10_volume_245 : decode cX10_volume 245 = .ok (.if_icmp .ge 6, 3) := by decide +kernel
theorem dX10_volume_248 : decode cX10_volume 248 = .ok (.bipush (-4), 2) := by decide +kernel
theorem dX10_volume_250 : decode cX10_volume 250 = .ok (.ireturn, 1) := by decide +kernel
theorem dX10_volume_251 : decode cX10_volume 251 = .ok (.iload_n 2, 1) := by decide +kernel
theorem dX10_volume_252 : decode cX10_volume 252 = .ok (.iload 4, 2) := by decide +kernel
theorem dX10_volume_254 : decode cX10_volume 254 = .ok (.isub, 1) := by decide +kernel
theorem dX10_volume_255 : decode cX10_volume 255 = .ok (.aload_n 0, 1) := by decide +kernel
theorem dX10_volume_256 : decode cX10_volume 256 = .ok (.getfield 66, 3) := by decide +kernel
theorem dX10_volume_259 : decode cX10_volume 259 = .ok (.aload_n 0, 1) := by decide +kernel
theorem dX10_volume_260 : decode cX10_volume 260 = .ok (.getfield 69, 3) := by decide +kernel
theorem dX10_volume_263 : decode cX10_volume 263 = .ok (.imul, 1) := by decide +kernel
theorem dX10_volume_264 : decode cX10_volume 264 = .ok (.isub, 1) := by decide +kernel
theorem dX10_volume_265 : decode cX10_volume 265 = .ok (.istore 6, 2) := by decide +kernel
theorem dX10_volume_267 : decode cX10_volume 267 = .ok (.aload_n 0, 1) := by decide +kernel
theorem dX10_volume_268 : decode cX10_volume 268 = .ok (.iload 6, 2) := by decide +kernel
theorem dX10_volume_270 : decode cX10_volume 270 = .ok (.ifCond .ge 7, 3) := by decide +kernel
theorem dX10_volume_273 : decode cX10_volume 273 = .ok (.iconst 0, 1) := by decide +kernel
theorem dX10_volume_274 : decode cX10_volume 274 = .ok (.goto 10, 3) := by decide +kernel
theorem dX10_volume_277 : decode cX10_volume 277 = .ok (.iload 6, 2) := by decide +kernel
theorem dX10_volume_279 : decode cX10_volume 279 = .ok (.aload_n 0, 1) := by decide +kernel
theorem dX10_volume_280 : decode cX10_volume 280 = .ok (.getfield 63, 3) := by decide +kernel
theorem dX10_volume_283 : decode cX10_volume 283 = .ok (.idiv, 1) := by decide +kernel
theorem dX10_volume_284 : decode cX10_volume 284 = .ok (.putfield 75, 3) := by decide +kernel
theorem dX10_volume_287 : decode cX10_volume 287 = .ok (.aload_n 0, 1) := by decide +kernel
theorem dX10_volume_288 : decode cX10_volume 288 = .ok (.bipush 32, 2) := by decide +kernel
theorem dX10_volume_290 : decode cX10_volume 290 = .ok (.iload_n 1, 1) := by decide +kernel
theorem dX10_volume_291 : decode cX10_volume 291 = .ok (.iload 4, 2) := by decide +kernel
theorem dX10_volume_293 : decode cX10_volume 293 = .ok (.iadd, 1) := by decide +kernel
theorem dX10_volume_294 : decode cX10_volume 294 = .ok (.imul, 1) := by decide +kernel
theorem dX10_volume_295 : decode cX10_volume 295 = .ok (.putfield 78, 3) := by decide +kernel
theorem dX10_volume_298 : decode cX10_volume 298 = .ok (.aload_n 0, 1) := by decide +kernel
theorem dX10_volume_299 : decode cX10_volume 299 = .ok (.aload_n 0, 1) := by decide +kernel
theorem dX10_volume_300 : decode cX10_volume 300 = .ok (.getfield 78, 3) := by decide +kernel
theorem dX10_volume_303 : decode cX10_volume 303 = .ok (.bipush 32, 2) := by decide +kernel
theorem dX10_volume_305 : decode cX10_volume 305 = .ok (.aload_n 0, 1) := by decide +kernel
theorem dX10_volume_306 : decode cX10_volume 306 = .ok (.getfield 66, 3) := by decide +kernel
theorem dX10_volume_309 : decode cX10_volume 309 = .ok (.imul, 1) := by decide +kernel
theorem dX10_volume_310 : decode cX10_volume 310 = .ok (.aload_n 0, 1) := by decide +kernel
theorem dX10_volume_311 : decode cX10_volume 311 = .ok (.getfield 69, 3) := by decide +kernel
theorem dX10_volume_314 : decode cX10_volume 314 = .ok (.imul, 1) := by decide +kernel
theorem dX10_volume_315 : decode cX10_volume 315 = .ok (.iadd, 1) := by decide +kernel
theorem dX10_volume_316 : decode cX10_volume 316 = .ok (.putfield 81, 3) := by decide +kernel
theorem dX10_volume_319 : decode cX10_volume 319 = .ok (.aload_n 0, 1) := by decide +kernel
theorem dX10_volume_320 : decode cX10_volume 320 = .ok (.getfield 75, 3) := by decide +kernel
theorem dX10_volume_323 : decode cX10_volume 323 = .ok (.iconst 1, 1) := by decide +kernel
theorem dX10_volume_324 : decode cX10_volume 324 = .ok (.if_icmp .lt 40, 3) := by decide +kernel
theorem dX10_volume_327 : decode cX10_volume 327 = .ok (.bipush 16, 2) := by decide +kernel
theorem dX10_volume_329 : decode cX10_volume 329 = .ok (.aload_n 0, 1) := by decide +kernel
theorem dX10_volume_330 : decode cX10_volume 330 = .ok (.getfield 69, 3) := by decide +kernel
theorem dX10_volume_333 : decode cX10_volume 333 = .ok (.imul, 1) := by decide +kernel
theorem dX10_volume_334 : decode cX10_volume 334 = .ok (.aload_n 0, 1) := by decide +kernel
theorem dX10_volume_335 : decode cX10_volume 335 = .ok (.getfield 75, 3) := by decide +kernel
theorem dX10_volume_338 : decode cX10_volume 338 = .ok (.iconst 2, 1) := by decide +kernel
theorem dX10_volume_339 : decode cX10_volume 339 = .ok (.iadd, 1) := by decide +kernel
theorem dX10_volume_340 : decode cX10_volume 340 = .ok (.if_icmp .lt 24, 3) := by decide +kernel
theorem dX10_volume_343 : decode cX10_volume 343 = .ok (.aload_n 0, 1) := by decide +kernel
theorem dX10_volume_344 : decode cX10_volume 344 = .ok (.getfield 72, 3) := by decide +kernel
theorem dX10_volume_347 : decode cX10_volume 347 = .ok (.iconst 2, 1) := by decide +kernel
theorem dX10_volume_348 : decode cX10_volume 348 = .ok (.if_icmp .lt 16, 3) := by decide +kernel
theorem dX10_volume_351 : decode cX10_volume 351 = .ok (.aload_n 0, 1) := by decide +kernel
theorem dX10_volume_352 : decode cX10_volume 352 = .ok (.getfield 72, 3) := by decide +kernel
theorem dX10_volume_355 : decode cX10_volume 355 = .ok (.aload_n 0, 1) := by decide +kernel
theorem dX10_volume_356 : decode cX10_volume 356 = .ok (.getfield 75, 3) := by decide +kernel
theorem dX10_volume_359 : decode cX10_volume 359 = .ok (.iconst 1, 1) := by decide +kernel
theorem dX10_volume_360 : decode cX10_volume 360 = .ok (.iadd, 1) := by decide +kernel
theorem dX10_volume_361 : decode cX10_volume 361 = .ok (.if_icmp .le 6, 3) := by decide +kernel
theorem dX10_volume_364 : decode cX10_volume 364 = .ok (.bipush (-4), 2) := by decide +kernel
theorem dX10_volume_366 : decode cX10_volume 366 = .ok (.ireturn, 1) := by decide +kernel
theorem dX10_volume_367 : decode cX10_volume 367 = .ok (.aload_n 0, 1) := by decide +kernel
theorem dX10_volume_368 : decode cX10_volume 368 = .ok (.getfield 75, 3) := by decide +kernel
theorem dX10_volume_371 : decode cX10_volume 371 = .ok (.ireturn, 1) := by decide +kernel
theorem dX10_isCluster_0 : decode cX10_isCluster 0 = .ok (.iload_n 1, 1) := by decide +kernel
theorem dX10_isCluster_1 : decode cX10_isCluster 1 = .ok (.iconst 2, 1) := by decide +kernel
theorem dX10_isCluster_2 : decode cX10_isCluster 2 = .ok (.if_icmp .lt 17, 3) := by decide +kernel
theorem dX10_isCluster_5 : decode cX10_isCluster 5 = .ok (.iload_n 1, 1) := by decide +kernel
theorem dX10_isCluster_6 : decode cX10_isCluster 6 = .ok (.aload_n 0, 1) := by decide +kernel
theorem dX10_isCluster_7 : decode cX10_isCluster 7 = .ok (.getfield 75, 3) := by decide +kernel
theorem dX10_isCluster_10 : decode cX10_isCluster 10 = .ok (.iconst 1, 1) := by decide +kernel
theorem dX10_isCluster_11 : decode cX10_isCluster 11 = .ok (.iadd, 1) := by decide +kernel
theorem dX10_isCluster_12 : decode cX10_isCluster 12 = .ok (.if_icmp .gt 7, 3) := by decide +kernel
theorem dX10_isCluster_15 : decode cX10_isCluster 15 = .ok (.iconst 1, 1) := by decide +kernel
theorem dX10_isCluster_16 : decode cX10_isCluster 16 = .ok (.goto 4, 3) := by decide +kernel
theorem dX10_isCluster_19 : decode cX10_isCluster 19 = .ok (.iconst 0, 1) := by decide +kernel
theorem dX10_isCluster_20 : decode cX10_isCluster 20 = .ok (.ireturn, 1) := by decide +kernel
set_option maxRecDepth 20000 in
theorem ggX10_behind_X10_word : GoodIn wsX10_behind wsX10_word := goodIn_r _ [8, 9, 15, 16, 17, 18, 19, 20, 21, 22, 23, 24, 25, 26, 27, 28, 29, 30, 31, 32, 33, 34, 35, 36, 37, 38, 39, 40] (by decide +kernel) (by decide +kernel)
set_option maxRecDepth 20000 in
theorem gX10_behind_X10_word : GoodIn wsX10_behind (wsV RX10 47 RX10 yX10_word wsX10_word) := goodIn_app (goodIn_of _ (by decide +kernel)) ggX10_behind_X10_word
set_option maxRecDepth 20000 in
theorem ggX10_behind_X10_isCluster : GoodIn wsX10_behind wsX10_isCluster := goodIn_r _ [13, 14, 15, 16, 17, 18, 19, 20, 21, 22, 23, 24, 25, 26, 27, 28, 29, 30, 31, 32, 33, 34, 35, 36, 37, 38, 39, 40] (by decide +kernel) (by decide +kernel)
set_option maxRecDepth 20000 in
theorem gX10_behind_X10_isCluster : GoodIn wsX10_behind (wsV RX10 84 RX10 yX10_isCluster wsX10_isCluster) := goodIn_app (goodIn_of _ (by decide +kernel)) ggX10_behind_X10_isCluster
theorem dX10_behind_0 : decode cX10_behind 0 = .ok (.aload_n 0, 1) := by decide +kernel
theorem dX10_behind_1 : decode cX10_behind 1 = .ok (.aload_n 0, 1) := by decide +kernel
theorem dX10_behind_2 : decode cX10_behind 2 = .ok (.getfield 78, 3) := by decide +kernel
theorem dX10_behind_5 : decode cX10_behind 5 = .ok (.iconst 2, 1) := by decide +kernel
theorem dX10_behind_6 : decode cX10_behind 6 = .ok (.iload_n 1, 1) := by decide +kernel
theorem dX10_behind_7 : decode cX10_behind 7 = .ok (.imul, 1) := by decide +kernel
theorem dX10_behind_8 : decode cX10_behind 8 = .ok (.iadd, 1) := by decide +kernel
theorem dX10_behind_9 : decode cX10_behind 9 = .ok (.invokevirtual 47, 3) := by decide +kernel
theorem dX10_behind_12 : decode cX10_behind 12 = .ok (.sipush 4095, 3) := by decide +kernel
theorem dX10_behind_15 : decode cX10_behind 15 = .ok (.iand, 1) := by decide +kernel
theorem dX10_behind_16 : decode cX10_behind 16 = .ok (.istore_n 2, 1) := by decide +kernel
theorem dX10_behind_17 : decode cX10_behind 17 = .ok (.aload_n 0, 1) := by decide +kernel
theorem dX10_behind_18 : decode cX10_behind 18 = .ok (.iload_n 2, 1) := by decide +kernel
theorem dX10_behind_19 : decode cX10_behind 19 = .ok (.invokevirtual 84, 3) := by decide +kernel
theorem dX10_behind_22 : decode cX10_behind 22 = .ok (.ifCond .ne 18, 3) := by decide +kernel
theorem dX10_behind_25 : decode cX10_behind 25 = .ok (.iload_n 2, 1) := by decide +kernel
theorem dX10_behind_26 : decode cX10_behind 26 = .ok (.sipush 4088, 3) := by decide +kernel
theorem dX10_behind_29 : decode cX10_behind 29 = .ok (.if_icmp .ge 11, 3) := by decide +kernel
theorem dX10_behind_32 : decode cX10_behind 32 = .ok (.aload_n 0, 1) := by decide +kernel
theorem dX10_behind_33 : decode cX10_behind 33 = .ok (.getfield 66, 3) := by decide +kernel
theorem dX10_behind_36 : decode cX10_behind 36 = .ok (.iconst 1, 1) := by decide +kernel
theorem dX10_behind_37 : decode cX10_behind 37 = .ok (.if_icmp .ne 5, 3) := by decide +kernel
theorem dX10_behind_40 : decode cX10_behind 40 = .ok (.iload_n 2, 1) := by decide +kernel
theorem dX10_behind_41 : decode cX10_behind 41 = .ok (.ireturn, 1) := by decide +kernel
theorem dX10_behind_42 : decode cX10_behind 42 = .ok (.aload_n 0, 1) := by decide +kernel
theorem dX10_behind_43 : decode cX10_behind 43 = .ok (.aload_n 0, 1) := by decide +kernel
theorem dX10_behind_44 : decode cX10_behind 44 = .ok (.getfield 78, 3) := by decide +kernel
theorem dX10_behind_47 : decode cX10_behind 47 = .ok (.bipush 32, 2) := by decide +kernel
theorem dX10_behind_49 : decode cX10_behind 49 = .ok (.aload_n 0, 1) := by decide +kernel
theorem dX10_behind_50 : decode cX10_behind 50 = .ok (.getfield 69, 3) := by decide +kernel
theorem dX10_behind_53 : decode cX10_behind 53 = .ok (.imul, 1) := by decide +kernel
theorem dX10_behind_54 : decode cX10_behind 54 = .ok (.iadd, 1) := by decide +kernel
theorem dX10_behind_55 : decode cX10_behind 55 = .ok (.iconst 2, 1) := by decide +kernel
theorem dX10_behind_56 : decode cX10_behind 56 = .ok (.iload_n 1, 1) := by decide +kernel
theorem dX10_behind_57 : decode cX10_behind 57 = .ok (.imul, 1) := by decide +kernel
theorem dX10_behind_58 : decode cX10_behind 58 = .ok (.iadd, 1) := by decide +kernel
theorem dX10_behind_59 : decode cX10_behind 59 = .ok (.invokevirtual 47, 3) := by decide +kernel
theorem dX10_behind_62 : decode cX10_behind 62 = .ok (.sipush 4095, 3) := by decide +kernel
theorem dX10_behind_65 : decode cX10_behind 65 = .ok (.iand, 1) := by decide +kernel
theorem dX10_behind_66 : decode cX10_behind 66 = .ok (.ireturn, 1) := by decide +kernel
set_option maxRecDepth 20000 in
theorem ggX10_chain_X10_isCluster : GoodIn wsX10_chain wsX10_isCluster := goodIn_r _ [6, 1, 19, 20, 21, 22, 23, 24, 25, 26, 27, 28, 29, 30, 31, 32, 33, 34, 35, 36, 37, 38, 39, 40, 41, 42, 43, 44] (by decide +kernel) (by decide +kernel)
set_option maxRecDepth 20000 in
theorem gX10_chain_X10_isCluster : GoodIn wsX10_chain (wsV RX10 84 RX10 yX10_isCluster wsX10_isCluster) := goodIn_app (goodIn_of _ (by decide +kernel)) ggX10_chain_X10_isCluster
set_option maxRecDepth 20000 in
theorem ggX10_chain_X10_behind : GoodIn wsX10_chain wsX10_behind := goodIn_r _ [10, 11, 12, 13, 14, 15, 16, 5, 17, 18, 2, 3, 4, 6, 1, 19, 20, 21, 22, 23, 24, 25, 26, 27, 28, 29, 30, 31, 32, 33, 34, 35, 36, 37, 38, 39, 40, 41, 42, 43, 44] (by decide +kernel) (by decide +kernel)
set_option maxRecDepth 20000 in
theorem gX10_chain_X10_behind : GoodIn wsX10_chain (wsV RX10 87 RX10 yX10_behind wsX10_behind) := goodIn_app (goodIn_of _ (by decide +kernel)) ggX10_chain_X10_behind
theorem dX10_chain_0 : decode cX10_chain 0 = .ok (.iload_n 1, 1) := by decide +kernel
theorem dX10_chain_1 : decode cX10_chain 1 = .ok (.istore_n 2, 1) := by decide +kernel
theorem dX10_chain_2 : decode cX10_chain 2 = .ok (.iconst 0, 1) := by decide +kernel
theorem dX10_chain_3 : decode cX10_chain 3 = .ok (.istore_n 3, 1) := by decide +kernel
theorem dX10_chain_4 : decode cX10_chain 4 = .ok (.iload_n 3, 1) := by decide +kernel
theorem dX10_chain_5 : decode cX10_chain 5 = .ok (.aload_n 0, 1) := by decide +kernel
theorem dX10_chain_6 : decode cX10_chain 6 = .ok (.getfield 75, 3) := by decide +kernel
theorem dX10_chain_9 : decode cX10_chain 9 = .ok (.if_icmp .gt 40, 3) := by decide +kernel
theorem dX10_chain_12 : decode cX10_chain 12 = .ok (.aload_n 0, 1) := by decide +kernel
theorem dX10_chain_13 : decode cX10_chain 13 = .ok (.iload_n 2, 1) := by decide +kernel
theorem dX10_chain_14 : decode cX10_chain 14 = .ok (.invokevirtual 84, 3) := by decide +kernel
theorem dX10_chain_17 : decode cX10_chain 17 = .ok (.ifCond .ne 20, 3) := by decide +kernel
theorem dX10_chain_20 : decode cX10_chain 20 = .ok (.iload_n 3, 1) := by decide +kernel
theorem dX10_chain_21 : decode cX10_chain 21 = .ok (.ifCond .le 14, 3) := by decide +kernel
theorem dX10_chain_24 : decode cX10_chain 24 = .ok (.iload_n 2, 1) := by decide +kernel
theorem dX10_chain_25 : decode cX10_chain 25 = .ok (.sipush 4088, 3) := by decide +kernel
theorem dX10_chain_28 : decode cX10_chain 28 = .ok (.if_icmp .lt 7, 3) := by decide +kernel
theorem dX10_chain_31 : decode cX10_chain 31 = .ok (.iload_n 3, 1) := by decide +kernel
theorem dX10_chain_32 : decode cX10_chain 32 = .ok (.goto 4, 3) := by decide +kernel
theorem dX10_chain_35 : decode cX10_chain 35 = .ok (.iconst (-1), 1) := by decide +kernel
theorem dX10_chain_36 : decode cX10_chain 36 = .ok (.ireturn, 1) := by decide +kernel
theorem dX10_chain_37 : decode cX10_chain 37 = .ok (.aload_n 0, 1) := by decide +kernel
theorem dX10_chain_38 : decode cX10_chain 38 = .ok (.iload_n 2, 1) := by decide +kernel
theorem dX10_chain_39 : decode cX10_chain 39 = .ok (.invokevirtual 87, 3) := by decide +kernel
theorem dX10_chain_42 : decode cX10_chain 42 = .ok (.istore_n 2, 1) := by decide +kernel
theorem dX10_chain_43 : decode cX10_chain 43 = .ok (.iinc 3 1, 3) := by decide +kernel
theorem dX10_chain_46 : decode cX10_chain 46 = .ok (.goto (-42), 3) := by decide +kernel
theorem dX10_chain_49 : decode cX10_chain 49 = .ok (.iconst (-1), 1) := by decide +kernel
theorem dX10_chain_50 : decode cX10_chain 50 = .ok (.ireturn, 1) := by decide +kernel
set_option maxRecDepth 20000 in
theorem ggX10_place_X10_behind : GoodIn wsX10_place wsX10_behind := goodIn_r _ [7, 8, 9, 10, 11, 12, 13, 6, 14, 15, 16, 17, 18, 19, 20, 21, 22, 23, 24, 25, 26, 27, 28, 29, 30, 31, 32, 33, 34, 35, 36, 37, 38, 39, 40, 41, 42, 43, 44, 45, 46] (by decide +kernel) (by decide +kernel)
set_option maxRecDepth 20000 in
theorem gX10_place_X10_behind : GoodIn wsX10_place (wsV RX10 87 RX10 yX10_behind wsX10_behind) := goodIn_app (goodIn_of _ (by decide +kernel)) ggX10_place_X10_behind
theorem dX10_place_0 : decode cX10_place 0 = .ok (.bipush 32, 2) := by decide +kernel
theorem dX10_place_2 : decode cX10_place 2 = .ok (.aload_n 0, 1) := by decide +kernel
theorem dX10_place_3 : decode cX10_place 3 = .ok (.getfield 63, 3) := by decide +kernel
theorem dX10_place_6 : decode cX10_place 6 = .ok (.imul, 1) := by decide +kernel
theorem dX10_place_7 : decode cX10_place 7 = .ok (.istore_n 3, 1) := by decide +kernel
theorem dX10_place_8 : decode cX10_place 8 = .ok (.iload_n 1, 1) := by decide +kernel
theorem dX10_place_9 : decode cX10_place 9 = .ok (.istore 4, 2) := by decide +kernel
theorem dX10_place_11 : decode cX10_place 11 = .ok (.iload_n 2, 1) := by decide +kernel
theorem dX10_place_12 : decode cX10_place 12 = .ok (.iload_n 3, 1) := by decide +kernel
theorem dX10_place_13 : decode cX10_place 13 = .ok (.idiv, 1) := by decide +kernel
theorem dX10_place_14 : decode cX10_place 14 = .ok (.istore 5, 2) := by decide +kernel
theorem dX10_place_16 : decode cX10_place 16 = .ok (.iload 5, 2) := by decide +kernel
theorem dX10_place_18 : decode cX10_place 18 = .ok (.ifCond .le 17, 3) := by decide +kernel
theorem dX10_place_21 : decode cX10_place 21 = .ok (.aload_n 0, 1) := by decide +kernel
theorem dX10_place_22 : decode cX10_place 22 = .ok (.iload 4, 2) := by decide +kernel
theorem dX10_place_24 : decode cX10_place 24 = .ok (.invokevirtual 87, 3) := by decide +kernel
theorem dX10_place_27 : decode cX10_place 27 = .ok (.istore 4, 2) := by decide +kernel
theorem dX10_place_29 : decode cX10_place 29 = .ok (.iinc 5 (-1), 3) := by decide +kernel
theorem dX10_place_32 : decode cX10_place 32 = .ok (.goto (-16), 3) := by decide +kernel
theorem dX10_place_35 : decode cX10_place 35 = .ok (.aload_n 0, 1) := by decide +kernel
theorem dX10_place_36 : decode cX10_place 36 = .ok (.getfield 81, 3) := by decide +kernel
theorem dX10_place_39 : decode cX10_place 39 = .ok (.iload 4, 2) := by decide +kernel
theorem dX10_place_41 : decode cX10_place 41 = .ok (.iconst 2, 1) := by decide +kernel
theorem dX10_place_42 : decode cX10_place 42 = .ok (.isub, 1) := by decide +kernel
theorem dX10_place_43 : decode cX10_place 43 = .ok (.iload_n 3, 1) := by decide +kernel
theorem dX10_place_44 : decode cX10_place 44 = .ok (.imul, 1) := by decide +kernel
theorem dX10_place_45 : decode cX10_place 45 = .ok (.iadd, 1) := by decide +kernel
theorem dX10_place_46 : decode cX10_place 46 = .ok (.iload_n 2, 1) := by decide +kernel
theorem dX10_place_47 : decode cX10_place 47 = .ok (.iload_n 3, 1) := by decide +kernel
theorem dX10_place_48 : decode cX10_place 48 = .ok (.irem, 1) := by decide +kernel
theorem dX10_place_49 : decode cX10_place 49 = .ok (.iadd, 1) := by decide +kernel
theorem dX10_place_50 : decode cX10_place 50 = .ok (.ireturn, 1) := by decide +kernel
theorem dX10_isPassed_0 : decode cX10_isPassed 0 = .ok (.aload_n 0, 1) := by decide +kernel
theorem dX10_isPassed_1 : decode cX10_isPassed 1 = .ok (.getfield 7, 3) := by decide +kernel
theorem dX10_isPassed_4 : decode cX10_isPassed 4 = .ok (.iload_n 1, 1) := by decide +kernel
theorem dX10_isPassed_5 : decode cX10_isPassed 5 = .ok (.iaload, 1) := by decide +kernel
theorem dX10_isPassed_6 : decode cX10_isPassed 6 = .ok (.sipush 229, 3) := by decide +kernel
theorem dX10_isPassed_9 : decode cX10_isPassed 9 = .ok (.if_icmp .eq 17, 3) := by decide +kernel
theorem dX10_isPassed_12 : decode cX10_isPassed 12 = .ok (.aload_n 0, 1) := by decide +kernel
theorem dX10_isPassed_13 : decode cX10_isPassed 13 = .ok (.getfield 7, 3) := by decide +kernel
theorem dX10_isPassed_16 : decode cX10_isPassed 16 = .ok (.iload_n 1, 1) := by decide +kernel
theorem dX10_isPassed_17 : decode cX10_isPassed 17 = .ok (.iconst 4, 1) := by decide +kernel
theorem dX10_isPassed_18 : decode cX10_isPassed 18 = .ok (.iadd, 1) := by decide +kernel
theorem dX10_isPassed_19 : decode cX10_isPassed 19 = .ok (.iaload, 1) := by decide +kernel
theorem dX10_isPassed_20 : decode cX10_isPassed 20 = .ok (.bipush 8, 2) := by decide +kernel
theorem dX10_isPassed_22 : decode cX10_isPassed 22 = .ok (.iand, 1) := by decide +kernel
theorem dX10_isPassed_23 : decode cX10_isPassed 23 = .ok (.ifCond .eq 7, 3) := by decide +kernel
theorem dX10_isPassed_26 : decode cX10_isPassed 26 = .ok (.iconst 1, 1) := by decide +kernel
theorem dX10_isPassed_27 : decode cX10_isPassed 27 = .ok (.goto 4, 3) := by decide +kernel
theorem dX10_isPassed_30 : decode cX10_isPassed 30 = .ok (.iconst 0, 1) := by decide +kernel
theorem dX10_isPassed_31 : decode cX10_isPassed 31 = .ok (.ireturn, 1) := by decide +kernel
theorem dX10_isDirectory_0 : decode cX10_isDirectory 0 = .ok (.aload_n 0, 1) := by decide +kernel
theorem dX10_isDirectory_1 : decode cX10_isDirectory 1 = .ok (.getfield 7, 3) := by decide +kernel
theorem dX10_isDirectory_4 : decode cX10_isDirectory 4 = .ok (.iload_n 1, 1) := by decide +kernel
theorem dX10_isDirectory_5 : decode cX10_isDirectory 5 = .ok (.iconst 4, 1) := by decide +kernel
theorem dX10_isDirectory_6 : decode cX10_isDirectory 6 = .ok (.iadd, 1) := by decide +kernel
theorem dX10_isDirectory_7 : decode cX10_isDirectory 7 = .ok (.iaload, 1) := by decide +kernel
theorem dX10_isDirectory_8 : decode cX10_isDirectory 8 = .ok (.bipush 16, 2) := by decide +kernel
theorem dX10_isDirectory_10 : decode cX10_isDirectory 10 = .ok (.iand, 1) := by decide +kernel
theorem dX10_isDirectory_11 : decode cX10_isDirectory 11 = .ok (.ifCond .eq 7, 3) := by decide +kernel
theorem dX10_isDirectory_14 : decode cX10_isDirectory 14 = .ok (.iconst 1, 1) := by decide +kernel
theorem dX10_isDirectory_15 : decode cX10_isDirectory 15 = .ok (.goto 4, 3) := by decide +kernel
theorem dX10_isDirectory_18 : decode cX10_isDirectory 18 = .ok (.iconst 0, 1) := by decide +kernel
theorem dX10_isDirectory_19 : decode cX10_isDirectory 19 = .ok (.ireturn, 1) := by decide +kernel
set_option maxRecDepth 20000 in
theorem ggX10_sizeAt_X10_word : GoodIn wsX10_sizeAt wsX10_word := goodIn_r _ [5, 6, 7, 8, 9, 10, 11, 12, 13, 14, 15, 16, 17, 18, 19, 20, 21, 22, 23, 24, 25, 26, 27, 28, 29, 30, 31, 32] (by decide +kernel) (by decide +kernel)
set_option maxRecDepth 20000 in
theorem gX10_sizeAt_X10_word : GoodIn wsX10_sizeAt (wsV RX10 47 RX10 yX10_word wsX10_word) := goodIn_app (goodIn_of _ (by decide +kernel)) ggX10_sizeAt_X10_word
theorem dX10_sizeAt_0 : decode cX10_sizeAt 0 = .ok (.aload_n 0, 1) := by decide +kernel
theorem dX10_sizeAt_1 : decode cX10_sizeAt 1 = .ok (.iload_n 1, 1) := by decide +kernel
theorem dX10_sizeAt_2 : decode cX10_sizeAt 2 = .ok (.bipush 6, 2) := by decide +kernel
theorem dX10_sizeAt_4 : decode cX10_sizeAt 4 = .ok (.iadd, 1) := by decide +kernel
theorem dX10_sizeAt_5 : decode cX10_sizeAt 5 = .ok (.invokevirtual 47, 3) := by decide +kernel
theorem dX10_sizeAt_8 : decode cX10_sizeAt 8 = .ok (.ireturn, 1) := by decide +kernel
set_option maxRecDepth 20000 in
theorem ggX10_nth_X10_place : GoodIn wsX10_nth wsX10_place := goodIn_r _ [7, 1, 8, 9, 10, 11, 6, 12, 13, 14, 15, 16, 17, 18, 19, 2, 20, 21, 22, 23, 24, 25, 26, 27, 28, 29, 30, 31, 32, 33, 34, 35, 36, 37, 38, 39, 40, 41, 42, 43, 44, 45, 46, 47, 48, 49, 50] (by decide +kernel) (by decide +kernel)
set_option maxRecDepth 20000 in
theorem gX10_nth_X10_place : GoodIn wsX10_nth (wsV RX10 90 RX10 yX10_place wsX10_place) := goodIn_app (goodIn_of _ (by decide +kernel)) ggX10_nth_X10_place
theorem dX10_nth_0 : decode cX10_nth 0 = .ok (.iload_n 3, 1) := by decide +kernel
theorem dX10_nth_1 : decode cX10_nth 1 = .ok (.iconst 4, 1) := by decide +kernel
theorem dX10_nth_2 : decode cX10_nth 2 = .ok (.aload_n 0, 1) := by decide +kernel
theorem dX10_nth_3 : decode cX10_nth 3 = .ok (.getfield 63, 3) := by decide +kernel
theorem dX10_nth_6 : decode cX10_nth 6 = .ok (.imul, 1) := by decide +kernel
theorem dX10_nth_7 : decode cX10_nth 7 = .ok (.iload_n 2, 1) := by decide +kernel
theorem dX10_nth_8 : decode cX10_nth 8 = .ok (.imul, 1) := by decide +kernel
theorem dX10_nth_9 : decode cX10_nth 9 = .ok (.if_icmp .lt 5, 3) := by decide +kernel
theorem dX10_nth_12 : decode cX10_nth 12 = .ok (.iconst (-1), 1) := by decide +kernel
theorem dX10_nth_13 : decode cX10_nth 13 = .ok (.ireturn, 1) := by decide +kernel
theorem dX10_nth_14 : decode cX10_nth 14 = .ok (.aload_n 0, 1) := by decide +kernel
theorem dX10_nth_15 : decode cX10_nth 15 = .ok (.iload_n 1, 1) := by decide +kernel
theorem dX10_nth_16 : decode cX10_nth 16 = .ok (.bipush 8, 2) := by decide +kernel
theorem dX10_nth_18 : decode cX10_nth 18 = .ok (.iload_n 3, 1) := by decide +kernel
theorem dX10_nth_19 : decode cX10_nth 19 = .ok (.imul, 1) := by decide +kernel
theorem dX10_nth_20 : decode cX10_nth 20 = .ok (.invokevirtual 90, 3) := by decide +kernel
theorem dX10_nth_23 : decode cX10_nth 23 = .ok (.istore 4, 2) := by decide +kernel
theorem dX10_nth_25 : decode cX10_nth 25 = .ok (.aload_n 0, 1) := by decide +kernel
theorem dX10_nth_26 : decode cX10_nth 26 = .ok (.getfield 7, 3) := by decide +kernel
theorem dX10_nth_29 : decode cX10_nth 29 = .ok (.iload 4, 2) := by decide +kernel
theorem dX10_nth_31 : decode cX10_nth 31 = .ok (.iaload, 1) := by decide +kernel
theorem dX10_nth_32 : decode cX10_nth 32 = .ok (.ifCond .ne 7, 3) := by decide +kernel
theorem dX10_nth_35 : decode cX10_nth 35 = .ok (.iconst (-1), 1) := by decide +kernel
theorem dX10_nth_36 : decode cX10_nth 36 = .ok (.goto 5, 3) := by decide +kernel
theorem dX10_nth_39 : decode cX10_nth 39 = .ok (.iload 4, 2) := by decide +kernel
theorem dX10_nth_41 : decode cX10_nth 41 = .ok (.ireturn, 1) := by decide +kernel
set_option maxRecDepth 20000 in
theorem ggX10_lookUp_X10_chain : GoodIn wsX10_lookUp wsX10_chain := goodIn_r _ [5, 6, 7, 8, 9, 4, 10, 11, 12, 13, 14, 15, 16, 17, 18, 19, 20, 21, 22, 42, 43, 44, 45, 46, 47, 48, 49, 50, 51, 52, 53, 54, 55, 56, 57, 58, 59, 60, 61, 62, 63, 64, 65, 66, 67] (by decide +kernel) (by decide +kernel)
set_option maxRecDepth 20000 in
theorem gX10_lookUp_X10_chain : GoodIn wsX10_lookUp (wsV RX10 94 RX10 yX10_chain wsX10_chain) := goodIn_app (goodIn_of _ (by decide +kernel)) ggX10_lookUp_X10_chain
set_option maxRecDepth 20000 in
theorem ggX10_lookUp_X10_nth : GoodIn wsX10_lookUp wsX10_nth := goodIn_r _ [26, 27, 22, 28, 29, 30, 4, 31, 32, 11, 12, 13, 14, 15, 16, 17, 18, 19, 20, 21, 7, 8, 9, 10, 6, 42, 43, 44, 45, 46, 47, 48, 49, 50, 51, 52, 53, 54, 55, 56, 57, 58, 59, 60, 61, 62, 63, 64, 65, 66, 67] (by decide +kernel) (by decide +kernel)
set_option maxRecDepth 20000 in
theorem gX10_lookUp_X10_nth : GoodIn wsX10_lookUp (wsV RX10 97 RX10 yX10_nth wsX10_nth) := goodIn_app (goodIn_of _ (by decide +kernel)) ggX10_lookUp_X10_nth
set_option maxRecDepth 20000 in
theorem ggX10_lookUp_X10_isPassed : GoodIn wsX10_lookUp wsX10_isPassed := goodIn_r _ [36, 22, 42, 43, 44, 45, 46, 47, 48, 49, 50, 51, 52, 53, 54, 55, 56, 57, 58, 59, 60, 61, 62, 63, 64, 65, 66, 67] (by decide +kernel) (by decide +kernel)
set_option maxRecDepth 20000 in
theorem gX10_lookUp_X10_isPassed : GoodIn wsX10_lookUp (wsV RX10 101 RX10 yX10_isPassed wsX10_isPassed) := goodIn_app (goodIn_of _ (by decide +kernel)) ggX10_lookUp_X10_isPassed
set_option maxRecDepth 20000 in
theorem ggX10_lookUp_X10_four : GoodIn wsX10_lookUp wsX10_four := goodIn_r _ [40, 41, 18, 19, 20, 4, 21, 22, 42, 43, 44, 45, 46, 47, 48, 49, 50, 51, 52, 53, 54, 55, 56, 57, 58, 59, 60, 61, 62, 63, 64, 65, 66, 67] (by decide +kernel) (by decide +kernel)
set_option maxRecDepth 20000 in
theorem gX10_lookUp_X10_four : GoodIn wsX10_lookUp (wsV RX10 104 RX10 yX10_four wsX10_four) := goodIn_app (goodIn_of _ (by decide +kernel)) ggX10_lookUp_X10_four
theorem dX10_lookUp_0 : decode cX10_lookUp 0 = .ok (.aload_n 0, 1) := by decide +kernel
theorem dX10_lookUp_1 : decode cX10_lookUp 1 = .ok (.iload_n 1, 1) := by decide +kernel
theorem dX10_lookUp_2 : decode cX10_lookUp 2 = .ok (.invokevirtual 94, 3) := by decide +kernel
theorem dX10_lookUp_5 : decode cX10_lookUp 5 = .ok (.istore_n 3, 1) := by decide +kernel
theorem dX10_lookUp_6 : decode cX10_lookUp 6 = .ok (.iload_n 3, 1) := by decide +kernel
theorem dX10_lookUp_7 : decode cX10_lookUp 7 = .ok (.ifCond .ge 6, 3) := by decide +kernel
theorem dX10_lookUp_10 : decode cX10_lookUp 10 = .ok (.bipush (-9), 2) := by decide +kernel
theorem dX10_lookUp_12 : decode cX10_lookUp 12 = .ok (.ireturn, 1) := by decide +kernel
theorem dX10_lookUp_13 : decode cX10_lookUp 13 = .ok (.aload_n 0, 1) := by decide +kernel
theorem dX10_lookUp_14 : decode cX10_lookUp 14 = .ok (.iload_n 1, 1) := by decide +kernel
theorem dX10_lookUp_15 : decode cX10_lookUp 15 = .ok (.iload_n 3, 1) := by decide +kernel
theorem dX10_lookUp_16 : decode cX10_lookUp 16 = .ok (.iconst 0, 1) := by decide +kernel
theorem dX10_lookUp_17 : decode cX10_lookUp 17 = .ok (.invokevirtual 97, 3) := by decide +kernel
theorem dX10_lookUp_20 : decode cX10_lookUp 20 = .ok (.istore 4, 2) := by decide +kernel
theorem dX10_lookUp_22 : decode cX10_lookUp 22 = .ok (.iconst 1, 1) := by decide +kernel
theorem dX10_lookUp_23 : decode cX10_lookUp 23 = .ok (.istore 5, 2) := by decide +kernel
theorem dX10_lookUp_25 : decode cX10_lookUp 25 = .ok (.iload 4, 2) := by decide +kernel
theorem dX10_lookUp_27 : decode cX10_lookUp 27 = .ok (.ifCond .lt 41, 3) := by decide +kernel
theorem dX10_lookUp_30 : decode cX10_lookUp 30 = .ok (.aload_n 0, 1) := by decide +kernel
theorem dX10_lookUp_31 : decode cX10_lookUp 31 = .ok (.iload 4, 2) := by decide +kernel
theorem dX10_lookUp_33 : decode cX10_lookUp 33 = .ok (.invokevirtual 101, 3) := by decide +kernel
theorem dX10_lookUp_36 : decode cX10_lookUp 36 = .ok (.ifCond .ne 16, 3) := by decide +kernel
theorem dX10_lookUp_39 : decode cX10_lookUp 39 = .ok (.aload_n 0, 1) := by decide +kernel
theorem dX10_lookUp_40 : decode cX10_lookUp 40 = .ok (.iload 4, 2) := by decide +kernel
theorem dX10_lookUp_42 : decode cX10_lookUp 42 = .ok (.invokevirtual 104, 3) := by decide +kernel
theorem dX10_lookUp_45 : decode cX10_lookUp 45 = .ok (.iload_n 2, 1) := by decide +kernel
theorem dX10_lookUp_46 : decode cX10_lookUp 46 = .ok (.if_icmp .ne 6, 3) := by decide +kernel
theorem dX10_lookUp_49 : decode cX10_lookUp 49 = .ok (.iload 4, 2) := by decide +kernel
theorem dX10_lookUp_51 : decode cX10_lookUp 51 = .ok (.ireturn, 1) := by decide +kernel
theorem dX10_lookUp_52 : decode cX10_lookUp 52 = .ok (.aload_n 0, 1) := by decide +kernel
theorem dX10_lookUp_53 : decode cX10_lookUp 53 = .ok (.iload_n 1, 1) := by decide +kernel
theorem dX10_lookUp_54 : decode cX10_lookUp 54 = .ok (.iload_n 3, 1) := by decide +kernel
theorem dX10_lookUp_55 : decode cX10_lookUp 55 = .ok (.iload 5, 2) := by decide +kernel
theorem dX10_lookUp_57 : decode cX10_lookUp 57 = .ok (.invokevirtual 97, 3) := by decide +kernel
theorem dX10_lookUp_60 : decode cX10_lookUp 60 = .ok (.istore 4, 2) := by decide +kernel
theorem dX10_lookUp_62 : decode cX10_lookUp 62 = .ok (.iinc 5 1, 3) := by decide +kernel
theorem dX10_lookUp_65 : decode cX10_lookUp 65 = .ok (.goto (-40), 3) := by decide +kernel
theorem dX10_lookUp_68 : decode cX10_lookUp 68 = .ok (.bipush (-6), 2) := by decide +kernel
theorem dX10_lookUp_70 : decode cX10_lookUp 70 = .ok (.ireturn, 1) := by decide +kernel
theorem dX10_isLetter_0 : decode cX10_isLetter 0 = .ok (.iload_n 1, 1) := by decide +kernel
theorem dX10_isLetter_1 : decode cX10_isLetter 1 = .ok (.bipush 65, 2) := by decide +kernel
theorem dX10_isLetter_3 : decode cX10_isLetter 3 = .ok (.if_icmp .lt 9, 3) := by decide +kernel
theorem dX10_isLetter_6 : decode cX10_isLetter 6 = .ok (.iload_n 1, 1) := by decide +kernel
theorem dX10_isLetter_7 : decode cX10_isLetter 7 = .ok (.bipush 90, 2) := by decide +kernel
theorem dX10_isLetter_9 : decode cX10_isLetter 9 = .ok (.if_icmp .le 15, 3) := by decide +kernel
theorem dX10_isLetter_12 : decode cX10_isLetter 12 = .ok (.iload_n 1, 1) := by decide +kernel
theorem dX10_isLetter_13 : decode cX10_isLetter 13 = .ok (.bipush 48, 2) := by decide +kernel
theorem dX10_isLetter_15 : decode cX10_isLetter 15 = .ok (.if_icmp .lt 13, 3) := by decide +kernel
theorem dX10_isLetter_18 : decode cX10_isLetter 18 = .ok (.iload_n 1, 1) := by decide +kernel
theorem dX10_isLetter_19 : decode cX10_isLetter 19 = .ok (.bipush 57, 2) := by decide +kernel
theorem dX10_isLetter_21 : decode cX10_isLetter 21 = .ok (.if_icmp .gt 7, 3) := by decide +kernel
theorem dX10_isLetter_24 : decode cX10_isLetter 24 = .ok (.iconst 1, 1) := by decide +kernel
theorem dX10_isLetter_25 : decode cX10_isLetter 25 = .ok (.goto 4, 3) := by decide +kernel
theorem dX10_isLetter_28 : decode cX10_isLetter 28 = .ok (.iconst 0, 1) := by decide +kernel
theorem dX10_isLetter_29 : decode cX10_isLetter 29 = .ok (.ireturn, 1) := by decide +kernel
set_option maxRecDepth 20000 in
theorem ggX10_parse_X10_isLetter : GoodIn wsX10_parse wsX10_isLetter := goodIn_r _ [9] (by decide +kernel) (by decide +kernel)
set_option maxRecDepth 20000 in
theorem gX10_parse_X10_isLetter : GoodIn wsX10_parse (wsV RX10 113 RX10 yX10_isLetter wsX10_isLetter) := goodIn_app (goodIn_of _ (by decide +kernel)) ggX10_parse_X10_isLetter
theorem dX10_parse_0 : decode cX10_parse 0 = .ok (.aload_n 0, 1) := by decide +kernel
theorem dX10_parse_1 : decode cX10_parse 1 = .ok (.iconst 0, 1) := by decide +kernel
theorem dX10_parse_2 : decode cX10_parse 2 = .ok (.putfield 107, 3) := by decide +kernel
theorem dX10_parse_5 : decode cX10_parse 5 = .ok (.iconst 0, 1) := by decide +kernel
theorem dX10_parse_6 : decode cX10_parse 6 = .ok (.istore_n 1, 1) := by decide +kernel
theorem dX10_parse_7 : decode cX10_parse 7 = .ok (.iconst 0, 1) := by decide +kernel
theorem dX10_parse_8 : decode cX10_parse 8 = .ok (.istore_n 2, 1) := by decide +kernel
theorem dX10_parse_9 : decode cX10_parse 9 = .ok (.iconst 0, 1) := by decide +kernel
theorem dX10_parse_10 : decode cX10_parse 10 = .ok (.istore_n 3, 1) := by decide +kernel
theorem dX10_parse_11 : decode cX10_parse 11 = .ok (.iload_n 3, 1) := by decide +kernel
theorem dX10_parse_12 : decode cX10_parse 12 = .ok (.aload_n 0, 1) := by decide +kernel
theorem dX10_parse_13 : decode cX10_parse 13 = .ok (.getfield 110, 3) := by decide +kernel
theorem dX10_parse_16 : decode cX10_parse 16 = .ok (.if_icmp .gt 145, 3) := by decide +kernel
theorem dX10_parse_19 : decode cX10_parse 19 = .ok (.iload_n 3, 1) := by decide +kernel
theorem dX10_parse_20 : decode cX10_parse 20 = .ok (.aload_n 0, 1) := by decide +kernel
theorem dX10_parse_21 : decode cX10_parse 21 = .ok (.getfield 110, 3) := by decide +kernel
theorem dX10_parse_24 : decode cX10_parse 24 = .ok (.if_icmp .eq 14, 3) := by decide +kernel
theorem dX10_parse_27 : decode cX10_parse 27 = .ok (.aload_n 0, 1) := by decide +kernel
theorem dX10_parse_28 : decode cX10_parse 28 = .ok (.getfield 23, 3) := by decide +kernel
theorem dX10_parse_31 : decode cX10_parse 31 = .ok (.iload_n 3, 1) := by decide +kernel
theorem dX10_parse_32 : decode cX10_parse 32 = .ok (.iaload, 1) := by decide +kernel
theorem dX10_parse_33 : decode cX10_parse 33 = .ok (.bipush 47, 2) := by decide +kernel
theorem dX10_parse_35 : decode cX10_parse 35 = .ok (.if_icmp .ne 7, 3) := by decide +kernel
theorem dX10_parse_38 : decode cX10_parse 38 = .ok (.iconst 1, 1) := by decide +kernel
theorem dX10_parse_39 : decode cX10_parse 39 = .ok (.goto 4, 3) := by decide +kernel
theorem dX10_parse_42 : decode cX10_parse 42 = .ok (.iconst 0, 1) := by decide +kernel
theorem dX10_parse_43 : decode cX10_parse 43 = .ok (.istore 4, 2) := by decide +kernel
theorem dX10_parse_45 : decode cX10_parse 45 = .ok (.iload 4, 2) := by decide +kernel
theorem dX10_parse_47 : decode cX10_parse 47 = .ok (.ifCond .eq 71, 3) := by decide +kernel
theorem dX10_parse_50 : decode cX10_parse 50 = .ok (.iload_n 1, 1) := by decide +kernel
theorem dX10_parse_51 : decode cX10_parse 51 = .ok (.iconst 1, 1) := by decide +kernel
theorem dX10_parse_52 : decode cX10_parse 52 = .ok (.if_icmp .lt 11, 3) := by decide +kernel
theorem dX10_parse_55 : decode cX10_parse 55 = .ok (.aload_n 0, 1) := by decide +kernel
theorem dX10_parse_56 : decode cX10_parse 56 = .ok (.getfield 107, 3) := by decide +kernel
theorem dX10_parse_59 : decode cX10_parse 59 = .ok (.iconst 4, 1) := by decide +kernel
theorem dX10_parse_60 : decode cX10_parse 60 = .ok (.if_icmp .ne 5, 3) := by decide +kernel
theorem dX10_parse_63 : decode cX10_parse 63 = .ok (.iconst 0, 1) := by decide +kernel
theorem dX10_parse_64 : decode cX10_parse 64 = .ok (.ireturn, 1) := by decide +kernel
theorem dX10_parse_65 : decode cX10_parse 65 = .ok (.iload_n 1, 1) := by decide +kernel
theorem dX10_parse_66 : decode cX10_parse 66 = .ok (.istore 5, 2) := by decide +kernel
theorem dX10_parse_68 : decode cX10_parse 68 = .ok (.iload 5, 2) := by decide +kernel
theorem dX10_parse_70 : decode cX10_parse 70 = .ok (.iconst 4, 1) := by decide +kernel
theorem dX10_parse_71 : decode cX10_parse 71 = .ok (.if_icmp .ge 20, 3) := by decide +kernel
theorem dX10_parse_74 : decode cX10_parse 74 = .ok (.iload_n 2, 1) := by decide +kernel
theorem dX10_parse_75 : decode cX10_parse 75 = .ok (.bipush 32, 2) := by decide +kernel
theorem dX10_parse_77 : decode cX10_parse 77 = .ok (.bipush 8, 2) := by decide +kernel
theorem dX10_parse_79 : decode cX10_parse 79 = .ok (.iload 5, 2) := by decide +kernel
theorem dX10_parse_81 : decode cX10_parse 81 = .ok (.imul, 1) := by decide +kernel
theorem dX10_parse_82 : decode cX10_parse 82 = .ok (.ishl, 1) := by decide +kernel
theorem dX10_parse_83 : decode cX10_parse 83 = .ok (.iadd, 1) := by decide +kernel
theorem dX10_parse_84 : decode cX10_parse 84 = .ok (.istore_n 2, 1) := by decide +kernel
theorem dX10_parse_85 : decode cX10_parse 85 = .ok (.iinc 5 1, 3) := by decide +kernel
theorem dX10_parse_88 : decode cX10_parse 88 = .ok (.goto (-20), 3) := by decide +kernel
theorem dX10_parse_91 : decode cX10_parse 91 = .ok (.aload_n 0, 1) := by decide +kernel
theorem dX10_parse_92 : decode cX10_parse 92 = .ok (.getfield 26, 3) := by decide +kernel
theorem dX10_parse_95 : decode cX10_parse 95 = .ok (.aload_n 0, 1) := by decide +kernel
theorem dX10_parse_96 : decode cX10_parse 96 = .ok (.getfield 107, 3) := by decide +kernel
theorem dX10_parse_99 : decode cX10_parse 99 = .ok (.iload_n 2, 1) := by decide +kernel
theorem dX10_parse_100 : decode cX10_parse 100 = .ok (.iastore, 1) := by decide +kernel
theorem dX10_parse_101 : decode cX10_parse 101 = .ok (.aload_n 0, 1) := by decide +kernel
theorem dX10_parse_102 : decode cX10_parse 102 = .ok (.dup, 1) := by decide +kernel
theorem dX10_parse_103 : decode cX10_parse 103 = .ok (.getfield 107, 3) := by decide +kernel
theorem dX10_parse_106 : decode cX10_parse 106 = .ok (.iconst 1, 1) := by decide +kernel
theorem dX10_parse_107 : decode cX10_parse 107 = .ok (.iadd, 1) := by decide +kernel
theorem dX10_parse_108 : decode cX10_parse 108 = .ok (.putfield 107, 3) := by decide +kernel
theorem dX10_parse_111 : decode cX10_parse 111 = .ok (.iconst 0, 1) := by decide +kernel
theorem dX10_parse_112 : decode cX10_parse 112 = .ok (.istore_n 1, 1) := by decide +kernel
theorem dX10_parse_113 : decode cX10_parse 113 = .ok (.iconst 0, 1) := by decide +kernel
theorem dX10_parse_114 : decode cX10_parse 114 = .ok (.istore_n 2, 1) := by decide +kernel
theorem dX10_parse_115 : decode cX10_parse 115 = .ok (.goto 40, 3) := by decide +kernel
theorem dX10_parse_118 : decode cX10_parse 118 = .ok (.aload_n 0, 1) := by decide +kernel
theorem dX10_parse_119 : decode cX10_parse 119 = .ok (.aload_n 0, 1) := by decide +kernel
theorem dX10_parse_120 : decode cX10_parse 120 = .ok (.getfield 23, 3) := by decide +kernel
theorem dX10_parse_123 : decode cX10_parse 123 = .ok (.iload_n 3, 1) := by decide +kernel
theorem dX10_parse_124 : decode cX10_parse 124 = .ok (.iaload, 1) := by decide +kernel
theorem dX10_parse_125 : decode cX10_parse 125 = .ok (.invokevirtual 113, 3) := by decide +kernel
theorem dX10_parse_128 : decode cX10_parse 128 = .ok (.ifCond .eq 8, 3) := by decide +kernel
theorem dX10_parse_131 : decode cX10_parse 131 = .ok (.iload_n 1, 1) := by decide +kernel
theorem dX10_parse_132 : decode cX10_parse 132 = .ok (.iconst 4, 1) := by decide +kernel
theorem dX10_parse_133 : decode cX10_parse 133 = .ok (.if_icmp .ne 5, 3) := by decide +kernel
theorem dX10_parse_136 : decode cX10_parse 136 = .ok (.iconst 0, 1) := by decide +kernel
theorem dX10_parse_137 : decode cX10_parse 137 = .ok (.ireturn, 1) := by decide +kernel
theorem dX10_parse_138 : decode cX10_parse 138 = .ok (.iload_n 2, 1) := by decide +kernel
theorem dX10_parse_139 : decode cX10_parse 139 = .ok (.aload_n 0, 1) := by decide +kernel
theorem dX10_parse_140 : decode cX10_parse 140 = .ok (.getfield 23, 3) := by decide +kernel
theorem dX10_parse_143 : decode cX10_parse 143 = .ok (.iload_n 3, 1) := by decide +kernel
theorem dX10_parse_144 : decode cX10_parse 144 = .ok (.iaload, 1) := by decide +kernel
theorem dX10_parse_145 : decode cX10_parse 145 = .ok (.bipush 8, 2) := by decide +kernel
theorem dX10_parse_147 : decode cX10_parse 147 = .ok (.iload_n 1, 1) := by decide +kernel
theorem dX10_parse_148 : decode cX10_parse 148 = .ok (.imul, 1) := by decide +kernel
theorem dX10_parse_149 : decode cX10_parse 149 = .ok (.ishl, 1) := by decide +kernel
theorem dX10_parse_150 : decode cX10_parse 150 = .ok (.iadd, 1) := by decide +kernel
theorem dX10_parse_151 : decode cX10_parse 151 = .ok (.istore_n 2, 1) := by decide +kernel
theorem dX10_parse_152 : decode cX10_parse 152 = .ok (.iinc 1 1, 3) := by decide +kernel
theorem dX10_parse_155 : decode cX10_parse 155 = .ok (.iinc 3 1, 3) := by decide +kernel
theorem dX10_parse_158 : decode cX10_parse 158 = .ok (.goto (-147), 3) := by decide +kernel
theorem dX10_parse_161 : decode cX10_parse 161 = .ok (.iconst 1, 1) := by decide +kernel
theorem dX10_parse_162 : decode cX10_parse 162 = .ok (.ireturn, 1) := by decide +kernel
set_option maxRecDepth 20000 in
theorem ggX10_find_X10_parse : GoodIn wsX10_find wsX10_parse := goodIn_r _ [9, 2, 10, 11, 3, 12, 13, 14, 8, 15, 63, 64, 65, 66, 67, 68, 69, 70, 71, 72, 73, 74, 75, 76, 77, 78, 79, 80, 81, 82, 83, 84, 85, 86, 87, 88] (by decide +kernel) (by decide +kernel)
set_option maxRecDepth 20000 in
theorem gX10_find_X10_parse : GoodIn wsX10_find (wsV RX10 116 RX10 yX10_parse wsX10_parse) := goodIn_app (goodIn_of _ (by decide +kernel)) ggX10_find_X10_parse
set_option maxRecDepth 20000 in
theorem ggX10_find_X10_lookUp : GoodIn wsX10_find wsX10_lookUp := goodIn_r _ [19, 20, 21, 22, 8, 23, 24, 25, 26, 27, 28, 29, 30, 31, 32, 33, 34, 35, 36, 37, 38, 39, 4, 40, 41, 42, 43, 44, 45, 46, 47, 48, 49, 50, 51, 52, 53, 54, 55, 56, 57, 58, 63, 64, 65, 66, 67, 68, 69, 70, 71, 72, 73, 74, 75, 76, 77, 78, 79, 80, 81, 82, 83, 84, 85, 86, 87, 88] (by decide +kernel) (by decide +kernel)
set_option maxRecDepth 20000 in
theorem gX10_find_X10_lookUp : GoodIn wsX10_find (wsV RX10 120 RX10 yX10_lookUp wsX10_lookUp) := goodIn_app (goodIn_of _ (by decide +kernel)) ggX10_find_X10_lookUp
set_option maxRecDepth 20000 in
theorem ggX10_find_X10_isDirectory : GoodIn wsX10_find wsX10_isDirectory := goodIn_r _ [62, 4, 63, 64, 65, 66, 67, 68, 69, 70, 71, 72, 73, 74, 75, 76, 77, 78, 79, 80, 81, 82, 83, 84, 85, 86, 87, 88] (by decide +kernel) (by decide +kernel)
set_option maxRecDepth 20000 in
theorem gX10_find_X10_isDirectory : GoodIn wsX10_find (wsV RX10 123 RX10 yX10_isDirectory wsX10_isDirectory) := goodIn_app (goodIn_of _ (by decide +kernel)) ggX10_find_X10_isDirectory
theorem dX10_find_0 : decode cX10_find 0 = .ok (.aload_n 0, 1) := by decide +kernel
theorem dX10_find_1 : decode cX10_find 1 = .ok (.invokevirtual 116, 3) := by decide +kernel
theorem dX10_find_4 : decode cX10_find 4 = .ok (.ifCond .ne 6, 3) := by decide +kernel
theorem dX10_find_7 : decode cX10_find 7 = .ok (.bipush (-5), 2) := by decide +kernel
theorem dX10_find_9 : decode cX10_find 9 = .ok (.ireturn, 1) := by decide +kernel
theorem dX10_find_10 : decode cX10_find 10 = .ok (.aload_n 0, 1) := by decide +kernel
theorem dX10_find_11 : decode cX10_find 11 = .ok (.getfield 72, 3) := by decide +kernel
theorem dX10_find_14 : decode cX10_find 14 = .ok (.istore_n 1, 1) := by decide +kernel
theorem dX10_find_15 : decode cX10_find 15 = .ok (.bipush (-6), 2) := by decide +kernel
theorem dX10_find_17 : decode cX10_find 17 = .ok (.istore_n 2, 1) := by decide +kernel
theorem dX10_find_18 : decode cX10_find 18 = .ok (.iconst 0, 1) := by decide +kernel
theorem dX10_find_19 : decode cX10_find 19 = .ok (.istore_n 3, 1) := by decide +kernel
theorem dX10_find_20 : decode cX10_find 20 = .ok (.iload_n 3, 1) := by decide +kernel
theorem dX10_find_21 : decode cX10_find 21 = .ok (.aload_n 0, 1) := by decide +kernel
theorem dX10_find_22 : decode cX10_find 22 = .ok (.getfield 107, 3) := by decide +kernel
theorem dX10_find_25 : decode cX10_find 25 = .ok (.if_icmp .ge 57, 3) := by decide +kernel
theorem dX10_find_28 : decode cX10_find 28 = .ok (.aload_n 0, 1) := by decide +kernel
theorem dX10_find_29 : decode cX10_find 29 = .ok (.iload_n 1, 1) := by decide +kernel
theorem dX10_find_30 : decode cX10_find 30 = .ok (.aload_n 0, 1) := by decide +kernel
theorem dX10_find_31 : decode cX10_find 31 = .ok (.getfield 26, 3) := by decide +kernel
theorem dX10_find_34 : decode cX10_find 34 = .ok (.iload_n 3, 1) := by decide +kernel
theorem dX10_find_35 : decode cX10_find 35 = .ok (.iaload, 1) := by decide +kernel
theorem dX10_find_36 : decode cX10_find 36 = .ok (.invokevirtual 120, 3) := by decide +kernel
theorem dX10_find_39 : decode cX10_find 39 = .ok (.istore_n 2, 1) := by decide +kernel
theorem dX10_find_40 : decode cX10_find 40 = .ok (.iload_n 2, 1) := by decide +kernel
theorem dX10_find_41 : decode cX10_find 41 = .ok (.ifCond .ge 5, 3) := by decide +kernel
theorem dX10_find_44 : decode cX10_find 44 = .ok (.iload_n 2, 1) := by decide +kernel
theorem dX10_find_45 : decode cX10_find 45 = .ok (.ireturn, 1) := by decide +kernel
theorem dX10_find_46 : decode cX10_find 46 = .ok (.iload_n 3, 1) := by decide +kernel
theorem dX10_find_47 : decode cX10_find 47 = .ok (.iconst 1, 1) := by decide +kernel
theorem dX10_find_48 : decode cX10_find 48 = .ok (.iadd, 1) := by decide +kernel
theorem dX10_find_49 : decode cX10_find 49 = .ok (.aload_n 0, 1) := by decide +kernel
theorem dX10_find_50 : decode cX10_find 50 = .ok (.getfield 107, 3) := by decide +kernel
theorem dX10_find_53 : decode cX10_find 53 = .ok (.if_icmp .ge 14, 3) := by decide +kernel
theorem dX10_find_56 : decode cX10_find 56 = .ok (.aload_n 0, 1) := by decide +kernel
theorem dX10_find_57 : decode cX10_find 57 = .ok (.iload_n 2, 1) := by decide +kernel
theorem dX10_find_58 : decode cX10_find 58 = .ok (.invokevirtual 123, 3) := by decide +kernel
theorem dX10_find_61 : decode cX10_find 61 = .ok (.ifCond .ne 6, 3) := by decide +kernel
theorem dX10_find_64 : decode cX10_find 64 = .ok (.bipush (-8), 2) := by decide +kernel
theorem dX10_find_66 : decode cX10_find 66 = .ok (.ireturn, 1) := by decide +kernel
theorem dX10_find_67 : decode cX10_find 67 = .ok (.aload_n 0, 1) := by decide +kernel
theorem dX10_find_68 : decode cX10_find 68 = .ok (.getfield 7, 3) := by decide +kernel
theorem dX10_find_71 : decode cX10_find 71 = .ok (.iload_n 2, 1) := by decide +kernel
theorem dX10_find_72 : decode cX10_find 72 = .ok (.iconst 5, 1) := by decide +kernel
theorem dX10_find_73 : decode cX10_find 73 = .ok (.iadd, 1) := by decide +kernel
theorem dX10_find_74 : decode cX10_find 74 = .ok (.iaload, 1) := by decide +kernel
theorem dX10_find_75 : decode cX10_find 75 = .ok (.istore_n 1, 1) := by decide +kernel
theorem dX10_find_76 : decode cX10_find 76 = .ok (.iinc 3 1, 3) := by decide +kernel
theorem dX10_find_79 : decode cX10_find 79 = .ok (.goto (-59), 3) := by decide +kernel
theorem dX10_find_82 : decode cX10_find 82 = .ok (.iload_n 2, 1) := by decide +kernel
theorem dX10_find_83 : decode cX10_find 83 = .ok (.ireturn, 1) := by decide +kernel
theorem dX10_take_0 : decode cX10_take 0 = .ok (.iconst 0, 1) := by decide +kernel
theorem dX10_take_1 : decode cX10_take 1 = .ok (.istore_n 3, 1) := by decide +kernel
theorem dX10_take_2 : decode cX10_take 2 = .ok (.iload_n 3, 1) := by decide +kernel
theorem dX10_take_3 : decode cX10_take 3 = .ok (.iload_n 2, 1) := by decide +kernel
theorem dX10_take_4 : decode cX10_take 4 = .ok (.if_icmp .ge 18, 3) := by decide +kernel
theorem dX10_take_7 : decode cX10_take 7 = .ok (.aload_n 0, 1) := by decide +kernel
theorem dX10_take_8 : decode cX10_take 8 = .ok (.getfield 23, 3) := by decide +kernel
theorem dX10_take_11 : decode cX10_take 11 = .ok (.iload_n 3, 1) := by decide +kernel
theorem dX10_take_12 : decode cX10_take 12 = .ok (.aload_n 1, 1) := by decide +kernel
theorem dX10_take_13 : decode cX10_take 13 = .ok (.iload_n 3, 1) := by decide +kernel
theorem dX10_take_14 : decode cX10_take 14 = .ok (.iaload, 1) := by decide +kernel
theorem dX10_take_15 : decode cX10_take 15 = .ok (.iastore, 1) := by decide +kernel
end
section
theorem dX10_take_16 : decode cX10_take 16 = .ok (.iinc 3 1, 3) := by decide +kernel
theorem dX10_take_19 : decode cX10_take 19 = .ok (.goto (-17), 3) := by decide +kernel
theorem dX10_take_22 : decode cX10_take 22 = .ok (.aload_n 0, 1) := by decide +kernel
theorem dX10_take_23 : decode cX10_take 23 = .ok (.iload_n 2, 1) := by decide +kernel
theorem dX10_take_24 : decode cX10_take 24 = .ok (.putfield 110, 3) := by decide +kernel
theorem dX10_take_27 : decode cX10_take 27 = .ok (.return_, 1) := by decide +kernel
set_option maxRecDepth 20000 in
theorem ggX10_isBroken_X10_sizeAt : GoodIn wsX10_isBroken wsX10_sizeAt := goodIn_r _ [7, 8, 9, 10, 6, 11, 1, 28, 29, 30, 31, 32, 33, 34, 35, 36, 37, 38, 39, 40, 41, 42, 43, 44, 45, 46, 47, 48, 49, 50, 51, 52, 53] (by decide +kernel) (by decide +kernel)
set_option maxRecDepth 20000 in
theorem gX10_isBroken_X10_sizeAt : GoodIn wsX10_isBroken (wsV RX10 126 RX10 yX10_sizeAt wsX10_sizeAt) := goodIn_app (goodIn_of _ (by decide +kernel)) ggX10_isBroken_X10_sizeAt
set_option maxRecDepth 20000 in
theorem ggX10_isBroken_X10_chain : GoodIn wsX10_isBroken wsX10_chain := goodIn_r _ [15, 16, 17, 18, 19, 6, 20, 21, 22, 23, 24, 25, 26, 27, 8, 9, 10, 11, 1, 28, 29, 30, 31, 32, 33, 34, 35, 36, 37, 38, 39, 40, 41, 42, 43, 44, 45, 46, 47, 48, 49, 50, 51, 52, 53] (by decide +kernel) (by decide +kernel)
set_option maxRecDepth 20000 in
theorem gX10_isBroken_X10_chain : GoodIn wsX10_isBroken (wsV RX10 94 RX10 yX10_chain wsX10_chain) := goodIn_app (goodIn_of _ (by decide +kernel)) ggX10_isBroken_X10_chain
theorem dX10_isBroken_0 : decode cX10_isBroken 0 = .ok (.aload_n 0, 1) := by decide +kernel
theorem dX10_isBroken_1 : decode cX10_isBroken 1 = .ok (.iload_n 1, 1) := by decide +kernel
theorem dX10_isBroken_2 : decode cX10_isBroken 2 = .ok (.invokevirtual 126, 3) := by decide +kernel
theorem dX10_isBroken_5 : decode cX10_isBroken 5 = .ok (.istore_n 2, 1) := by decide +kernel
theorem dX10_isBroken_6 : decode cX10_isBroken 6 = .ok (.iload_n 2, 1) := by decide +kernel
theorem dX10_isBroken_7 : decode cX10_isBroken 7 = .ok (.ifCond .ne 5, 3) := by decide +kernel
theorem dX10_isBroken_10 : decode cX10_isBroken 10 = .ok (.iconst 0, 1) := by decide +kernel
theorem dX10_isBroken_11 : decode cX10_isBroken 11 = .ok (.ireturn, 1) := by decide +kernel
theorem dX10_isBroken_12 : decode cX10_isBroken 12 = .ok (.aload_n 0, 1) := by decide +kernel
theorem dX10_isBroken_13 : decode cX10_isBroken 13 = .ok (.aload_n 0, 1) := by decide +kernel
theorem dX10_isBroken_14 : decode cX10_isBroken 14 = .ok (.getfield 7, 3) := by decide +kernel
theorem dX10_isBroken_17 : decode cX10_isBroken 17 = .ok (.iload_n 1, 1) := by decide +kernel
theorem dX10_isBroken_18 : decode cX10_isBroken 18 = .ok (.iconst 5, 1) := by decide +kernel
theorem dX10_isBroken_19 : decode cX10_isBroken 19 = .ok (.iadd, 1) := by decide +kernel
theorem dX10_isBroken_20 : decode cX10_isBroken 20 = .ok (.iaload, 1) := by decide +kernel
theorem dX10_isBroken_21 : decode cX10_isBroken 21 = .ok (.invokevirtual 94, 3) := by decide +kernel
theorem dX10_isBroken_24 : decode cX10_isBroken 24 = .ok (.istore_n 3, 1) := by decide +kernel
theorem dX10_isBroken_25 : decode cX10_isBroken 25 = .ok (.iload_n 3, 1) := by decide +kernel
theorem dX10_isBroken_26 : decode cX10_isBroken 26 = .ok (.ifCond .lt 16, 3) := by decide +kernel
theorem dX10_isBroken_29 : decode cX10_isBroken 29 = .ok (.bipush 32, 2) := by decide +kernel
theorem dX10_isBroken_31 : decode cX10_isBroken 31 = .ok (.aload_n 0, 1) := by decide +kernel
theorem dX10_isBroken_32 : decode cX10_isBroken 32 = .ok (.getfield 63, 3) := by decide +kernel
theorem dX10_isBroken_35 : decode cX10_isBroken 35 = .ok (.imul, 1) := by decide +kernel
theorem dX10_isBroken_36 : decode cX10_isBroken 36 = .ok (.iload_n 3, 1) := by decide +kernel
theorem dX10_isBroken_37 : decode cX10_isBroken 37 = .ok (.imul, 1) := by decide +kernel
theorem dX10_isBroken_38 : decode cX10_isBroken 38 = .ok (.iload_n 2, 1) := by decide +kernel
theorem dX10_isBroken_39 : decode cX10_isBroken 39 = .ok (.if_icmp .ge 7, 3) := by decide +kernel
theorem dX10_isBroken_42 : decode cX10_isBroken 42 = .ok (.iconst 1, 1) := by decide +kernel
theorem dX10_isBroken_43 : decode cX10_isBroken 43 = .ok (.goto 4, 3) := by decide +kernel
theorem dX10_isBroken_46 : decode cX10_isBroken 46 = .ok (.iconst 0, 1) := by decide +kernel
theorem dX10_isBroken_47 : decode cX10_isBroken 47 = .ok (.ireturn, 1) := by decide +kernel
set_option maxRecDepth 20000 in
theorem ggX10_byteOf_X10_place : GoodIn wsX10_byteOf wsX10_place := goodIn_r _ [6, 7, 8, 9, 10, 11, 5, 12, 13, 14, 15, 16, 17, 18, 19, 1, 20, 21, 22, 23, 24, 25, 26, 27, 28, 29, 30, 31, 32, 33, 34, 35, 36, 37, 38, 39, 40, 41, 42, 43, 44, 45, 46, 47, 48, 49, 50] (by decide +kernel) (by decide +kernel)
set_option maxRecDepth 20000 in
theorem gX10_byteOf_X10_place : GoodIn wsX10_byteOf (wsV RX10 90 RX10 yX10_place wsX10_place) := goodIn_app (goodIn_of _ (by decide +kernel)) ggX10_byteOf_X10_place
theorem dX10_byteOf_0 : decode cX10_byteOf 0 = .ok (.aload_n 0, 1) := by decide +kernel
theorem dX10_byteOf_1 : decode cX10_byteOf 1 = .ok (.aload_n 0, 1) := by decide +kernel
theorem dX10_byteOf_2 : decode cX10_byteOf 2 = .ok (.getfield 7, 3) := by decide +kernel
theorem dX10_byteOf_5 : decode cX10_byteOf 5 = .ok (.iload_n 1, 1) := by decide +kernel
theorem dX10_byteOf_6 : decode cX10_byteOf 6 = .ok (.iconst 5, 1) := by decide +kernel
theorem dX10_byteOf_7 : decode cX10_byteOf 7 = .ok (.iadd, 1) := by decide +kernel
theorem dX10_byteOf_8 : decode cX10_byteOf 8 = .ok (.iaload, 1) := by decide +kernel
theorem dX10_byteOf_9 : decode cX10_byteOf 9 = .ok (.iload_n 2, 1) := by decide +kernel
theorem dX10_byteOf_10 : decode cX10_byteOf 10 = .ok (.invokevirtual 90, 3) := by decide +kernel
theorem dX10_byteOf_13 : decode cX10_byteOf 13 = .ok (.istore_n 3, 1) := by decide +kernel
theorem dX10_byteOf_14 : decode cX10_byteOf 14 = .ok (.aload_n 0, 1) := by decide +kernel
theorem dX10_byteOf_15 : decode cX10_byteOf 15 = .ok (.getfield 7, 3) := by decide +kernel
theorem dX10_byteOf_18 : decode cX10_byteOf 18 = .ok (.iload_n 3, 1) := by decide +kernel
theorem dX10_byteOf_19 : decode cX10_byteOf 19 = .ok (.iaload, 1) := by decide +kernel
theorem dX10_byteOf_20 : decode cX10_byteOf 20 = .ok (.ireturn, 1) := by decide +kernel
theorem dX10_type_0 : decode cX10_type 0 = .ok (.aload_n 0, 1) := by decide +kernel
theorem dX10_type_1 : decode cX10_type 1 = .ok (.getfield 129, 3) := by decide +kernel
theorem dX10_type_4 : decode cX10_type 4 = .ok (.bipush 20, 2) := by decide +kernel
theorem dX10_type_6 : decode cX10_type 6 = .ok (.if_icmp .ge 15, 3) := by decide +kernel
theorem dX10_type_9 : decode cX10_type 9 = .ok (.iload_n 1, 1) := by decide +kernel
theorem dX10_type_10 : decode cX10_type 10 = .ok (.bipush 32, 2) := by decide +kernel
theorem dX10_type_12 : decode cX10_type 12 = .ok (.if_icmp .lt 9, 3) := by decide +kernel
theorem dX10_type_15 : decode cX10_type 15 = .ok (.iload_n 1, 1) := by decide +kernel
theorem dX10_type_16 : decode cX10_type 16 = .ok (.bipush 126, 2) := by decide +kernel
theorem dX10_type_18 : decode cX10_type 18 = .ok (.if_icmp .le 5, 3) := by decide +kernel
theorem dX10_type_21 : decode cX10_type 21 = .ok (.iconst 0, 1) := by decide +kernel
theorem dX10_type_22 : decode cX10_type 22 = .ok (.ireturn, 1) := by decide +kernel
theorem dX10_type_23 : decode cX10_type 23 = .ok (.aload_n 0, 1) := by decide +kernel
theorem dX10_type_24 : decode cX10_type 24 = .ok (.getfield 20, 3) := by decide +kernel
theorem dX10_type_27 : decode cX10_type 27 = .ok (.aload_n 0, 1) := by decide +kernel
theorem dX10_type_28 : decode cX10_type 28 = .ok (.getfield 129, 3) := by decide +kernel
theorem dX10_type_31 : decode cX10_type 31 = .ok (.iload_n 1, 1) := by decide +kernel
theorem dX10_type_32 : decode cX10_type 32 = .ok (.iastore, 1) := by decide +kernel
theorem dX10_type_33 : decode cX10_type 33 = .ok (.aload_n 0, 1) := by decide +kernel
theorem dX10_type_34 : decode cX10_type 34 = .ok (.dup, 1) := by decide +kernel
theorem dX10_type_35 : decode cX10_type 35 = .ok (.getfield 129, 3) := by decide +kernel
theorem dX10_type_38 : decode cX10_type 38 = .ok (.iconst 1, 1) := by decide +kernel
theorem dX10_type_39 : decode cX10_type 39 = .ok (.iadd, 1) := by decide +kernel
theorem dX10_type_40 : decode cX10_type 40 = .ok (.putfield 129, 3) := by decide +kernel
theorem dX10_type_43 : decode cX10_type 43 = .ok (.iconst 1, 1) := by decide +kernel
theorem dX10_type_44 : decode cX10_type 44 = .ok (.ireturn, 1) := by decide +kernel
theorem dX10_scrap_0 : decode cX10_scrap 0 = .ok (.aload_n 0, 1) := by decide +kernel
theorem dX10_scrap_1 : decode cX10_scrap 1 = .ok (.getfield 129, 3) := by decide +kernel
theorem dX10_scrap_4 : decode cX10_scrap 4 = .ok (.istore_n 1, 1) := by decide +kernel
theorem dX10_scrap_5 : decode cX10_scrap 5 = .ok (.aload_n 0, 1) := by decide +kernel
theorem dX10_scrap_6 : decode cX10_scrap 6 = .ok (.iconst 0, 1) := by decide +kernel
theorem dX10_scrap_7 : decode cX10_scrap 7 = .ok (.putfield 129, 3) := by decide +kernel
theorem dX10_scrap_10 : decode cX10_scrap 10 = .ok (.iload_n 1, 1) := by decide +kernel
theorem dX10_scrap_11 : decode cX10_scrap 11 = .ok (.ireturn, 1) := by decide +kernel
set_option maxRecDepth 20000 in
theorem ggX10_fileOfText_X10_volume : GoodIn wsX10_fileOfText wsX10_volume := goodIn_r _ [7, 8, 9, 10, 11, 12, 13, 14, 15, 16, 17, 18, 19, 6, 20, 21, 22, 23, 24, 86, 87, 88, 89, 90, 91, 92, 93, 94, 95, 96, 97, 98, 99, 100, 101, 102, 103, 104, 105, 106, 107, 108, 109, 110, 111] (by decide +kernel) (by decide +kernel)
set_option maxRecDepth 20000 in
theorem gX10_fileOfText_X10_volume : GoodIn wsX10_fileOfText (wsV RX10 132 RX10 yX10_volume wsX10_volume) := goodIn_app (goodIn_of _ (by decide +kernel)) ggX10_fileOfText_X10_volume
set_option maxRecDepth 20000 in
theorem ggX10_fileOfText_X10_take : GoodIn wsX10_fileOfText wsX10_take := goodIn_r _ [28, 29, 30, 86, 87, 88, 89, 90, 91, 92, 93, 94, 95, 96, 97, 98, 99, 100, 101, 102, 103, 104, 105, 106, 107, 108, 109, 110, 111] (by decide +kernel) (by decide +kernel)
set_option maxRecDepth 20000 in
theorem gX10_fileOfText_X10_take : GoodIn wsX10_fileOfText (wsV RX10 135 RX10 yX10_take wsX10_take) := goodIn_app (goodIn_of _ (by decide +kernel)) ggX10_fileOfText_X10_take
set_option maxRecDepth 20000 in
theorem ggX10_fileOfText_X10_find : GoodIn wsX10_fileOfText wsX10_find := goodIn_r _ [34, 13, 35, 36, 8, 37, 38, 39, 6, 40, 30, 29, 41, 42, 43, 44, 45, 46, 47, 48, 49, 50, 51, 52, 14, 53, 54, 55, 56, 57, 58, 59, 60, 15, 11, 12, 61, 62, 63, 64, 65, 66, 67, 68, 10, 69, 70, 71, 72, 16, 73, 74, 75, 76, 77, 78, 79, 80, 81, 82, 83, 84, 85, 86, 87, 88, 89, 90, 91, 92, 93, 94, 95, 96, 97, 98, 99, 100, 101, 102, 103, 104, 105, 106, 107, 108, 109, 110, 111] (by decide +kernel) (by decide +kernel)
set_option maxRecDepth 20000 in
theorem gX10_fileOfText_X10_find : GoodIn wsX10_fileOfText (wsV RX10 139 RX10 yX10_find wsX10_find) := goodIn_app (goodIn_of _ (by decide +kernel)) ggX10_fileOfText_X10_find
set_option maxRecDepth 20000 in
theorem ggX10_fileOfText_X10_isDirectory : GoodIn wsX10_fileOfText wsX10_isDirectory := goodIn_r _ [85, 8, 86, 87, 88, 89, 90, 91, 92, 93, 94, 95, 96, 97, 98, 99, 100, 101, 102, 103, 104, 105, 106, 107, 108, 109, 110, 111] (by decide +kernel) (by decide +kernel)
set_option maxRecDepth 20000 in
theorem gX10_fileOfText_X10_isDirectory : GoodIn wsX10_fileOfText (wsV RX10 123 RX10 yX10_isDirectory wsX10_isDirectory) := goodIn_app (goodIn_of _ (by decide +kernel)) ggX10_fileOfText_X10_isDirectory
theorem dX10_fileOfText_0 : decode cX10_fileOfText 0 = .ok (.aload_n 0, 1) := by decide +kernel
theorem dX10_fileOfText_1 : decode cX10_fileOfText 1 = .ok (.invokevirtual 132, 3) := by decide +kernel
theorem dX10_fileOfText_4 : decode cX10_fileOfText 4 = .ok (.istore_n 1, 1) := by decide +kernel
theorem dX10_fileOfText_5 : decode cX10_fileOfText 5 = .ok (.iload_n 1, 1) := by decide +kernel
theorem dX10_fileOfText_6 : decode cX10_fileOfText 6 = .ok (.ifCond .ge 5, 3) := by decide +kernel
theorem dX10_fileOfText_9 : decode cX10_fileOfText 9 = .ok (.iload_n 1, 1) := by decide +kernel
theorem dX10_fileOfText_10 : decode cX10_fileOfText 10 = .ok (.ireturn, 1) := by decide +kernel
theorem dX10_fileOfText_11 : decode cX10_fileOfText 11 = .ok (.aload_n 0, 1) := by decide +kernel
theorem dX10_fileOfText_12 : decode cX10_fileOfText 12 = .ok (.aload_n 0, 1) := by decide +kernel
theorem dX10_fileOfText_13 : decode cX10_fileOfText 13 = .ok (.getfield 20, 3) := by decide +kernel
theorem dX10_fileOfText_16 : decode cX10_fileOfText 16 = .ok (.aload_n 0, 1) := by decide +kernel
theorem dX10_fileOfText_17 : decode cX10_fileOfText 17 = .ok (.getfield 129, 3) := by decide +kernel
theorem dX10_fileOfText_20 : decode cX10_fileOfText 20 = .ok (.invokevirtual 135, 3) := by decide +kernel
theorem dX10_fileOfText_23 : decode cX10_fileOfText 23 = .ok (.aload_n 0, 1) := by decide +kernel
theorem dX10_fileOfText_24 : decode cX10_fileOfText 24 = .ok (.invokevirtual 139, 3) := by decide +kernel
theorem dX10_fileOfText_27 : decode cX10_fileOfText 27 = .ok (.istore_n 2, 1) := by decide +kernel
theorem dX10_fileOfText_28 : decode cX10_fileOfText 28 = .ok (.iload_n 2, 1) := by decide +kernel
theorem dX10_fileOfText_29 : decode cX10_fileOfText 29 = .ok (.ifCond .lt 16, 3) := by decide +kernel
theorem dX10_fileOfText_32 : decode cX10_fileOfText 32 = .ok (.aload_n 0, 1) := by decide +kernel
theorem dX10_fileOfText_33 : decode cX10_fileOfText 33 = .ok (.iload_n 2, 1) := by decide +kernel
theorem dX10_fileOfText_34 : decode cX10_fileOfText 34 = .ok (.invokevirtual 123, 3) := by decide +kernel
theorem dX10_fileOfText_37 : decode cX10_fileOfText 37 = .ok (.ifCond .eq 8, 3) := by decide +kernel
theorem dX10_fileOfText_40 : decode cX10_fileOfText 40 = .ok (.bipush (-7), 2) := by decide +kernel
theorem dX10_fileOfText_42 : decode cX10_fileOfText 42 = .ok (.goto 4, 3) := by decide +kernel
theorem dX10_fileOfText_45 : decode cX10_fileOfText 45 = .ok (.iload_n 2, 1) := by decide +kernel
theorem dX10_fileOfText_46 : decode cX10_fileOfText 46 = .ok (.ireturn, 1) := by decide +kernel
set_option maxRecDepth 20000 in
theorem ggX10_size_X10_fileOfText : GoodIn wsX10_size wsX10_fileOfText := goodIn_r _ [5, 6, 7, 8, 9, 10, 4, 11, 12, 13, 14, 15, 16, 17, 18, 19, 20, 21, 22, 23, 24, 25, 26, 27, 28, 29, 30, 31, 32, 33, 34, 35, 36, 37, 38, 39, 40, 41, 42, 43, 44, 45, 46, 47, 48, 49, 50, 51, 52, 53, 54, 55, 56, 57, 58, 59, 60, 61, 62, 63, 64, 65, 66, 67, 68, 69, 70, 71, 72, 73, 74, 75, 76, 77, 78, 79, 80, 81, 82, 83, 84, 85, 86, 87, 88, 89, 94, 95, 96, 97, 98, 99, 100, 101, 102, 103, 104, 105, 106, 107, 108, 109, 110, 111, 112, 113, 114, 115, 116, 117, 118, 119] (by decide +kernel) (by decide +kernel)
set_option maxRecDepth 20000 in
theorem gX10_size_X10_fileOfText : GoodIn wsX10_size (wsV RX10 142 RX10 yX10_fileOfText wsX10_fileOfText) := goodIn_app (goodIn_of _ (by decide +kernel)) ggX10_size_X10_fileOfText
set_option maxRecDepth 20000 in
theorem ggX10_size_X10_sizeAt : GoodIn wsX10_size wsX10_sizeAt := goodIn_r _ [93, 65, 66, 67, 4, 68, 12, 94, 95, 96, 97, 98, 99, 100, 101, 102, 103, 104, 105, 106, 107, 108, 109, 110, 111, 112, 113, 114, 115, 116, 117, 118, 119] (by decide +kernel) (by decide +kernel)
set_option maxRecDepth 20000 in
theorem gX10_size_X10_sizeAt : GoodIn wsX10_size (wsV RX10 126 RX10 yX10_sizeAt wsX10_sizeAt) := goodIn_app (goodIn_of _ (by decide +kernel)) ggX10_size_X10_sizeAt
theorem dX10_size_0 : decode cX10_size 0 = .ok (.aload_n 0, 1) := by decide +kernel
theorem dX10_size_1 : decode cX10_size 1 = .ok (.invokevirtual 142, 3) := by decide +kernel
theorem dX10_size_4 : decode cX10_size 4 = .ok (.istore_n 1, 1) := by decide +kernel
theorem dX10_size_5 : decode cX10_size 5 = .ok (.iload_n 1, 1) := by decide +kernel
theorem dX10_size_6 : decode cX10_size 6 = .ok (.ifCond .ge 7, 3) := by decide +kernel
theorem dX10_size_9 : decode cX10_size 9 = .ok (.iload_n 1, 1) := by decide +kernel
theorem dX10_size_10 : decode cX10_size 10 = .ok (.goto 8, 3) := by decide +kernel
theorem dX10_size_13 : decode cX10_size 13 = .ok (.aload_n 0, 1) := by decide +kernel
theorem dX10_size_14 : decode cX10_size 14 = .ok (.iload_n 1, 1) := by decide +kernel
theorem dX10_size_15 : decode cX10_size 15 = .ok (.invokevirtual 126, 3) := by decide +kernel
theorem dX10_size_18 : decode cX10_size 18 = .ok (.ireturn, 1) := by decide +kernel
set_option maxRecDepth 20000 in
theorem ggX10_read_X10_fileOfText : GoodIn wsX10_read wsX10_fileOfText := goodIn_r _ [5, 6, 7, 8, 9, 10, 4, 11, 12, 13, 14, 15, 16, 17, 18, 19, 20, 21, 22, 23, 24, 25, 26, 27, 28, 29, 30, 31, 32, 33, 34, 35, 36, 37, 38, 39, 40, 41, 42, 43, 44, 45, 46, 47, 48, 49, 50, 51, 52, 53, 54, 55, 56, 57, 58, 59, 60, 61, 62, 63, 64, 65, 66, 67, 68, 69, 70, 71, 72, 73, 74, 75, 76, 77, 78, 79, 80, 81, 82, 83, 84, 85, 86, 87, 88, 89, 102, 103, 104, 105, 106, 107, 108, 109, 110, 111, 112, 113, 114, 115, 116, 117, 118, 119, 120, 121, 122, 123, 124, 125, 126, 127] (by decide +kernel) (by decide +kernel)
set_option maxRecDepth 20000 in
theorem gX10_read_X10_fileOfText : GoodIn wsX10_read (wsV RX10 142 RX10 yX10_fileOfText wsX10_fileOfText) := goodIn_app (goodIn_of _ (by decide +kernel)) ggX10_read_X10_fileOfText
set_option maxRecDepth 20000 in
theorem ggX10_read_X10_isBroken : GoodIn wsX10_read wsX10_isBroken := goodIn_r _ [93, 12, 14, 94, 95, 96, 4, 97, 65, 66, 67, 68, 53, 54, 55, 56, 18, 57, 58, 59, 60, 61, 62, 63, 64, 19, 15, 16, 102, 103, 104, 105, 106, 107, 108, 109, 110, 111, 112, 113, 114, 115, 116, 117, 118, 119, 120, 121, 122, 123, 124, 125, 126, 127] (by decide +kernel) (by decide +kernel)
set_option maxRecDepth 20000 in
theorem gX10_read_X10_isBroken : GoodIn wsX10_read (wsV RX10 145 RX10 yX10_isBroken wsX10_isBroken) := goodIn_app (goodIn_of _ (by decide +kernel)) ggX10_read_X10_isBroken
set_option maxRecDepth 20000 in
theorem ggX10_read_X10_sizeAt : GoodIn wsX10_read wsX10_sizeAt := goodIn_r _ [97, 65, 66, 67, 4, 68, 12, 102, 103, 104, 105, 106, 107, 108, 109, 110, 111, 112, 113, 114, 115, 116, 117, 118, 119, 120, 121, 122, 123, 124, 125, 126, 127] (by decide +kernel) (by decide +kernel)
set_option maxRecDepth 20000 in
theorem gX10_read_X10_sizeAt : GoodIn wsX10_read (wsV RX10 126 RX10 yX10_sizeAt wsX10_sizeAt) := goodIn_app (goodIn_of _ (by decide +kernel)) ggX10_read_X10_sizeAt
set_option maxRecDepth 20000 in
theorem ggX10_read_X10_byteOf : GoodIn wsX10_read wsX10_byteOf := goodIn_r _ [101, 12, 73, 74, 75, 4, 76, 14, 20, 61, 62, 63, 64, 19, 15, 16, 65, 66, 67, 68, 57, 58, 59, 60, 18, 102, 103, 104, 105, 106, 107, 108, 109, 110, 111, 112, 113, 114, 115, 116, 117, 118, 119, 120, 121, 122, 123, 124, 125, 126, 127] (by decide +kernel) (by decide +kernel)
set_option maxRecDepth 20000 in
theorem gX10_read_X10_byteOf : GoodIn wsX10_read (wsV RX10 148 RX10 yX10_byteOf wsX10_byteOf) := goodIn_app (goodIn_of _ (by decide +kernel)) ggX10_read_X10_byteOf
theorem dX10_read_0 : decode cX10_read 0 = .ok (.aload_n 0, 1) := by decide +kernel
theorem dX10_read_1 : decode cX10_read 1 = .ok (.invokevirtual 142, 3) := by decide +kernel
theorem dX10_read_4 : decode cX10_read 4 = .ok (.istore_n 2, 1) := by decide +kernel
theorem dX10_read_5 : decode cX10_read 5 = .ok (.iload_n 2, 1) := by decide +kernel
theorem dX10_read_6 : decode cX10_read 6 = .ok (.ifCond .ge 5, 3) := by decide +kernel
theorem dX10_read_9 : decode cX10_read 9 = .ok (.iload_n 2, 1) := by decide +kernel
theorem dX10_read_10 : decode cX10_read 10 = .ok (.ireturn, 1) := by decide +kernel
theorem dX10_read_11 : decode cX10_read 11 = .ok (.aload_n 0, 1) := by decide +kernel
theorem dX10_read_12 : decode cX10_read 12 = .ok (.iload_n 2, 1) := by decide +kernel
theorem dX10_read_13 : decode cX10_read 13 = .ok (.invokevirtual 145, 3) := by decide +kernel
theorem dX10_read_16 : decode cX10_read 16 = .ok (.ifCond .eq 6, 3) := by decide +kernel
theorem dX10_read_19 : decode cX10_read 19 = .ok (.bipush (-9), 2) := by decide +kernel
theorem dX10_read_21 : decode cX10_read 21 = .ok (.ireturn, 1) := by decide +kernel
theorem dX10_read_22 : decode cX10_read 22 = .ok (.iload_n 1, 1) := by decide +kernel
theorem dX10_read_23 : decode cX10_read 23 = .ok (.ifCond .lt 12, 3) := by decide +kernel
theorem dX10_read_26 : decode cX10_read 26 = .ok (.iload_n 1, 1) := by decide +kernel
theorem dX10_read_27 : decode cX10_read 27 = .ok (.aload_n 0, 1) := by decide +kernel
theorem dX10_read_28 : decode cX10_read 28 = .ok (.iload_n 2, 1) := by decide +kernel
theorem dX10_read_29 : decode cX10_read 29 = .ok (.invokevirtual 126, 3) := by decide +kernel
theorem dX10_read_32 : decode cX10_read 32 = .ok (.if_icmp .lt 7, 3) := by decide +kernel
theorem dX10_read_35 : decode cX10_read 35 = .ok (.iconst (-1), 1) := by decide +kernel
theorem dX10_read_36 : decode cX10_read 36 = .ok (.goto 9, 3) := by decide +kernel
theorem dX10_read_39 : decode cX10_read 39 = .ok (.aload_n 0, 1) := by decide +kernel
theorem dX10_read_40 : decode cX10_read 40 = .ok (.iload_n 2, 1) := by decide +kernel
theorem dX10_read_41 : decode cX10_read 41 = .ok (.iload_n 1, 1) := by decide +kernel
theorem dX10_read_42 : decode cX10_read 42 = .ok (.invokevirtual 148, 3) := by decide +kernel
theorem dX10_read_45 : decode cX10_read 45 = .ok (.ireturn, 1) := by decide +kernel
set_option maxRecDepth 20000 in
theorem ggX10_list_X10_volume : GoodIn wsX10_list wsX10_volume := goodIn_r _ [13, 5, 14, 15, 16, 17, 1, 18, 19, 20, 21, 22, 23, 12, 24, 25, 26, 27, 28, 90, 91, 92, 93, 94, 95, 96, 97, 98, 99, 100, 101, 102, 103, 104, 105, 106, 107, 108, 109, 110, 111, 112, 113, 114, 115] (by decide +kernel) (by decide +kernel)
set_option maxRecDepth 20000 in
theorem gX10_list_X10_volume : GoodIn wsX10_list (wsV RX10 132 RX10 yX10_volume wsX10_volume) := goodIn_app (goodIn_of _ (by decide +kernel)) ggX10_list_X10_volume
set_option maxRecDepth 20000 in
theorem ggX10_list_X10_take : GoodIn wsX10_list wsX10_take := goodIn_r _ [32, 33, 34, 90, 91, 92, 93, 94, 95, 96, 97, 98, 99, 100, 101, 102, 103, 104, 105, 106, 107, 108, 109, 110, 111, 112, 113, 114, 115] (by decide +kernel) (by decide +kernel)
set_option maxRecDepth 20000 in
theorem gX10_list_X10_take : GoodIn wsX10_list (wsV RX10 135 RX10 yX10_take wsX10_take) := goodIn_app (goodIn_of _ (by decide +kernel)) ggX10_list_X10_take
set_option maxRecDepth 20000 in
theorem ggX10_list_X10_find : GoodIn wsX10_list wsX10_find := goodIn_r _ [38, 1, 39, 40, 5, 41, 42, 43, 12, 44, 34, 33, 45, 46, 47, 48, 49, 50, 51, 52, 53, 54, 55, 56, 18, 57, 58, 59, 60, 61, 62, 63, 64, 19, 16, 17, 65, 66, 67, 68, 69, 70, 71, 72, 15, 73, 74, 75, 76, 20, 77, 78, 79, 80, 81, 82, 83, 84, 85, 86, 87, 88, 89, 90, 91, 92, 93, 94, 95, 96, 97, 98, 99, 100, 101, 102, 103, 104, 105, 106, 107, 108, 109, 110, 111, 112, 113, 114, 115] (by decide +kernel) (by decide +kernel)
set_option maxRecDepth 20000 in
theorem gX10_list_X10_find : GoodIn wsX10_list (wsV RX10 139 RX10 yX10_find wsX10_find) := goodIn_app (goodIn_of _ (by decide +kernel)) ggX10_list_X10_find
set_option maxRecDepth 20000 in
theorem ggX10_list_X10_isDirectory : GoodIn wsX10_list wsX10_isDirectory := goodIn_r _ [89, 5, 90, 91, 92, 93, 94, 95, 96, 97, 98, 99, 100, 101, 102, 103, 104, 105, 106, 107, 108, 109, 110, 111, 112, 113, 114, 115] (by decide +kernel) (by decide +kernel)
set_option maxRecDepth 20000 in
theorem gX10_list_X10_isDirectory : GoodIn wsX10_list (wsV RX10 123 RX10 yX10_isDirectory wsX10_isDirectory) := goodIn_app (goodIn_of _ (by decide +kernel)) ggX10_list_X10_isDirectory
set_option maxRecDepth 20000 in
theorem ggX10_list_X10_chain : GoodIn wsX10_list wsX10_chain := goodIn_r _ [56, 18, 57, 58, 59, 12, 60, 61, 62, 63, 64, 19, 16, 17, 65, 66, 67, 68, 5, 90, 91, 92, 93, 94, 95, 96, 97, 98, 99, 100, 101, 102, 103, 104, 105, 106, 107, 108, 109, 110, 111, 112, 113, 114, 115] (by decide +kernel) (by decide +kernel)
set_option maxRecDepth 20000 in
theorem gX10_list_X10_chain : GoodIn wsX10_list (wsV RX10 94 RX10 yX10_chain wsX10_chain) := goodIn_app (goodIn_of _ (by decide +kernel)) ggX10_list_X10_chain
set_option maxRecDepth 20000 in
theorem ggX10_list_X10_nth : GoodIn wsX10_list wsX10_nth := goodIn_r _ [72, 15, 5, 73, 74, 75, 12, 76, 20, 61, 62, 63, 64, 19, 16, 17, 65, 66, 67, 68, 57, 58, 59, 60, 18, 90, 91, 92, 93, 94, 95, 96, 97, 98, 99, 100, 101, 102, 103, 104, 105, 106, 107, 108, 109, 110, 111, 112, 113, 114, 115] (by decide +kernel) (by decide +kernel)
set_option maxRecDepth 20000 in
theorem gX10_list_X10_nth : GoodIn wsX10_list (wsV RX10 97 RX10 yX10_nth wsX10_nth) := goodIn_app (goodIn_of _ (by decide +kernel)) ggX10_list_X10_nth
set_option maxRecDepth 20000 in
theorem ggX10_list_X10_isPassed : GoodIn wsX10_list wsX10_isPassed := goodIn_r _ [80, 5, 90, 91, 92, 93, 94, 95, 96, 97, 98, 99, 100, 101, 102, 103, 104, 105, 106, 107, 108, 109, 110, 111, 112, 113, 114, 115] (by decide +kernel) (by decide +kernel)
set_option maxRecDepth 20000 in
theorem gX10_list_X10_isPassed : GoodIn wsX10_list (wsV RX10 101 RX10 yX10_isPassed wsX10_isPassed) := goodIn_app (goodIn_of _ (by decide +kernel)) ggX10_list_X10_isPassed
set_option maxRecDepth 20000 in
theorem ggX10_list_X10_four : GoodIn wsX10_list wsX10_four := goodIn_r _ [84, 85, 65, 66, 67, 12, 68, 5, 90, 91, 92, 93, 94, 95, 96, 97, 98, 99, 100, 101, 102, 103, 104, 105, 106, 107, 108, 109, 110, 111, 112, 113, 114, 115] (by decide +kernel) (by decide +kernel)
set_option maxRecDepth 20000 in
theorem gX10_list_X10_four : GoodIn wsX10_list (wsV RX10 104 RX10 yX10_four wsX10_four) := goodIn_app (goodIn_of _ (by decide +kernel)) ggX10_list_X10_four
theorem dX10_list_0 : decode cX10_list 0 = .ok (.aload_n 0, 1) := by decide +kernel
theorem dX10_list_1 : decode cX10_list 1 = .ok (.invokevirtual 132, 3) := by decide +kernel
theorem dX10_list_4 : decode cX10_list 4 = .ok (.istore_n 2, 1) := by decide +kernel
theorem dX10_list_5 : decode cX10_list 5 = .ok (.iload_n 2, 1) := by decide +kernel
theorem dX10_list_6 : decode cX10_list 6 = .ok (.ifCond .ge 6, 3) := by decide +kernel
theorem dX10_list_9 : decode cX10_list 9 = .ok (.iload_n 2, 1) := by decide +kernel
theorem dX10_list_10 : decode cX10_list 10 = .ok (.i2l, 1) := by decide +kernel
theorem dX10_list_11 : decode cX10_list 11 = .ok (.lreturn, 1) := by decide +kernel
theorem dX10_list_12 : decode cX10_list 12 = .ok (.aload_n 0, 1) := by decide +kernel
theorem dX10_list_13 : decode cX10_list 13 = .ok (.getfield 72, 3) := by decide +kernel
theorem dX10_list_16 : decode cX10_list 16 = .ok (.istore_n 3, 1) := by decide +kernel
theorem dX10_list_17 : decode cX10_list 17 = .ok (.aload_n 0, 1) := by decide +kernel
theorem dX10_list_18 : decode cX10_list 18 = .ok (.getfield 129, 3) := by decide +kernel
theorem dX10_list_21 : decode cX10_list 21 = .ok (.ifCond .le 53, 3) := by decide +kernel
theorem dX10_list_24 : decode cX10_list 24 = .ok (.aload_n 0, 1) := by decide +kernel
theorem dX10_list_25 : decode cX10_list 25 = .ok (.aload_n 0, 1) := by decide +kernel
theorem dX10_list_26 : decode cX10_list 26 = .ok (.getfield 20, 3) := by decide +kernel
theorem dX10_list_29 : decode cX10_list 29 = .ok (.aload_n 0, 1) := by decide +kernel
theorem dX10_list_30 : decode cX10_list 30 = .ok (.getfield 129, 3) := by decide +kernel
theorem dX10_list_33 : decode cX10_list 33 = .ok (.invokevirtual 135, 3) := by decide +kernel
theorem dX10_list_36 : decode cX10_list 36 = .ok (.aload_n 0, 1) := by decide +kernel
theorem dX10_list_37 : decode cX10_list 37 = .ok (.invokevirtual 139, 3) := by decide +kernel
theorem dX10_list_40 : decode cX10_list 40 = .ok (.istore 4, 2) := by decide +kernel
theorem dX10_list_42 : decode cX10_list 42 = .ok (.iload 4, 2) := by decide +kernel
theorem dX10_list_44 : decode cX10_list 44 = .ok (.ifCond .ge 7, 3) := by decide +kernel
theorem dX10_list_47 : decode cX10_list 47 = .ok (.iload 4, 2) := by decide +kernel
theorem dX10_list_49 : decode cX10_list 49 = .ok (.i2l, 1) := by decide +kernel
theorem dX10_list_50 : decode cX10_list 50 = .ok (.lreturn, 1) := by decide +kernel
theorem dX10_list_51 : decode cX10_list 51 = .ok (.aload_n 0, 1) := by decide +kernel
theorem dX10_list_52 : decode cX10_list 52 = .ok (.iload 4, 2) := by decide +kernel
theorem dX10_list_54 : decode cX10_list 54 = .ok (.invokevirtual 123, 3) := by decide +kernel
theorem dX10_list_57 : decode cX10_list 57 = .ok (.ifCond .ne 7, 3) := by decide +kernel
theorem dX10_list_60 : decode cX10_list 60 = .ok (.ldc2_w 151, 3) := by decide +kernel
theorem dX10_list_63 : decode cX10_list 63 = .ok (.lreturn, 1) := by decide +kernel
theorem dX10_list_64 : decode cX10_list 64 = .ok (.aload_n 0, 1) := by decide +kernel
theorem dX10_list_65 : decode cX10_list 65 = .ok (.getfield 7, 3) := by decide +kernel
theorem dX10_list_68 : decode cX10_list 68 = .ok (.iload 4, 2) := by decide +kernel
theorem dX10_list_70 : decode cX10_list 70 = .ok (.iconst 5, 1) := by decide +kernel
theorem dX10_list_71 : decode cX10_list 71 = .ok (.iadd, 1) := by decide +kernel
theorem dX10_list_72 : decode cX10_list 72 = .ok (.iaload, 1) := by decide +kernel
theorem dX10_list_73 : decode cX10_list 73 = .ok (.istore_n 3, 1) := by decide +kernel
theorem dX10_list_74 : decode cX10_list 74 = .ok (.aload_n 0, 1) := by decide +kernel
theorem dX10_list_75 : decode cX10_list 75 = .ok (.iload_n 3, 1) := by decide +kernel
theorem dX10_list_76 : decode cX10_list 76 = .ok (.invokevirtual 94, 3) := by decide +kernel
theorem dX10_list_79 : decode cX10_list 79 = .ok (.istore 4, 2) := by decide +kernel
theorem dX10_list_81 : decode cX10_list 81 = .ok (.iload 4, 2) := by decide +kernel
theorem dX10_list_83 : decode cX10_list 83 = .ok (.ifCond .ge 7, 3) := by decide +kernel
theorem dX10_list_86 : decode cX10_list 86 = .ok (.ldc2_w 153, 3) := by decide +kernel
theorem dX10_list_89 : decode cX10_list 89 = .ok (.lreturn, 1) := by decide +kernel
theorem dX10_list_90 : decode cX10_list 90 = .ok (.iload_n 1, 1) := by decide +kernel
theorem dX10_list_91 : decode cX10_list 91 = .ok (.istore 5, 2) := by decide +kernel
theorem dX10_list_93 : decode cX10_list 93 = .ok (.aload_n 0, 1) := by decide +kernel
theorem dX10_list_94 : decode cX10_list 94 = .ok (.iload_n 3, 1) := by decide +kernel
theorem dX10_list_95 : decode cX10_list 95 = .ok (.iload 4, 2) := by decide +kernel
theorem dX10_list_97 : decode cX10_list 97 = .ok (.iconst 0, 1) := by decide +kernel
theorem dX10_list_98 : decode cX10_list 98 = .ok (.invokevirtual 97, 3) := by decide +kernel
theorem dX10_list_101 : decode cX10_list 101 = .ok (.istore 6, 2) := by decide +kernel
theorem dX10_list_103 : decode cX10_list 103 = .ok (.iconst 1, 1) := by decide +kernel
theorem dX10_list_104 : decode cX10_list 104 = .ok (.istore 7, 2) := by decide +kernel
theorem dX10_list_106 : decode cX10_list 106 = .ok (.iload 6, 2) := by decide +kernel
theorem dX10_list_108 : decode cX10_list 108 = .ok (.ifCond .lt 53, 3) := by decide +kernel
theorem dX10_list_111 : decode cX10_list 111 = .ok (.iload_n 1, 1) := by decide +kernel
theorem dX10_list_112 : decode cX10_list 112 = .ok (.ifCond .lt 49, 3) := by decide +kernel
theorem dX10_list_115 : decode cX10_list 115 = .ok (.aload_n 0, 1) := by decide +kernel
theorem dX10_list_116 : decode cX10_list 116 = .ok (.iload 6, 2) := by decide +kernel
theorem dX10_list_118 : decode cX10_list 118 = .ok (.invokevirtual 101, 3) := by decide +kernel
theorem dX10_list_121 : decode cX10_list 121 = .ok (.ifCond .ne 23, 3) := by decide +kernel
theorem dX10_list_124 : decode cX10_list 124 = .ok (.iload 5, 2) := by decide +kernel
theorem dX10_list_126 : decode cX10_list 126 = .ok (.ifCond .ne 15, 3) := by decide +kernel
theorem dX10_list_129 : decode cX10_list 129 = .ok (.aload_n 0, 1) := by decide +kernel
theorem dX10_list_130 : decode cX10_list 130 = .ok (.iload 6, 2) := by decide +kernel
theorem dX10_list_132 : decode cX10_list 132 = .ok (.invokevirtual 104, 3) := by decide +kernel
theorem dX10_list_135 : decode cX10_list 135 = .ok (.i2l, 1) := by decide +kernel
theorem dX10_list_136 : decode cX10_list 136 = .ok (.ldc2_w 155, 3) := by decide +kernel
theorem dX10_list_139 : decode cX10_list 139 = .ok (.land, 1) := by decide +kernel
theorem dX10_list_140 : decode cX10_list 140 = .ok (.lreturn, 1) := by decide +kernel
theorem dX10_list_141 : decode cX10_list 141 = .ok (.iinc 5 (-1), 3) := by decide +kernel
theorem dX10_list_144 : decode cX10_list 144 = .ok (.aload_n 0, 1) := by decide +kernel
theorem dX10_list_145 : decode cX10_list 145 = .ok (.iload_n 3, 1) := by decide +kernel
theorem dX10_list_146 : decode cX10_list 146 = .ok (.iload 4, 2) := by decide +kernel
theorem dX10_list_148 : decode cX10_list 148 = .ok (.iload 7, 2) := by decide +kernel
theorem dX10_list_150 : decode cX10_list 150 = .ok (.invokevirtual 97, 3) := by decide +kernel
theorem dX10_list_153 : decode cX10_list 153 = .ok (.istore 6, 2) := by decide +kernel
theorem dX10_list_155 : decode cX10_list 155 = .ok (.iinc 7 1, 3) := by decide +kernel
theorem dX10_list_158 : decode cX10_list 158 = .ok (.goto (-52), 3) := by decide +kernel
theorem dX10_list_161 : decode cX10_list 161 = .ok (.ldc2_w 157, 3) := by decide +kernel
theorem dX10_list_164 : decode cX10_list 164 = .ok (.lreturn, 1) := by decide +kernel
set_option maxRecDepth 20000 in
theorem ggX10_survey_X10_volume : GoodIn wsX10_survey wsX10_volume := goodIn_r _ [10, 5, 11, 12, 13, 14, 2, 15, 16, 17, 18, 19, 20, 9, 21, 22, 23, 24, 25, 58, 59, 60, 61, 62, 63, 64, 65, 66, 67, 68, 69, 70, 71, 72, 73, 74, 75, 76, 77, 78, 79, 80, 81, 82, 83] (by decide +kernel) (by decide +kernel)
set_option maxRecDepth 20000 in
theorem gX10_survey_X10_volume : GoodIn wsX10_survey (wsV RX10 132 RX10 yX10_volume wsX10_volume) := goodIn_app (goodIn_of _ (by decide +kernel)) ggX10_survey_X10_volume
set_option maxRecDepth 20000 in
theorem ggX10_survey_X10_chain : GoodIn wsX10_survey wsX10_chain := goodIn_r _ [29, 15, 30, 31, 32, 9, 33, 34, 35, 36, 37, 16, 13, 14, 38, 39, 40, 41, 5, 58, 59, 60, 61, 62, 63, 64, 65, 66, 67, 68, 69, 70, 71, 72, 73, 74, 75, 76, 77, 78, 79, 80, 81, 82, 83] (by decide +kernel) (by decide +kernel)
set_option maxRecDepth 20000 in
theorem gX10_survey_X10_chain : GoodIn wsX10_survey (wsV RX10 94 RX10 yX10_chain wsX10_chain) := goodIn_app (goodIn_of _ (by decide +kernel)) ggX10_survey_X10_chain
set_option maxRecDepth 20000 in
theorem ggX10_survey_X10_nth : GoodIn wsX10_survey wsX10_nth := goodIn_r _ [45, 12, 5, 46, 47, 48, 9, 49, 17, 34, 35, 36, 37, 16, 13, 14, 38, 39, 40, 41, 30, 31, 32, 33, 15, 58, 59, 60, 61, 62, 63, 64, 65, 66, 67, 68, 69, 70, 71, 72, 73, 74, 75, 76, 77, 78, 79, 80, 81, 82, 83] (by decide +kernel) (by decide +kernel)
set_option maxRecDepth 20000 in
theorem gX10_survey_X10_nth : GoodIn wsX10_survey (wsV RX10 97 RX10 yX10_nth wsX10_nth) := goodIn_app (goodIn_of _ (by decide +kernel)) ggX10_survey_X10_nth
set_option maxRecDepth 20000 in
theorem ggX10_survey_X10_isPassed : GoodIn wsX10_survey wsX10_isPassed := goodIn_r _ [53, 5, 58, 59, 60, 61, 62, 63, 64, 65, 66, 67, 68, 69, 70, 71, 72, 73, 74, 75, 76, 77, 78, 79, 80, 81, 82, 83] (by decide +kernel) (by decide +kernel)
set_option maxRecDepth 20000 in
theorem gX10_survey_X10_isPassed : GoodIn wsX10_survey (wsV RX10 101 RX10 yX10_isPassed wsX10_isPassed) := goodIn_app (goodIn_of _ (by decide +kernel)) ggX10_survey_X10_isPassed
set_option maxRecDepth 20000 in
theorem ggX10_survey_X10_isDirectory : GoodIn wsX10_survey wsX10_isDirectory := goodIn_r _ [57, 5, 58, 59, 60, 61, 62, 63, 64, 65, 66, 67, 68, 69, 70, 71, 72, 73, 74, 75, 76, 77, 78, 79, 80, 81, 82, 83] (by decide +kernel) (by decide +kernel)
set_option maxRecDepth 20000 in
theorem gX10_survey_X10_isDirectory : GoodIn wsX10_survey (wsV RX10 123 RX10 yX10_isDirectory wsX10_isDirectory) := goodIn_app (goodIn_of _ (by decide +kernel)) ggX10_survey_X10_isDirectory
theorem dX10_survey_0 : decode cX10_survey 0 = .ok (.aload_n 0, 1) := by decide +kernel
theorem dX10_survey_1 : decode cX10_survey 1 = .ok (.invokevirtual 132, 3) := by decide +kernel
theorem dX10_survey_4 : decode cX10_survey 4 = .ok (.istore_n 1, 1) := by decide +kernel
theorem dX10_survey_5 : decode cX10_survey 5 = .ok (.iload_n 1, 1) := by decide +kernel
theorem dX10_survey_6 : decode cX10_survey 6 = .ok (.ifCond .ge 5, 3) := by decide +kernel
theorem dX10_survey_9 : decode cX10_survey 9 = .ok (.iload_n 1, 1) := by decide +kernel
theorem dX10_survey_10 : decode cX10_survey 10 = .ok (.ireturn, 1) := by decide +kernel
theorem dX10_survey_11 : decode cX10_survey 11 = .ok (.iconst 0, 1) := by decide +kernel
theorem dX10_survey_12 : decode cX10_survey 12 = .ok (.istore_n 2, 1) := by decide +kernel
theorem dX10_survey_13 : decode cX10_survey 13 = .ok (.iconst 0, 1) := by decide +kernel
theorem dX10_survey_14 : decode cX10_survey 14 = .ok (.istore_n 3, 1) := by decide +kernel
theorem dX10_survey_15 : decode cX10_survey 15 = .ok (.iconst 0, 1) := by decide +kernel
theorem dX10_survey_16 : decode cX10_survey 16 = .ok (.istore 4, 2) := by decide +kernel
theorem dX10_survey_18 : decode cX10_survey 18 = .ok (.iconst 0, 1) := by decide +kernel
theorem dX10_survey_19 : decode cX10_survey 19 = .ok (.istore 5, 2) := by decide +kernel
theorem dX10_survey_21 : decode cX10_survey 21 = .ok (.aload_n 0, 1) := by decide +kernel
theorem dX10_survey_22 : decode cX10_survey 22 = .ok (.getfield 38, 3) := by decide +kernel
theorem dX10_survey_25 : decode cX10_survey 25 = .ok (.iconst 0, 1) := by decide +kernel
theorem dX10_survey_26 : decode cX10_survey 26 = .ok (.aload_n 0, 1) := by decide +kernel
theorem dX10_survey_27 : decode cX10_survey 27 = .ok (.getfield 72, 3) := by decide +kernel
theorem dX10_survey_30 : decode cX10_survey 30 = .ok (.iastore, 1) := by decide +kernel
theorem dX10_survey_31 : decode cX10_survey 31 = .ok (.aload_n 0, 1) := by decide +kernel
theorem dX10_survey_32 : decode cX10_survey 32 = .ok (.getfield 41, 3) := by decide +kernel
theorem dX10_survey_35 : decode cX10_survey 35 = .ok (.iconst 0, 1) := by decide +kernel
theorem dX10_survey_36 : decode cX10_survey 36 = .ok (.aload_n 0, 1) := by decide +kernel
theorem dX10_survey_37 : decode cX10_survey 37 = .ok (.aload_n 0, 1) := by decide +kernel
theorem dX10_survey_38 : decode cX10_survey 38 = .ok (.getfield 72, 3) := by decide +kernel
theorem dX10_survey_41 : decode cX10_survey 41 = .ok (.invokevirtual 94, 3) := by decide +kernel
theorem dX10_survey_44 : decode cX10_survey 44 = .ok (.iastore, 1) := by decide +kernel
theorem dX10_survey_45 : decode cX10_survey 45 = .ok (.aload_n 0, 1) := by decide +kernel
theorem dX10_survey_46 : decode cX10_survey 46 = .ok (.getfield 44, 3) := by decide +kernel
theorem dX10_survey_49 : decode cX10_survey 49 = .ok (.iconst 0, 1) := by decide +kernel
theorem dX10_survey_50 : decode cX10_survey 50 = .ok (.iconst 0, 1) := by decide +kernel
theorem dX10_survey_51 : decode cX10_survey 51 = .ok (.iastore, 1) := by decide +kernel
theorem dX10_survey_52 : decode cX10_survey 52 = .ok (.aload_n 0, 1) := by decide +kernel
theorem dX10_survey_53 : decode cX10_survey 53 = .ok (.getfield 41, 3) := by decide +kernel
theorem dX10_survey_56 : decode cX10_survey 56 = .ok (.iconst 0, 1) := by decide +kernel
theorem dX10_survey_57 : decode cX10_survey 57 = .ok (.iaload, 1) := by decide +kernel
theorem dX10_survey_58 : decode cX10_survey 58 = .ok (.ifCond .ge 6, 3) := by decide +kernel
theorem dX10_survey_61 : decode cX10_survey 61 = .ok (.bipush (-9), 2) := by decide +kernel
theorem dX10_survey_63 : decode cX10_survey 63 = .ok (.ireturn, 1) := by decide +kernel
theorem dX10_survey_64 : decode cX10_survey 64 = .ok (.iload_n 2, 1) := by decide +kernel
theorem dX10_survey_65 : decode cX10_survey 65 = .ok (.ifCond .lt 166, 3) := by decide +kernel
theorem dX10_survey_68 : decode cX10_survey 68 = .ok (.aload_n 0, 1) := by decide +kernel
theorem dX10_survey_69 : decode cX10_survey 69 = .ok (.aload_n 0, 1) := by decide +kernel
theorem dX10_survey_70 : decode cX10_survey 70 = .ok (.getfield 38, 3) := by decide +kernel
theorem dX10_survey_73 : decode cX10_survey 73 = .ok (.iload_n 2, 1) := by decide +kernel
theorem dX10_survey_74 : decode cX10_survey 74 = .ok (.iaload, 1) := by decide +kernel
theorem dX10_survey_75 : decode cX10_survey 75 = .ok (.aload_n 0, 1) := by decide +kernel
theorem dX10_survey_76 : decode cX10_survey 76 = .ok (.getfield 41, 3) := by decide +kernel
theorem dX10_survey_79 : decode cX10_survey 79 = .ok (.iload_n 2, 1) := by decide +kernel
theorem dX10_survey_80 : decode cX10_survey 80 = .ok (.iaload, 1) := by decide +kernel
theorem dX10_survey_81 : decode cX10_survey 81 = .ok (.aload_n 0, 1) := by decide +kernel
theorem dX10_survey_82 : decode cX10_survey 82 = .ok (.getfield 44, 3) := by decide +kernel
theorem dX10_survey_85 : decode cX10_survey 85 = .ok (.iload_n 2, 1) := by decide +kernel
theorem dX10_survey_86 : decode cX10_survey 86 = .ok (.iaload, 1) := by decide +kernel
theorem dX10_survey_87 : decode cX10_survey 87 = .ok (.invokevirtual 97, 3) := by decide +kernel
theorem dX10_survey_90 : decode cX10_survey 90 = .ok (.istore 6, 2) := by decide +kernel
theorem dX10_survey_92 : decode cX10_survey 92 = .ok (.aload_n 0, 1) := by decide +kernel
theorem dX10_survey_93 : decode cX10_survey 93 = .ok (.getfield 44, 3) := by decide +kernel
theorem dX10_survey_96 : decode cX10_survey 96 = .ok (.iload_n 2, 1) := by decide +kernel
theorem dX10_survey_97 : decode cX10_survey 97 = .ok (.aload_n 0, 1) := by decide +kernel
theorem dX10_survey_98 : decode cX10_survey 98 = .ok (.getfield 44, 3) := by decide +kernel
theorem dX10_survey_101 : decode cX10_survey 101 = .ok (.iload_n 2, 1) := by decide +kernel
theorem dX10_survey_102 : decode cX10_survey 102 = .ok (.iaload, 1) := by decide +kernel
theorem dX10_survey_103 : decode cX10_survey 103 = .ok (.iconst 1, 1) := by decide +kernel
theorem dX10_survey_104 : decode cX10_survey 104 = .ok (.iadd, 1) := by decide +kernel
theorem dX10_survey_105 : decode cX10_survey 105 = .ok (.iastore, 1) := by decide +kernel
theorem dX10_survey_106 : decode cX10_survey 106 = .ok (.iload 6, 2) := by decide +kernel
theorem dX10_survey_108 : decode cX10_survey 108 = .ok (.ifCond .ge 9, 3) := by decide +kernel
theorem dX10_survey_111 : decode cX10_survey 111 = .ok (.iinc 2 (-1), 3) := by decide +kernel
theorem dX10_survey_114 : decode cX10_survey 114 = .ok (.goto 114, 3) := by decide +kernel
theorem dX10_survey_117 : decode cX10_survey 117 = .ok (.aload_n 0, 1) := by decide +kernel
theorem dX10_survey_118 : decode cX10_survey 118 = .ok (.iload 6, 2) := by decide +kernel
theorem dX10_survey_120 : decode cX10_survey 120 = .ok (.invokevirtual 101, 3) := by decide +kernel
theorem dX10_survey_123 : decode cX10_survey 123 = .ok (.ifCond .ne 105, 3) := by decide +kernel
theorem dX10_survey_126 : decode cX10_survey 126 = .ok (.iinc 3 1, 3) := by decide +kernel
theorem dX10_survey_129 : decode cX10_survey 129 = .ok (.iload_n 3, 1) := by decide +kernel
theorem dX10_survey_130 : decode cX10_survey 130 = .ok (.sipush 250, 3) := by decide +kernel
theorem dX10_survey_133 : decode cX10_survey 133 = .ok (.if_icmp .le 6, 3) := by decide +kernel
theorem dX10_survey_136 : decode cX10_survey 136 = .ok (.bipush (-14), 2) := by decide +kernel
theorem dX10_survey_138 : decode cX10_survey 138 = .ok (.ireturn, 1) := by decide +kernel
theorem dX10_survey_139 : decode cX10_survey 139 = .ok (.aload_n 0, 1) := by decide +kernel
theorem dX10_survey_140 : decode cX10_survey 140 = .ok (.iload 6, 2) := by decide +kernel
theorem dX10_survey_142 : decode cX10_survey 142 = .ok (.invokevirtual 123, 3) := by decide +kernel
theorem dX10_survey_145 : decode cX10_survey 145 = .ok (.ifCond .ne 9, 3) := by decide +kernel
theorem dX10_survey_148 : decode cX10_survey 148 = .ok (.iinc 4 1, 3) := by decide +kernel
theorem dX10_survey_151 : decode cX10_survey 151 = .ok (.goto 77, 3) := by decide +kernel
theorem dX10_survey_154 : decode cX10_survey 154 = .ok (.aload_n 0, 1) := by decide +kernel
theorem dX10_survey_155 : decode cX10_survey 155 = .ok (.aload_n 0, 1) := by decide +kernel
theorem dX10_survey_156 : decode cX10_survey 156 = .ok (.getfield 7, 3) := by decide +kernel
theorem dX10_survey_159 : decode cX10_survey 159 = .ok (.iload 6, 2) := by decide +kernel
theorem dX10_survey_161 : decode cX10_survey 161 = .ok (.iconst 5, 1) := by decide +kernel
theorem dX10_survey_162 : decode cX10_survey 162 = .ok (.iadd, 1) := by decide +kernel
theorem dX10_survey_163 : decode cX10_survey 163 = .ok (.iaload, 1) := by decide +kernel
theorem dX10_survey_164 : decode cX10_survey 164 = .ok (.invokevirtual 94, 3) := by decide +kernel
theorem dX10_survey_167 : decode cX10_survey 167 = .ok (.istore 7, 2) := by decide +kernel
theorem dX10_survey_169 : decode cX10_survey 169 = .ok (.iload_n 2, 1) := by decide +kernel
theorem dX10_survey_170 : decode cX10_survey 170 = .ok (.iconst 4, 1) := by decide +kernel
theorem dX10_survey_171 : decode cX10_survey 171 = .ok (.if_icmp .eq 8, 3) := by decide +kernel
theorem dX10_survey_174 : decode cX10_survey 174 = .ok (.iload 7, 2) := by decide +kernel
theorem dX10_survey_176 : decode cX10_survey 176 = .ok (.ifCond .ge 16, 3) := by decide +kernel
theorem dX10_survey_179 : decode cX10_survey 179 = .ok (.iload_n 2, 1) := by decide +kernel
theorem dX10_survey_180 : decode cX10_survey 180 = .ok (.iconst 4, 1) := by decide +kernel
theorem dX10_survey_181 : decode cX10_survey 181 = .ok (.if_icmp .ne 8, 3) := by decide +kernel
theorem dX10_survey_184 : decode cX10_survey 184 = .ok (.bipush (-13), 2) := by decide +kernel
theorem dX10_survey_186 : decode cX10_survey 186 = .ok (.goto 5, 3) := by decide +kernel
theorem dX10_survey_189 : decode cX10_survey 189 = .ok (.bipush (-9), 2) := by decide +kernel
theorem dX10_survey_191 : decode cX10_survey 191 = .ok (.ireturn, 1) := by decide +kernel
theorem dX10_survey_192 : decode cX10_survey 192 = .ok (.iinc 5 1, 3) := by decide +kernel
theorem dX10_survey_195 : decode cX10_survey 195 = .ok (.iinc 2 1, 3) := by decide +kernel
theorem dX10_survey_198 : decode cX10_survey 198 = .ok (.aload_n 0, 1) := by decide +kernel
theorem dX10_survey_199 : decode cX10_survey 199 = .ok (.getfield 38, 3) := by decide +kernel
theorem dX10_survey_202 : decode cX10_survey 202 = .ok (.iload_n 2, 1) := by decide +kernel
theorem dX10_survey_203 : decode cX10_survey 203 = .ok (.aload_n 0, 1) := by decide +kernel
theorem dX10_survey_204 : decode cX10_survey 204 = .ok (.getfield 7, 3) := by decide +kernel
theorem dX10_survey_207 : decode cX10_survey 207 = .ok (.iload 6, 2) := by decide +kernel
theorem dX10_survey_209 : decode cX10_survey 209 = .ok (.iconst 5, 1) := by decide +kernel
theorem dX10_survey_210 : decode cX10_survey 210 = .ok (.iadd, 1) := by decide +kernel
theorem dX10_survey_211 : decode cX10_survey 211 = .ok (.iaload, 1) := by decide +kernel
theorem dX10_survey_212 : decode cX10_survey 212 = .ok (.iastore, 1) := by decide +kernel
theorem dX10_survey_213 : decode cX10_survey 213 = .ok (.aload_n 0, 1) := by decide +kernel
theorem dX10_survey_214 : decode cX10_survey 214 = .ok (.getfield 41, 3) := by decide +kernel
theorem dX10_survey_217 : decode cX10_survey 217 = .ok (.iload_n 2, 1) := by decide +kernel
theorem dX10_survey_218 : decode cX10_survey 218 = .ok (.iload 7, 2) := by decide +kernel
theorem dX10_survey_220 : decode cX10_survey 220 = .ok (.iastore, 1) := by decide +kernel
theorem dX10_survey_221 : decode cX10_survey 221 = .ok (.aload_n 0, 1) := by decide +kernel
theorem dX10_survey_222 : decode cX10_survey 222 = .ok (.getfield 44, 3) := by decide +kernel
theorem dX10_survey_225 : decode cX10_survey 225 = .ok (.iload_n 2, 1) := by decide +kernel
theorem dX10_survey_226 : decode cX10_survey 226 = .ok (.iconst 0, 1) := by decide +kernel
theorem dX10_survey_227 : decode cX10_survey 227 = .ok (.iastore, 1) := by decide +kernel
theorem dX10_survey_228 : decode cX10_survey 228 = .ok (.goto (-164), 3) := by decide +kernel
theorem dX10_survey_231 : decode cX10_survey 231 = .ok (.iload 4, 2) := by decide +kernel
theorem dX10_survey_233 : decode cX10_survey 233 = .ok (.sipush 1000, 3) := by decide +kernel
theorem dX10_survey_236 : decode cX10_survey 236 = .ok (.iload 5, 2) := by decide +kernel
theorem dX10_survey_238 : decode cX10_survey 238 = .ok (.imul, 1) := by decide +kernel
theorem dX10_survey_239 : decode cX10_survey 239 = .ok (.iadd, 1) := by decide +kernel
theorem dX10_survey_240 : decode cX10_survey 240 = .ok (.ireturn, 1) := by decide +kernel
set_option maxRecDepth 20000 in
theorem ggX10_line_X10_byteOf : GoodIn wsX10_line wsX10_byteOf := goodIn_r _ [11, 12, 13, 14, 15, 10, 16, 17, 18, 19, 20, 21, 22, 23, 24, 25, 26, 27, 28, 29, 30, 31, 32, 33, 34, 35, 36, 37, 38, 39, 40, 41, 42, 43, 44, 45, 46, 47, 48, 49, 50, 51, 52, 53, 54, 55, 56, 57, 58, 59, 60] (by decide +kernel) (by decide +kernel)
set_option maxRecDepth 20000 in
theorem gX10_line_X10_byteOf : GoodIn wsX10_line (wsV RX10 148 RX10 yX10_byteOf wsX10_byteOf) := goodIn_app (goodIn_of _ (by decide +kernel)) ggX10_line_X10_byteOf
theorem dX10_line_0 : decode cX10_line 0 = .ok (.iload_n 2, 1) := by decide +kernel
theorem dX10_line_1 : decode cX10_line 1 = .ok (.iload_n 3, 1) := by decide +kernel
theorem dX10_line_2 : decode cX10_line 2 = .ok (.if_icmp .ne 5, 3) := by decide +kernel
theorem dX10_line_5 : decode cX10_line 5 = .ok (.iconst 1, 1) := by decide +kernel
theorem dX10_line_6 : decode cX10_line 6 = .ok (.ireturn, 1) := by decide +kernel
theorem dX10_line_7 : decode cX10_line 7 = .ok (.aload_n 0, 1) := by decide +kernel
theorem dX10_line_8 : decode cX10_line 8 = .ok (.iload_n 1, 1) := by decide +kernel
theorem dX10_line_9 : decode cX10_line 9 = .ok (.iload_n 2, 1) := by decide +kernel
theorem dX10_line_10 : decode cX10_line 10 = .ok (.invokevirtual 148, 3) := by decide +kernel
theorem dX10_line_13 : decode cX10_line 13 = .ok (.istore 4, 2) := by decide +kernel
theorem dX10_line_15 : decode cX10_line 15 = .ok (.iload 4, 2) := by decide +kernel
theorem dX10_line_17 : decode cX10_line 17 = .ok (.bipush 35, 2) := by decide +kernel
theorem dX10_line_19 : decode cX10_line 19 = .ok (.if_icmp .ne 5, 3) := by decide +kernel
theorem dX10_line_22 : decode cX10_line 22 = .ok (.iconst 1, 1) := by decide +kernel
theorem dX10_line_23 : decode cX10_line 23 = .ok (.ireturn, 1) := by decide +kernel
theorem dX10_line_24 : decode cX10_line 24 = .ok (.iload_n 3, 1) := by decide +kernel
theorem dX10_line_25 : decode cX10_line 25 = .ok (.iload_n 2, 1) := by decide +kernel
theorem dX10_line_26 : decode cX10_line 26 = .ok (.isub, 1) := by decide +kernel
theorem dX10_line_27 : decode cX10_line 27 = .ok (.iconst 2, 1) := by decide +kernel
theorem dX10_line_28 : decode cX10_line 28 = .ok (.if_icmp .lt 16, 3) := by decide +kernel
theorem dX10_line_31 : decode cX10_line 31 = .ok (.aload_n 0, 1) := by decide +kernel
theorem dX10_line_32 : decode cX10_line 32 = .ok (.iload_n 1, 1) := by decide +kernel
theorem dX10_line_33 : decode cX10_line 33 = .ok (.iload_n 2, 1) := by decide +kernel
theorem dX10_line_34 : decode cX10_line 34 = .ok (.iconst 1, 1) := by decide +kernel
theorem dX10_line_35 : decode cX10_line 35 = .ok (.iadd, 1) := by decide +kernel
theorem dX10_line_36 : decode cX10_line 36 = .ok (.invokevirtual 148, 3) := by decide +kernel
theorem dX10_line_39 : decode cX10_line 39 = .ok (.bipush 61, 2) := by decide +kernel
theorem dX10_line_41 : decode cX10_line 41 = .ok (.if_icmp .eq 5, 3) := by decide +kernel
theorem dX10_line_44 : decode cX10_line 44 = .ok (.iconst 0, 1) := by decide +kernel
theorem dX10_line_45 : decode cX10_line 45 = .ok (.ireturn, 1) := by decide +kernel
theorem dX10_line_46 : decode cX10_line 46 = .ok (.iload_n 3, 1) := by decide +kernel
theorem dX10_line_47 : decode cX10_line 47 = .ok (.iload_n 2, 1) := by decide +kernel
theorem dX10_line_48 : decode cX10_line 48 = .ok (.isub, 1) := by decide +kernel
theorem dX10_line_49 : decode cX10_line 49 = .ok (.iconst 2, 1) := by decide +kernel
theorem dX10_line_50 : decode cX10_line 50 = .ok (.isub, 1) := by decide +kernel
theorem dX10_line_51 : decode cX10_line 51 = .ok (.istore 5, 2) := by decide +kernel
theorem dX10_line_53 : decode cX10_line 53 = .ok (.iload 4, 2) := by decide +kernel
theorem dX10_line_55 : decode cX10_line 55 = .ok (.bipush 65, 2) := by decide +kernel
theorem dX10_line_57 : decode cX10_line 57 = .ok (.if_icmp .ne 12, 3) := by decide +kernel
theorem dX10_line_60 : decode cX10_line 60 = .ok (.iload 5, 2) := by decide +kernel
theorem dX10_line_62 : decode cX10_line 62 = .ok (.bipush 24, 2) := by decide +kernel
theorem dX10_line_64 : decode cX10_line 64 = .ok (.if_icmp .le 5, 3) := by decide +kernel
theorem dX10_line_67 : decode cX10_line 67 = .ok (.iconst 0, 1) := by decide +kernel
theorem dX10_line_68 : decode cX10_line 68 = .ok (.ireturn, 1) := by decide +kernel
theorem dX10_line_69 : decode cX10_line 69 = .ok (.iconst 0, 1) := by decide +kernel
theorem dX10_line_70 : decode cX10_line 70 = .ok (.istore 6, 2) := by decide +kernel
theorem dX10_line_72 : decode cX10_line 72 = .ok (.iload 6, 2) := by decide +kernel
theorem dX10_line_74 : decode cX10_line 74 = .ok (.iload 5, 2) := by decide +kernel
theorem dX10_line_76 : decode cX10_line 76 = .ok (.if_icmp .ge 70, 3) := by decide +kernel
theorem dX10_line_79 : decode cX10_line 79 = .ok (.aload_n 0, 1) := by decide +kernel
theorem dX10_line_80 : decode cX10_line 80 = .ok (.iload_n 1, 1) := by decide +kernel
theorem dX10_line_81 : decode cX10_line 81 = .ok (.iload_n 2, 1) := by decide +kernel
theorem dX10_line_82 : decode cX10_line 82 = .ok (.iconst 2, 1) := by decide +kernel
theorem dX10_line_83 : decode cX10_line 83 = .ok (.iadd, 1) := by decide +kernel
theorem dX10_line_84 : decode cX10_line 84 = .ok (.iload 6, 2) := by decide +kernel
theorem dX10_line_86 : decode cX10_line 86 = .ok (.iadd, 1) := by decide +kernel
theorem dX10_line_87 : decode cX10_line 87 = .ok (.invokevirtual 148, 3) := by decide +kernel
theorem dX10_line_90 : decode cX10_line 90 = .ok (.istore 7, 2) := by decide +kernel
theorem dX10_line_92 : decode cX10_line 92 = .ok (.iload 4, 2) := by decide +kernel
theorem dX10_line_94 : decode cX10_line 94 = .ok (.bipush 75, 2) := by decide +kernel
theorem dX10_line_96 : decode cX10_line 96 = .ok (.if_icmp .ne 12, 3) := by decide +kernel
theorem dX10_line_99 : decode cX10_line 99 = .ok (.aload_n 0, 1) := by decide +kernel
theorem dX10_line_100 : decode cX10_line 100 = .ok (.getfield 29, 3) := by decide +kernel
theorem dX10_line_103 : decode cX10_line 103 = .ok (.iload 6, 2) := by decide +kernel
theorem dX10_line_105 : decode cX10_line 105 = .ok (.iload 7, 2) := by decide +kernel
theorem dX10_line_107 : decode cX10_line 107 = .ok (.iastore, 1) := by decide +kernel
theorem dX10_line_108 : decode cX10_line 108 = .ok (.iload 4, 2) := by decide +kernel
theorem dX10_line_110 : decode cX10_line 110 = .ok (.bipush 70, 2) := by decide +kernel
theorem dX10_line_112 : decode cX10_line 112 = .ok (.if_icmp .ne 12, 3) := by decide +kernel
theorem dX10_line_115 : decode cX10_line 115 = .ok (.aload_n 0, 1) := by decide +kernel
theorem dX10_line_116 : decode cX10_line 116 = .ok (.getfield 32, 3) := by decide +kernel
theorem dX10_line_119 : decode cX10_line 119 = .ok (.iload 6, 2) := by decide +kernel
theorem dX10_line_121 : decode cX10_line 121 = .ok (.iload 7, 2) := by decide +kernel
theorem dX10_line_123 : decode cX10_line 123 = .ok (.iastore, 1) := by decide +kernel
theorem dX10_line_124 : decode cX10_line 124 = .ok (.iload 4, 2) := by decide +kernel
theorem dX10_line_126 : decode cX10_line 126 = .ok (.bipush 65, 2) := by decide +kernel
theorem dX10_line_128 : decode cX10_line 128 = .ok (.if_icmp .ne 12, 3) := by decide +kernel
theorem dX10_line_131 : decode cX10_line 131 = .ok (.aload_n 0, 1) := by decide +kernel
theorem dX10_line_132 : decode cX10_line 132 = .ok (.getfield 35, 3) := by decide +kernel
theorem dX10_line_135 : decode cX10_line 135 = .ok (.iload 6, 2) := by decide +kernel
theorem dX10_line_137 : decode cX10_line 137 = .ok (.iload 7, 2) := by decide +kernel
theorem dX10_line_139 : decode cX10_line 139 = .ok (.iastore, 1) := by decide +kernel
theorem dX10_line_140 : decode cX10_line 140 = .ok (.iinc 6 1, 3) := by decide +kernel
theorem dX10_line_143 : decode cX10_line 143 = .ok (.goto (-71), 3) := by decide +kernel
theorem dX10_line_146 : decode cX10_line 146 = .ok (.aload_n 0, 1) := by decide +kernel
theorem dX10_line_147 : decode cX10_line 147 = .ok (.iload 4, 2) := by decide +kernel
theorem dX10_line_149 : decode cX10_line 149 = .ok (.bipush 75, 2) := by decide +kernel
theorem dX10_line_151 : decode cX10_line 151 = .ok (.if_icmp .ne 8, 3) := by decide +kernel
theorem dX10_line_154 : decode cX10_line 154 = .ok (.iload 5, 2) := by decide +kernel
theorem dX10_line_156 : decode cX10_line 156 = .ok (.goto 7, 3) := by decide +kernel
theorem dX10_line_159 : decode cX10_line 159 = .ok (.aload_n 0, 1) := by decide +kernel
theorem dX10_line_160 : decode cX10_line 160 = .ok (.getfield 159, 3) := by decide +kernel
theorem dX10_line_163 : decode cX10_line 163 = .ok (.putfield 159, 3) := by decide +kernel
theorem dX10_line_166 : decode cX10_line 166 = .ok (.aload_n 0, 1) := by decide +kernel
theorem dX10_line_167 : decode cX10_line 167 = .ok (.iload 4, 2) := by decide +kernel
theorem dX10_line_169 : decode cX10_line 169 = .ok (.bipush 70, 2) := by decide +kernel
theorem dX10_line_171 : decode cX10_line 171 = .ok (.if_icmp .ne 8, 3) := by decide +kernel
theorem dX10_line_174 : decode cX10_line 174 = .ok (.iload 5, 2) := by decide +kernel
theorem dX10_line_176 : decode cX10_line 176 = .ok (.goto 7, 3) := by decide +kernel
theorem dX10_line_179 : decode cX10_line 179 = .ok (.aload_n 0, 1) := by decide +kernel
theorem dX10_line_180 : decode cX10_line 180 = .ok (.getfield 162, 3) := by decide +kernel
theorem dX10_line_183 : decode cX10_line 183 = .ok (.putfield 162, 3) := by decide +kernel
theorem dX10_line_186 : decode cX10_line 186 = .ok (.aload_n 0, 1) := by decide +kernel
theorem dX10_line_187 : decode cX10_line 187 = .ok (.iload 4, 2) := by decide +kernel
theorem dX10_line_189 : decode cX10_line 189 = .ok (.bipush 65, 2) := by decide +kernel
theorem dX10_line_191 : decode cX10_line 191 = .ok (.if_icmp .ne 8, 3) := by decide +kernel
theorem dX10_line_194 : decode cX10_line 194 = .ok (.iload 5, 2) := by decide +kernel
theorem dX10_line_196 : decode cX10_line 196 = .ok (.goto 7, 3) := by decide +kernel
theorem dX10_line_199 : decode cX10_line 199 = .ok (.aload_n 0, 1) := by decide +kernel
theorem dX10_line_200 : decode cX10_line 200 = .ok (.getfield 165, 3) := by decide +kernel
theorem dX10_line_203 : decode cX10_line 203 = .ok (.putfield 165, 3) := by decide +kernel
theorem dX10_line_206 : decode cX10_line 206 = .ok (.iconst 1, 1) := by decide +kernel
theorem dX10_line_207 : decode cX10_line 207 = .ok (.ireturn, 1) := by decide +kernel
set_option maxRecDepth 20000 in
theorem ggX10_settings_X10_find : GoodIn wsX10_settings wsX10_find := goodIn_r _ [10, 11, 12, 13, 14, 15, 16, 17, 9, 18, 2, 1, 19, 20, 21, 22, 23, 24, 25, 26, 27, 28, 29, 30, 31, 32, 33, 34, 35, 36, 37, 38, 39, 40, 41, 42, 43, 44, 45, 46, 47, 48, 49, 50, 51, 52, 53, 54, 55, 56, 57, 58, 59, 60, 61, 62, 63, 64, 65, 66, 67, 68, 69, 89, 90, 91, 92, 93, 94, 95, 96, 97, 98, 99, 100, 101, 102, 103, 104, 105, 106, 107, 108, 109, 110, 111, 112, 113, 114] (by decide +kernel) (by decide +kernel)
set_option maxRecDepth 20000 in
theorem gX10_settings_X10_find : GoodIn wsX10_settings (wsV RX10 139 RX10 yX10_find wsX10_find) := goodIn_app (goodIn_of _ (by decide +kernel)) ggX10_settings_X10_find
set_option maxRecDepth 20000 in
theorem ggX10_settings_X10_isDirectory : GoodIn wsX10_settings wsX10_isDirectory := goodIn_r _ [69, 14, 89, 90, 91, 92, 93, 94, 95, 96, 97, 98, 99, 100, 101, 102, 103, 104, 105, 106, 107, 108, 109, 110, 111, 112, 113, 114] (by decide +kernel) (by decide +kernel)
set_option maxRecDepth 20000 in
theorem gX10_settings_X10_isDirectory : GoodIn wsX10_settings (wsV RX10 123 RX10 yX10_isDirectory wsX10_isDirectory) := goodIn_app (goodIn_of _ (by decide +kernel)) ggX10_settings_X10_isDirectory
set_option maxRecDepth 20000 in
theorem ggX10_settings_X10_isBroken : GoodIn wsX10_settings wsX10_isBroken := goodIn_r _ [73, 14, 51, 74, 75, 76, 9, 77, 43, 44, 45, 46, 27, 28, 29, 30, 31, 32, 33, 34, 35, 36, 37, 38, 39, 40, 41, 42, 89, 90, 91, 92, 93, 94, 95, 96, 97, 98, 99, 100, 101, 102, 103, 104, 105, 106, 107, 108, 109, 110, 111, 112, 113, 114] (by decide +kernel) (by decide +kernel)
set_option maxRecDepth 20000 in
theorem gX10_settings_X10_isBroken : GoodIn wsX10_settings (wsV RX10 145 RX10 yX10_isBroken wsX10_isBroken) := goodIn_app (goodIn_of _ (by decide +kernel)) ggX10_settings_X10_isBroken
set_option maxRecDepth 20000 in
theorem ggX10_settings_X10_sizeAt : GoodIn wsX10_settings wsX10_sizeAt := goodIn_r _ [77, 43, 44, 45, 9, 46, 14, 89, 90, 91, 92, 93, 94, 95, 96, 97, 98, 99, 100, 101, 102, 103, 104, 105, 106, 107, 108, 109, 110, 111, 112, 113, 114] (by decide +kernel) (by decide +kernel)
set_option maxRecDepth 20000 in
theorem gX10_settings_X10_sizeAt : GoodIn wsX10_settings (wsV RX10 126 RX10 yX10_sizeAt wsX10_sizeAt) := goodIn_app (goodIn_of _ (by decide +kernel)) ggX10_settings_X10_sizeAt
set_option maxRecDepth 20000 in
theorem ggX10_settings_X10_byteOf : GoodIn wsX10_settings wsX10_byteOf := goodIn_r _ [81, 14, 52, 53, 54, 9, 55, 51, 56, 36, 37, 38, 39, 40, 41, 42, 43, 44, 45, 46, 32, 33, 34, 35, 31, 89, 90, 91, 92, 93, 94, 95, 96, 97, 98, 99, 100, 101, 102, 103, 104, 105, 106, 107, 108, 109, 110, 111, 112, 113, 114] (by decide +kernel) (by decide +kernel)
set_option maxRecDepth 20000 in
theorem gX10_settings_X10_byteOf : GoodIn wsX10_settings (wsV RX10 148 RX10 yX10_byteOf wsX10_byteOf) := goodIn_app (goodIn_of _ (by decide +kernel)) ggX10_settings_X10_byteOf
set_option maxRecDepth 20000 in
theorem ggX10_settings_X10_line : GoodIn wsX10_settings wsX10_line := goodIn_r _ [85, 86, 87, 88, 3, 4, 5, 78, 79, 80, 9, 81, 14, 52, 53, 54, 55, 51, 56, 36, 37, 38, 39, 40, 41, 42, 43, 44, 45, 46, 32, 33, 34, 35, 31, 89, 90, 91, 92, 93, 94, 95, 96, 97, 98, 99, 100, 101, 102, 103, 104, 105, 106, 107, 108, 109, 110, 111, 112, 113, 114] (by decide +kernel) (by decide +kernel)
set_option maxRecDepth 20000 in
theorem gX10_settings_X10_line : GoodIn wsX10_settings (wsV RX10 168 RX10 yX10_line wsX10_line) := goodIn_app (goodIn_of _ (by decide +kernel)) ggX10_settings_X10_line
theorem dX10_settings_0 : decode cX10_settings 0 = .ok (.aload_n 0, 1) := by decide +kernel
theorem dX10_settings_1 : decode cX10_settings 1 = .ok (.getfield 23, 3) := by decide +kernel
theorem dX10_settings_4 : decode cX10_settings 4 = .ok (.iconst 0, 1) := by decide +kernel
theorem dX10_settings_5 : decode cX10_settings 5 = .ok (.bipush 66, 2) := by decide +kernel
theorem dX10_settings_7 : decode cX10_settings 7 = .ok (.iastore, 1) := by decide +kernel
theorem dX10_settings_8 : decode cX10_settings 8 = .ok (.aload_n 0, 1) := by decide +kernel
theorem dX10_settings_9 : decode cX10_settings 9 = .ok (.getfield 23, 3) := by decide +kernel
theorem dX10_settings_12 : decode cX10_settings 12 = .ok (.iconst 1, 1) := by decide +kernel
theorem dX10_settings_13 : decode cX10_settings 13 = .ok (.bipush 79, 2) := by decide +kernel
theorem dX10_settings_15 : decode cX10_settings 15 = .ok (.iastore, 1) := by decide +kernel
theorem dX10_settings_16 : decode cX10_settings 16 = .ok (.aload_n 0, 1) := by decide +kernel
theorem dX10_settings_17 : decode cX10_settings 17 = .ok (.getfield 23, 3) := by decide +kernel
theorem dX10_settings_20 : decode cX10_settings 20 = .ok (.iconst 2, 1) := by decide +kernel
theorem dX10_settings_21 : decode cX10_settings 21 = .ok (.bipush 79, 2) := by decide +kernel
theorem dX10_settings_23 : decode cX10_settings 23 = .ok (.iastore, 1) := by decide +kernel
theorem dX10_settings_24 : decode cX10_settings 24 = .ok (.aload_n 0, 1) := by decide +kernel
theorem dX10_settings_25 : decode cX10_settings 25 = .ok (.getfield 23, 3) := by decide +kernel
theorem dX10_settings_28 : decode cX10_settings 28 = .ok (.iconst 3, 1) := by decide +kernel
theorem dX10_settings_29 : decode cX10_settings 29 = .ok (.bipush 84, 2) := by decide +kernel
theorem dX10_settings_31 : decode cX10_settings 31 = .ok (.iastore, 1) := by decide +kernel
theorem dX10_settings_32 : decode cX10_settings 32 = .ok (.aload_n 0, 1) := by decide +kernel
theorem dX10_settings_33 : decode cX10_settings 33 = .ok (.iconst 4, 1) := by decide +kernel
theorem dX10_settings_34 : decode cX10_settings 34 = .ok (.putfield 110, 3) := by decide +kernel
theorem dX10_settings_37 : decode cX10_settings 37 = .ok (.aload_n 0, 1) := by decide +kernel
theorem dX10_settings_38 : decode cX10_settings 38 = .ok (.invokevirtual 139, 3) := by decide +kernel
theorem dX10_settings_41 : decode cX10_settings 41 = .ok (.istore_n 1, 1) := by decide +kernel
theorem dX10_settings_42 : decode cX10_settings 42 = .ok (.iload_n 1, 1) := by decide +kernel
theorem dX10_settings_43 : decode cX10_settings 43 = .ok (.ifCond .ge 5, 3) := by decide +kernel
theorem dX10_settings_46 : decode cX10_settings 46 = .ok (.iload_n 1, 1) := by decide +kernel
theorem dX10_settings_47 : decode cX10_settings 47 = .ok (.ireturn, 1) := by decide +kernel
theorem dX10_settings_48 : decode cX10_settings 48 = .ok (.aload_n 0, 1) := by decide +kernel
theorem dX10_settings_49 : decode cX10_settings 49 = .ok (.iload_n 1, 1) := by decide +kernel
theorem dX10_settings_50 : decode cX10_settings 50 = .ok (.invokevirtual 123, 3) := by decide +kernel
theorem dX10_settings_53 : decode cX10_settings 53 = .ok (.ifCond .eq 6, 3) := by decide +kernel
theorem dX10_settings_56 : decode cX10_settings 56 = .ok (.bipush (-7), 2) := by decide +kernel
theorem dX10_settings_58 : decode cX10_settings 58 = .ok (.ireturn, 1) := by decide +kernel
theorem dX10_settings_59 : decode cX10_settings 59 = .ok (.aload_n 0, 1) := by decide +kernel
theorem dX10_settings_60 : decode cX10_settings 60 = .ok (.iload_n 1, 1) := by decide +kernel
theorem dX10_settings_61 : decode cX10_settings 61 = .ok (.invokevirtual 145, 3) := by decide +kernel
theorem dX10_settings_64 : decode cX10_settings 64 = .ok (.ifCond .eq 6, 3) := by decide +kernel
theorem dX10_settings_67 : decode cX10_settings 67 = .ok (.bipush (-9), 2) := by decide +kernel
theorem dX10_settings_69 : decode cX10_settings 69 = .ok (.ireturn, 1) := by decide +kernel
theorem dX10_settings_70 : decode cX10_settings 70 = .ok (.aload_n 0, 1) := by decide +kernel
theorem dX10_settings_71 : decode cX10_settings 71 = .ok (.iload_n 1, 1) := by decide +kernel
theorem dX10_settings_72 : decode cX10_settings 72 = .ok (.invokevirtual 126, 3) := by decide +kernel
theorem dX10_settings_75 : decode cX10_settings 75 = .ok (.istore_n 2, 1) := by decide +kernel
theorem dX10_settings_76 : decode cX10_settings 76 = .ok (.aload_n 0, 1) := by decide +kernel
theorem dX10_settings_77 : decode cX10_settings 77 = .ok (.iconst (-1), 1) := by decide +kernel
theorem dX10_settings_78 : decode cX10_settings 78 = .ok (.putfield 159, 3) := by decide +kernel
theorem dX10_settings_81 : decode cX10_settings 81 = .ok (.aload_n 0, 1) := by decide +kernel
theorem dX10_settings_82 : decode cX10_settings 82 = .ok (.iconst (-1), 1) := by decide +kernel
theorem dX10_settings_83 : decode cX10_settings 83 = .ok (.putfield 162, 3) := by decide +kernel
theorem dX10_settings_86 : decode cX10_settings 86 = .ok (.aload_n 0, 1) := by decide +kernel
theorem dX10_settings_87 : decode cX10_settings 87 = .ok (.iconst (-1), 1) := by decide +kernel
theorem dX10_settings_88 : decode cX10_settings 88 = .ok (.putfield 165, 3) := by decide +kernel
theorem dX10_settings_91 : decode cX10_settings 91 = .ok (.iload_n 2, 1) := by decide +kernel
theorem dX10_settings_92 : decode cX10_settings 92 = .ok (.sipush 200, 3) := by decide +kernel
theorem dX10_settings_95 : decode cX10_settings 95 = .ok (.if_icmp .le 6, 3) := by decide +kernel
theorem dX10_settings_98 : decode cX10_settings 98 = .ok (.bipush (-10), 2) := by decide +kernel
theorem dX10_settings_100 : decode cX10_settings 100 = .ok (.ireturn, 1) := by decide +kernel
theorem dX10_settings_101 : decode cX10_settings 101 = .ok (.iconst 0, 1) := by decide +kernel
theorem dX10_settings_102 : decode cX10_settings 102 = .ok (.istore_n 3, 1) := by decide +kernel
theorem dX10_settings_103 : decode cX10_settings 103 = .ok (.iconst 0, 1) := by decide +kernel
theorem dX10_settings_104 : decode cX10_settings 104 = .ok (.istore 4, 2) := by decide +kernel
theorem dX10_settings_106 : decode cX10_settings 106 = .ok (.iload 4, 2) := by decide +kernel
theorem dX10_settings_108 : decode cX10_settings 108 = .ok (.iload_n 2, 1) := by decide +kernel
theorem dX10_settings_109 : decode cX10_settings 109 = .ok (.if_icmp .gt 67, 3) := by decide +kernel
theorem dX10_settings_112 : decode cX10_settings 112 = .ok (.iload 4, 2) := by decide +kernel
theorem dX10_settings_114 : decode cX10_settings 114 = .ok (.iload_n 2, 1) := by decide +kernel
theorem dX10_settings_115 : decode cX10_settings 115 = .ok (.if_icmp .eq 15, 3) := by decide +kernel
theorem dX10_settings_118 : decode cX10_settings 118 = .ok (.aload_n 0, 1) := by decide +kernel
theorem dX10_settings_119 : decode cX10_settings 119 = .ok (.iload_n 1, 1) := by decide +kernel
theorem dX10_settings_120 : decode cX10_settings 120 = .ok (.iload 4, 2) := by decide +kernel
theorem dX10_settings_122 : decode cX10_settings 122 = .ok (.invokevirtual 148, 3) := by decide +kernel
theorem dX10_settings_125 : decode cX10_settings 125 = .ok (.bipush 10, 2) := by decide +kernel
theorem dX10_settings_127 : decode cX10_settings 127 = .ok (.if_icmp .ne 7, 3) := by decide +kernel
theorem dX10_settings_130 : decode cX10_settings 130 = .ok (.iconst 1, 1) := by decide +kernel
theorem dX10_settings_131 : decode cX10_settings 131 = .ok (.goto 4, 3) := by decide +kernel
theorem dX10_settings_134 : decode cX10_settings 134 = .ok (.iconst 0, 1) := by decide +kernel
theorem dX10_settings_135 : decode cX10_settings 135 = .ok (.istore 5, 2) := by decide +kernel
theorem dX10_settings_137 : decode cX10_settings 137 = .ok (.iload 5, 2) := by decide +kernel
theorem dX10_settings_139 : decode cX10_settings 139 = .ok (.ifCond .eq 17, 3) := by decide +kernel
theorem dX10_settings_142 : decode cX10_settings 142 = .ok (.aload_n 0, 1) := by decide +kernel
theorem dX10_settings_143 : decode cX10_settings 143 = .ok (.iload_n 1, 1) := by decide +kernel
theorem dX10_settings_144 : decode cX10_settings 144 = .ok (.iload_n 3, 1) := by decide +kernel
theorem dX10_settings_145 : decode cX10_settings 145 = .ok (.iload 4, 2) := by decide +kernel
theorem dX10_settings_147 : decode cX10_settings 147 = .ok (.invokevirtual 168, 3) := by decide +kernel
theorem dX10_settings_150 : decode cX10_settings 150 = .ok (.ifCond .ne 6, 3) := by decide +kernel
theorem dX10_settings_153 : decode cX10_settings 153 = .ok (.bipush (-10), 2) := by decide +kernel
theorem dX10_settings_155 : decode cX10_settings 155 = .ok (.ireturn, 1) := by decide +kernel
theorem dX10_settings_156 : decode cX10_settings 156 = .ok (.iload 5, 2) := by decide +kernel
theorem dX10_settings_158 : decode cX10_settings 158 = .ok (.ifCond .eq 10, 3) := by decide +kernel
theorem dX10_settings_161 : decode cX10_settings 161 = .ok (.iload 4, 2) := by decide +kernel
theorem dX10_settings_163 : decode cX10_settings 163 = .ok (.iconst 1, 1) := by decide +kernel
theorem dX10_settings_164 : decode cX10_settings 164 = .ok (.iadd, 1) := by decide +kernel
theorem dX10_settings_165 : decode cX10_settings 165 = .ok (.goto 4, 3) := by decide +kernel
theorem dX10_settings_168 : decode cX10_settings 168 = .ok (.iload_n 3, 1) := by decide +kernel
theorem dX10_settings_169 : decode cX10_settings 169 = .ok (.istore_n 3, 1) := by decide +kernel
theorem dX10_settings_170 : decode cX10_settings 170 = .ok (.iinc 4 1, 3) := by decide +kernel
theorem dX10_settings_173 : decode cX10_settings 173 = .ok (.goto (-67), 3) := by decide +kernel
theorem dX10_settings_176 : decode cX10_settings 176 = .ok (.aload_n 0, 1) := by decide +kernel
theorem dX10_settings_177 : decode cX10_settings 177 = .ok (.getfield 159, 3) := by decide +kernel
theorem dX10_settings_180 : decode cX10_settings 180 = .ok (.ifCond .ge 8, 3) := by decide +kernel
theorem dX10_settings_183 : decode cX10_settings 183 = .ok (.bipush (-10), 2) := by decide +kernel
theorem dX10_settings_185 : decode cX10_settings 185 = .ok (.goto 4, 3) := by decide +kernel
theorem dX10_settings_188 : decode cX10_settings 188 = .ok (.iconst 0, 1) := by decide +kernel
theorem dX10_settings_189 : decode cX10_settings 189 = .ok (.ireturn, 1) := by decide +kernel
set_option maxRecDepth 20000 in
theorem ggX10_intOf_X10_byteOf : GoodIn wsX10_intOf wsX10_byteOf := goodIn_r _ [5, 6, 7, 8, 9, 4, 10, 11, 12, 13, 14, 15, 16, 17, 18, 19, 20, 21, 22, 23, 24, 25, 26, 27, 28, 29, 30, 31, 32, 33, 34, 35, 36, 37, 38, 39, 40, 41, 42, 43, 44, 45, 46, 47, 48, 49, 50, 51, 52, 53, 54] (by decide +kernel) (by decide +kernel)
set_option maxRecDepth 20000 in
theorem gX10_intOf_X10_byteOf : GoodIn wsX10_intOf (wsV RX10 148 RX10 yX10_byteOf wsX10_byteOf) := goodIn_app (goodIn_of _ (by decide +kernel)) ggX10_intOf_X10_byteOf
theorem dX10_intOf_0 : decode cX10_intOf 0 = .ok (.iconst 0, 1) := by decide +kernel
theorem dX10_intOf_1 : decode cX10_intOf 1 = .ok (.istore_n 3, 1) := by decide +kernel
theorem dX10_intOf_2 : decode cX10_intOf 2 = .ok (.iconst 3, 1) := by decide +kernel
theorem dX10_intOf_3 : decode cX10_intOf 3 = .ok (.istore 4, 2) := by decide +kernel
theorem dX10_intOf_5 : decode cX10_intOf 5 = .ok (.iload 4, 2) := by decide +kernel
theorem dX10_intOf_7 : decode cX10_intOf 7 = .ok (.ifCond .lt 24, 3) := by decide +kernel
theorem dX10_intOf_10 : decode cX10_intOf 10 = .ok (.iload_n 3, 1) := by decide +kernel
theorem dX10_intOf_11 : decode cX10_intOf 11 = .ok (.bipush 8, 2) := by decide +kernel
theorem dX10_intOf_13 : decode cX10_intOf 13 = .ok (.ishl, 1) := by decide +kernel
theorem dX10_intOf_14 : decode cX10_intOf 14 = .ok (.aload_n 0, 1) := by decide +kernel
theorem dX10_intOf_15 : decode cX10_intOf 15 = .ok (.iload_n 1, 1) := by decide +kernel
theorem dX10_intOf_16 : decode cX10_intOf 16 = .ok (.iload_n 2, 1) := by decide +kernel
theorem dX10_intOf_17 : decode cX10_intOf 17 = .ok (.iload 4, 2) := by decide +kernel
theorem dX10_intOf_19 : decode cX10_intOf 19 = .ok (.iadd, 1) := by decide +kernel
theorem dX10_intOf_20 : decode cX10_intOf 20 = .ok (.invokevirtual 148, 3) := by decide +kernel
theorem dX10_intOf_23 : decode cX10_intOf 23 = .ok (.ior, 1) := by decide +kernel
theorem dX10_intOf_24 : decode cX10_intOf 24 = .ok (.istore_n 3, 1) := by decide +kernel
theorem dX10_intOf_25 : decode cX10_intOf 25 = .ok (.iinc 4 (-1), 3) := by decide +kernel
theorem dX10_intOf_28 : decode cX10_intOf 28 = .ok (.goto (-23), 3) := by decide +kernel
theorem dX10_intOf_31 : decode cX10_intOf 31 = .ok (.iload_n 3, 1) := by decide +kernel
theorem dX10_intOf_32 : decode cX10_intOf 32 = .ok (.ireturn, 1) := by decide +kernel
theorem dX10_put_0 : decode cX10_put 0 = .ok (.iconst 0, 1) := by decide +kernel
theorem dX10_put_1 : decode cX10_put 1 = .ok (.istore_n 3, 1) := by decide +kernel
theorem dX10_put_2 : decode cX10_put 2 = .ok (.iload_n 3, 1) := by decide +kernel
theorem dX10_put_3 : decode cX10_put 3 = .ok (.iconst 4, 1) := by decide +kernel
theorem dX10_put_4 : decode cX10_put 4 = .ok (.if_icmp .ge 27, 3) := by decide +kernel
theorem dX10_put_7 : decode cX10_put 7 = .ok (.aload_n 0, 1) := by decide +kernel
theorem dX10_put_8 : decode cX10_put 8 = .ok (.getfield 13, 3) := by decide +kernel
theorem dX10_put_11 : decode cX10_put 11 = .ok (.iload_n 1, 1) := by decide +kernel
theorem dX10_put_12 : decode cX10_put 12 = .ok (.iload_n 3, 1) := by decide +kernel
theorem dX10_put_13 : decode cX10_put 13 = .ok (.iadd, 1) := by decide +kernel
theorem dX10_put_14 : decode cX10_put 14 = .ok (.iload_n 2, 1) := by decide +kernel
theorem dX10_put_15 : decode cX10_put 15 = .ok (.bipush 8, 2) := by decide +kernel
theorem dX10_put_17 : decode cX10_put 17 = .ok (.iload_n 3, 1) := by decide +kernel
theorem dX10_put_18 : decode cX10_put 18 = .ok (.imul, 1) := by decide +kernel
theorem dX10_put_19 : decode cX10_put 19 = .ok (.ishr, 1) := by decide +kernel
theorem dX10_put_20 : decode cX10_put 20 = .ok (.sipush 255, 3) := by decide +kernel
theorem dX10_put_23 : decode cX10_put 23 = .ok (.iand, 1) := by decide +kernel
theorem dX10_put_24 : decode cX10_put 24 = .ok (.iastore, 1) := by decide +kernel
theorem dX10_put_25 : decode cX10_put 25 = .ok (.iinc 3 1, 3) := by decide +kernel
theorem dX10_put_28 : decode cX10_put 28 = .ok (.goto (-26), 3) := by decide +kernel
theorem dX10_put_31 : decode cX10_put 31 = .ok (.return_, 1) := by decide +kernel
set_option maxRecDepth 20000 in
theorem ggX10_fill_X10_sizeAt : GoodIn wsX10_fill wsX10_sizeAt := goodIn_r _ [10, 11, 12, 13, 9, 14, 15, 42, 43, 44, 45, 46, 47, 48, 49, 50, 51, 52, 53, 54, 55, 56, 57, 58, 59, 60, 61, 62, 63, 64, 65, 66, 67] (by decide +kernel) (by decide +kernel)
set_option maxRecDepth 20000 in
theorem gX10_fill_X10_sizeAt : GoodIn wsX10_fill (wsV RX10 126 RX10 yX10_sizeAt wsX10_sizeAt) := goodIn_app (goodIn_of _ (by decide +kernel)) ggX10_fill_X10_sizeAt
set_option maxRecDepth 20000 in
theorem ggX10_fill_X10_byteOf : GoodIn wsX10_fill wsX10_byteOf := goodIn_r _ [19, 15, 20, 21, 22, 9, 23, 24, 25, 26, 27, 28, 29, 30, 31, 32, 11, 12, 13, 14, 33, 34, 35, 36, 37, 42, 43, 44, 45, 46, 47, 48, 49, 50, 51, 52, 53, 54, 55, 56, 57, 58, 59, 60, 61, 62, 63, 64, 65, 66, 67] (by decide +kernel) (by decide +kernel)
set_option maxRecDepth 20000 in
theorem gX10_fill_X10_byteOf : GoodIn wsX10_fill (wsV RX10 148 RX10 yX10_byteOf wsX10_byteOf) := goodIn_app (goodIn_of _ (by decide +kernel)) ggX10_fill_X10_byteOf
set_option maxRecDepth 20000 in
theorem ggX10_fill_X10_put : GoodIn wsX10_fill wsX10_put := goodIn_r _ [41, 1, 42, 43, 44, 45, 46, 47, 48, 49, 50, 51, 52, 53, 54, 55, 56, 57, 58, 59, 60, 61, 62, 63, 64, 65, 66, 67] (by decide +kernel) (by decide +kernel)
set_option maxRecDepth 20000 in
theorem gX10_fill_X10_put : GoodIn wsX10_fill (wsV RX10 173 RX10 yX10_put wsX10_put) := goodIn_app (goodIn_of _ (by decide +kernel)) ggX10_fill_X10_put
theorem dX10_fill_0 : decode cX10_fill 0 = .ok (.aload_n 0, 1) := by decide +kernel
theorem dX10_fill_1 : decode cX10_fill 1 = .ok (.iload_n 1, 1) := by decide +kernel
theorem dX10_fill_2 : decode cX10_fill 2 = .ok (.invokevirtual 126, 3) := by decide +kernel
theorem dX10_fill_5 : decode cX10_fill 5 = .ok (.istore 4, 2) := by decide +kernel
theorem dX10_fill_7 : decode cX10_fill 7 = .ok (.iconst 0, 1) := by decide +kernel
theorem dX10_fill_8 : decode cX10_fill 8 = .ok (.istore 5, 2) := by decide +kernel
theorem dX10_fill_10 : decode cX10_fill 10 = .ok (.iload 5, 2) := by decide +kernel
theorem dX10_fill_12 : decode cX10_fill 12 = .ok (.sipush 1024, 3) := by decide +kernel
theorem dX10_fill_15 : decode cX10_fill 15 = .ok (.if_icmp .ge 17, 3) := by decide +kernel
theorem dX10_fill_18 : decode cX10_fill 18 = .ok (.aload_n 0, 1) := by decide +kernel
theorem dX10_fill_19 : decode cX10_fill 19 = .ok (.getfield 13, 3) := by decide +kernel
theorem dX10_fill_22 : decode cX10_fill 22 = .ok (.iload 5, 2) := by decide +kernel
theorem dX10_fill_24 : decode cX10_fill 24 = .ok (.iconst 0, 1) := by decide +kernel
theorem dX10_fill_25 : decode cX10_fill 25 = .ok (.iastore, 1) := by decide +kernel
theorem dX10_fill_26 : decode cX10_fill 26 = .ok (.iinc 5 1, 3) := by decide +kernel
theorem dX10_fill_29 : decode cX10_fill 29 = .ok (.goto (-19), 3) := by decide +kernel
theorem dX10_fill_32 : decode cX10_fill 32 = .ok (.iconst 0, 1) := by decide +kernel
theorem dX10_fill_33 : decode cX10_fill 33 = .ok (.istore 5, 2) := by decide +kernel
theorem dX10_fill_35 : decode cX10_fill 35 = .ok (.iload 5, 2) := by decide +kernel
theorem dX10_fill_37 : decode cX10_fill 37 = .ok (.iload 4, 2) := by decide +kernel
theorem dX10_fill_39 : decode cX10_fill 39 = .ok (.if_icmp .ge 25, 3) := by decide +kernel
theorem dX10_fill_42 : decode cX10_fill 42 = .ok (.aload_n 0, 1) := by decide +kernel
theorem dX10_fill_43 : decode cX10_fill 43 = .ok (.getfield 13, 3) := by decide +kernel
theorem dX10_fill_46 : decode cX10_fill 46 = .ok (.iload_n 2, 1) := by decide +kernel
theorem dX10_fill_47 : decode cX10_fill 47 = .ok (.iload 5, 2) := by decide +kernel
theorem dX10_fill_49 : decode cX10_fill 49 = .ok (.iadd, 1) := by decide +kernel
theorem dX10_fill_50 : decode cX10_fill 50 = .ok (.aload_n 0, 1) := by decide +kernel
theorem dX10_fill_51 : decode cX10_fill 51 = .ok (.iload_n 1, 1) := by decide +kernel
theorem dX10_fill_52 : decode cX10_fill 52 = .ok (.iload 5, 2) := by decide +kernel
theorem dX10_fill_54 : decode cX10_fill 54 = .ok (.invokevirtual 148, 3) := by decide +kernel
theorem dX10_fill_57 : decode cX10_fill 57 = .ok (.iastore, 1) := by decide +kernel
theorem dX10_fill_58 : decode cX10_fill 58 = .ok (.iinc 5 1, 3) := by decide +kernel
theorem dX10_fill_61 : decode cX10_fill 61 = .ok (.goto (-26), 3) := by decide +kernel
theorem dX10_fill_64 : decode cX10_fill 64 = .ok (.iload_n 3, 1) := by decide +kernel
theorem dX10_fill_65 : decode cX10_fill 65 = .ok (.iconst 2, 1) := by decide +kernel
theorem dX10_fill_66 : decode cX10_fill 66 = .ok (.iand, 1) := by decide +kernel
theorem dX10_fill_67 : decode cX10_fill 67 = .ok (.ifCond .eq 9, 3) := by decide +kernel
theorem dX10_fill_70 : decode cX10_fill 70 = .ok (.sipush 1024, 3) := by decide +kernel
theorem dX10_fill_73 : decode cX10_fill 73 = .ok (.goto 4, 3) := by decide +kernel
theorem dX10_fill_76 : decode cX10_fill 76 = .ok (.iconst 0, 1) := by decide +kernel
theorem dX10_fill_77 : decode cX10_fill 77 = .ok (.istore 5, 2) := by decide +kernel
theorem dX10_fill_79 : decode cX10_fill 79 = .ok (.aload_n 0, 1) := by decide +kernel
theorem dX10_fill_80 : decode cX10_fill 80 = .ok (.getfield 165, 3) := by decide +kernel
theorem dX10_fill_83 : decode cX10_fill 83 = .ok (.ifCond .le 8, 3) := by decide +kernel
theorem dX10_fill_86 : decode cX10_fill 86 = .ok (.bipush 32, 2) := by decide +kernel
theorem dX10_fill_88 : decode cX10_fill 88 = .ok (.goto 4, 3) := by decide +kernel
theorem dX10_fill_91 : decode cX10_fill 91 = .ok (.iconst 0, 1) := by decide +kernel
theorem dX10_fill_92 : decode cX10_fill 92 = .ok (.istore 6, 2) := by decide +kernel
theorem dX10_fill_94 : decode cX10_fill 94 = .ok (.aload_n 0, 1) := by decide +kernel
theorem dX10_fill_95 : decode cX10_fill 95 = .ok (.iconst 0, 1) := by decide +kernel
theorem dX10_fill_96 : decode cX10_fill 96 = .ok (.ldc 172, 2) := by decide +kernel
theorem dX10_fill_98 : decode cX10_fill 98 = .ok (.invokevirtual 173, 3) := by decide +kernel
theorem dX10_fill_101 : decode cX10_fill 101 = .ok (.aload_n 0, 1) := by decide +kernel
theorem dX10_fill_102 : decode cX10_fill 102 = .ok (.iconst 4, 1) := by decide +kernel
theorem dX10_fill_103 : decode cX10_fill 103 = .ok (.iload 5, 2) := by decide +kernel
theorem dX10_fill_105 : decode cX10_fill 105 = .ok (.invokevirtual 173, 3) := by decide +kernel
theorem dX10_fill_108 : decode cX10_fill 108 = .ok (.aload_n 0, 1) := by decide +kernel
theorem dX10_fill_109 : decode cX10_fill 109 = .ok (.bipush 8, 2) := by decide +kernel
theorem dX10_fill_111 : decode cX10_fill 111 = .ok (.iload 6, 2) := by decide +kernel
theorem dX10_fill_113 : decode cX10_fill 113 = .ok (.invokevirtual 173, 3) := by decide +kernel
theorem dX10_fill_116 : decode cX10_fill 116 = .ok (.aload_n 0, 1) := by decide +kernel
theorem dX10_fill_117 : decode cX10_fill 117 = .ok (.bipush 12, 2) := by decide +kernel
theorem dX10_fill_119 : decode cX10_fill 119 = .ok (.iload_n 2, 1) := by decide +kernel
theorem dX10_fill_120 : decode cX10_fill 120 = .ok (.invokevirtual 173, 3) := by decide +kernel
theorem dX10_fill_123 : decode cX10_fill 123 = .ok (.aload_n 0, 1) := by decide +kernel
theorem dX10_fill_124 : decode cX10_fill 124 = .ok (.bipush 16, 2) := by decide +kernel
theorem dX10_fill_126 : decode cX10_fill 126 = .ok (.iload_n 2, 1) := by decide +kernel
theorem dX10_fill_127 : decode cX10_fill 127 = .ok (.iload 4, 2) := by decide +kernel
theorem dX10_fill_129 : decode cX10_fill 129 = .ok (.iadd, 1) := by decide +kernel
theorem dX10_fill_130 : decode cX10_fill 130 = .ok (.invokevirtual 173, 3) := by decide +kernel
theorem dX10_fill_133 : decode cX10_fill 133 = .ok (.aload_n 0, 1) := by decide +kernel
theorem dX10_fill_134 : decode cX10_fill 134 = .ok (.bipush 20, 2) := by decide +kernel
theorem dX10_fill_136 : decode cX10_fill 136 = .ok (.aload_n 0, 1) := by decide +kernel
theorem dX10_fill_137 : decode cX10_fill 137 = .ok (.getfield 60, 3) := by decide +kernel
theorem dX10_fill_140 : decode cX10_fill 140 = .ok (.invokevirtual 173, 3) := by decide +kernel
theorem dX10_fill_143 : decode cX10_fill 143 = .ok (.aload_n 0, 1) := by decide +kernel
theorem dX10_fill_144 : decode cX10_fill 144 = .ok (.bipush 24, 2) := by decide +kernel
theorem dX10_fill_146 : decode cX10_fill 146 = .ok (.ldc 172, 2) := by decide +kernel
theorem dX10_fill_148 : decode cX10_fill 148 = .ok (.iload 5, 2) := by decide +kernel
theorem dX10_fill_150 : decode cX10_fill 150 = .ok (.iadd, 1) := by decide +kernel
theorem dX10_fill_151 : decode cX10_fill 151 = .ok (.iload 6, 2) := by decide +kernel
theorem dX10_fill_153 : decode cX10_fill 153 = .ok (.iadd, 1) := by decide +kernel
theorem dX10_fill_154 : decode cX10_fill 154 = .ok (.iload_n 2, 1) := by decide +kernel
theorem dX10_fill_155 : decode cX10_fill 155 = .ok (.iadd, 1) := by decide +kernel
theorem dX10_fill_156 : decode cX10_fill 156 = .ok (.iload_n 2, 1) := by decide +kernel
theorem dX10_fill_157 : decode cX10_fill 157 = .ok (.iadd, 1) := by decide +kernel
theorem dX10_fill_158 : decode cX10_fill 158 = .ok (.iload 4, 2) := by decide +kernel
theorem dX10_fill_160 : decode cX10_fill 160 = .ok (.iadd, 1) := by decide +kernel
theorem dX10_fill_161 : decode cX10_fill 161 = .ok (.aload_n 0, 1) := by decide +kernel
theorem dX10_fill_162 : decode cX10_fill 162 = .ok (.getfield 60, 3) := by decide +kernel
theorem dX10_fill_165 : decode cX10_fill 165 = .ok (.iadd, 1) := by decide +kernel
theorem dX10_fill_166 : decode cX10_fill 166 = .ok (.ineg, 1) := by decide +kernel
theorem dX10_fill_167 : decode cX10_fill 167 = .ok (.invokevirtual 173, 3) := by decide +kernel
theorem dX10_fill_170 : decode cX10_fill 170 = .ok (.iconst 0, 1) := by decide +kernel
theorem dX10_fill_171 : decode cX10_fill 171 = .ok (.istore 7, 2) := by decide +kernel
theorem dX10_fill_173 : decode cX10_fill 173 = .ok (.iload 7, 2) := by decide +kernel
theorem dX10_fill_175 : decode cX10_fill 175 = .ok (.aload_n 0, 1) := by decide +kernel
theorem dX10_fill_176 : decode cX10_fill 176 = .ok (.getfield 165, 3) := by decide +kernel
theorem dX10_fill_179 : decode cX10_fill 179 = .ok (.if_icmp .ge 26, 3) := by decide +kernel
theorem dX10_fill_182 : decode cX10_fill 182 = .ok (.aload_n 0, 1) := by decide +kernel
theorem dX10_fill_183 : decode cX10_fill 183 = .ok (.getfield 13, 3) := by decide +kernel
theorem dX10_fill_186 : decode cX10_fill 186 = .ok (.bipush 32, 2) := by decide +kernel
theorem dX10_fill_188 : decode cX10_fill 188 = .ok (.iload 7, 2) := by decide +kernel
theorem dX10_fill_190 : decode cX10_fill 190 = .ok (.iadd, 1) := by decide +kernel
theorem dX10_fill_191 : decode cX10_fill 191 = .ok (.aload_n 0, 1) := by decide +kernel
theorem dX10_fill_192 : decode cX10_fill 192 = .ok (.getfield 35, 3) := by decide +kernel
theorem dX10_fill_195 : decode cX10_fill 195 = .ok (.iload 7, 2) := by decide +kernel
theorem dX10_fill_197 : decode cX10_fill 197 = .ok (.iaload, 1) := by decide +kernel
theorem dX10_fill_198 : decode cX10_fill 198 = .ok (.iastore, 1) := by decide +kernel
theorem dX10_fill_199 : decode cX10_fill 199 = .ok (.iinc 7 1, 3) := by decide +kernel
theorem dX10_fill_202 : decode cX10_fill 202 = .ok (.goto (-29), 3) := by decide +kernel
theorem dX10_fill_205 : decode cX10_fill 205 = .ok (.return_, 1) := by decide +kernel
set_option maxRecDepth 20000 in
theorem ggX10_load_X10_find : GoodIn wsX10_load wsX10_find := goodIn_r _ [7, 8, 9, 10, 11, 12, 13, 14, 6, 15, 16, 17, 18, 19, 20, 21, 22, 23, 24, 25, 26, 27, 28, 29, 30, 31, 32, 33, 34, 35, 36, 37, 38, 39, 40, 41, 42, 43, 44, 45, 46, 47, 48, 49, 50, 51, 52, 53, 54, 55, 56, 57, 58, 59, 60, 61, 62, 63, 64, 65, 66, 67, 68, 98, 99, 100, 101, 102, 103, 104, 105, 106, 107, 108, 109, 110, 111, 112, 113, 114, 115, 116, 117, 118, 119, 120, 121, 122, 123] (by decide +kernel) (by decide +kernel)
set_option maxRecDepth 20000 in
theorem gX10_load_X10_find : GoodIn wsX10_load (wsV RX10 139 RX10 yX10_find wsX10_find) := goodIn_app (goodIn_of _ (by decide +kernel)) ggX10_load_X10_find
set_option maxRecDepth 20000 in
theorem ggX10_load_X10_isDirectory : GoodIn wsX10_load wsX10_isDirectory := goodIn_r _ [68, 11, 98, 99, 100, 101, 102, 103, 104, 105, 106, 107, 108, 109, 110, 111, 112, 113, 114, 115, 116, 117, 118, 119, 120, 121, 122, 123] (by decide +kernel) (by decide +kernel)
set_option maxRecDepth 20000 in
theorem gX10_load_X10_isDirectory : GoodIn wsX10_load (wsV RX10 123 RX10 yX10_isDirectory wsX10_isDirectory) := goodIn_app (goodIn_of _ (by decide +kernel)) ggX10_load_X10_isDirectory
set_option maxRecDepth 20000 in
theorem ggX10_load_X10_isBroken : GoodIn wsX10_load wsX10_isBroken := goodIn_r _ [72, 11, 50, 73, 74, 75, 6, 76, 42, 43, 44, 45, 26, 27, 28, 29, 30, 31, 32, 33, 34, 35, 36, 37, 38, 39, 40, 41, 98, 99, 100, 101, 102, 103, 104, 105, 106, 107, 108, 109, 110, 111, 112, 113, 114, 115, 116, 117, 118, 119, 120, 121, 122, 123] (by decide +kernel) (by decide +kernel)
set_option maxRecDepth 20000 in
theorem gX10_load_X10_isBroken : GoodIn wsX10_load (wsV RX10 145 RX10 yX10_isBroken wsX10_isBroken) := goodIn_app (goodIn_of _ (by decide +kernel)) ggX10_load_X10_isBroken
set_option maxRecDepth 20000 in
theorem ggX10_load_X10_sizeAt : GoodIn wsX10_load wsX10_sizeAt := goodIn_r _ [76, 42, 43, 44, 6, 45, 11, 98, 99, 100, 101, 102, 103, 104, 105, 106, 107, 108, 109, 110, 111, 112, 113, 114, 115, 116, 117, 118, 119, 120, 121, 122, 123] (by decide +kernel) (by decide +kernel)
set_option maxRecDepth 20000 in
theorem gX10_load_X10_sizeAt : GoodIn wsX10_load (wsV RX10 126 RX10 yX10_sizeAt wsX10_sizeAt) := goodIn_app (goodIn_of _ (by decide +kernel)) ggX10_load_X10_sizeAt
set_option maxRecDepth 20000 in
theorem ggX10_load_X10_intOf : GoodIn wsX10_load wsX10_intOf := goodIn_r _ [80, 81, 82, 83, 6, 84, 11, 51, 52, 53, 54, 50, 55, 35, 36, 37, 38, 39, 40, 41, 42, 43, 44, 45, 31, 32, 33, 34, 30, 98, 99, 100, 101, 102, 103, 104, 105, 106, 107, 108, 109, 110, 111, 112, 113, 114, 115, 116, 117, 118, 119, 120, 121, 122, 123] (by decide +kernel) (by decide +kernel)
set_option maxRecDepth 20000 in
theorem gX10_load_X10_intOf : GoodIn wsX10_load (wsV RX10 177 RX10 yX10_intOf wsX10_intOf) := goodIn_app (goodIn_of _ (by decide +kernel)) ggX10_load_X10_intOf
set_option maxRecDepth 20000 in
theorem ggX10_load_X10_fill : GoodIn wsX10_load wsX10_fill := goodIn_r _ [88, 89, 90, 91, 92, 93, 73, 74, 75, 6, 76, 42, 43, 44, 45, 11, 81, 82, 83, 84, 51, 52, 53, 54, 50, 55, 35, 36, 37, 38, 39, 40, 41, 31, 32, 33, 34, 30, 94, 95, 96, 97, 98, 99, 100, 101, 102, 103, 104, 105, 106, 107, 108, 109, 110, 111, 112, 113, 114, 115, 116, 117, 118, 119, 120, 121, 122, 123] (by decide +kernel) (by decide +kernel)
set_option maxRecDepth 20000 in
theorem gX10_load_X10_fill : GoodIn wsX10_load (wsV RX10 181 RX10 yX10_fill wsX10_fill) := goodIn_app (goodIn_of _ (by decide +kernel)) ggX10_load_X10_fill
theorem dX10_load_0 : decode cX10_load 0 = .ok (.aload_n 0, 1) := by decide +kernel
theorem dX10_load_1 : decode cX10_load 1 = .ok (.invokevirtual 139, 3) := by decide +kernel
theorem dX10_load_4 : decode cX10_load 4 = .ok (.istore_n 1, 1) := by decide +kernel
theorem dX10_load_5 : decode cX10_load 5 = .ok (.iload_n 1, 1) := by decide +kernel
theorem dX10_load_6 : decode cX10_load 6 = .ok (.ifCond .ge 5, 3) := by decide +kernel
theorem dX10_load_9 : decode cX10_load 9 = .ok (.iload_n 1, 1) := by decide +kernel
theorem dX10_load_10 : decode cX10_load 10 = .ok (.ireturn, 1) := by decide +kernel
theorem dX10_load_11 : decode cX10_load 11 = .ok (.aload_n 0, 1) := by decide +kernel
theorem dX10_load_12 : decode cX10_load 12 = .ok (.iload_n 1, 1) := by decide +kernel
theorem dX10_load_13 : decode cX10_load 13 = .ok (.invokevirtual 123, 3) := by decide +kernel
theorem dX10_load_16 : decode cX10_load 16 = .ok (.ifCond .ne 11, 3) := by decide +kernel
theorem dX10_load_19 : decode cX10_load 19 = .ok (.aload_n 0, 1) := by decide +kernel
theorem dX10_load_20 : decode cX10_load 20 = .ok (.iload_n 1, 1) := by decide +kernel
theorem dX10_load_21 : decode cX10_load 21 = .ok (.invokevirtual 145, 3) := by decide +kernel
theorem dX10_load_24 : decode cX10_load 24 = .ok (.ifCond .eq 19, 3) := by decide +kernel
theorem dX10_load_27 : decode cX10_load 27 = .ok (.aload_n 0, 1) := by decide +kernel
theorem dX10_load_28 : decode cX10_load 28 = .ok (.iload_n 1, 1) := by decide +kernel
theorem dX10_load_29 : decode cX10_load 29 = .ok (.invokevirtual 123, 3) := by decide +kernel
theorem dX10_load_32 : decode cX10_load 32 = .ok (.ifCond .eq 8, 3) := by decide +kernel
theorem dX10_load_35 : decode cX10_load 35 = .ok (.bipush (-7), 2) := by decide +kernel
theorem dX10_load_37 : decode cX10_load 37 = .ok (.goto 5, 3) := by decide +kernel
theorem dX10_load_40 : decode cX10_load 40 = .ok (.bipush (-9), 2) := by decide +kernel
theorem dX10_load_42 : decode cX10_load 42 = .ok (.ireturn, 1) := by decide +kernel
theorem dX10_load_43 : decode cX10_load 43 = .ok (.aload_n 0, 1) := by decide +kernel
theorem dX10_load_44 : decode cX10_load 44 = .ok (.iload_n 1, 1) := by decide +kernel
theorem dX10_load_45 : decode cX10_load 45 = .ok (.invokevirtual 126, 3) := by decide +kernel
theorem dX10_load_48 : decode cX10_load 48 = .ok (.istore_n 2, 1) := by decide +kernel
theorem dX10_load_49 : decode cX10_load 49 = .ok (.iconst 0, 1) := by decide +kernel
theorem dX10_load_50 : decode cX10_load 50 = .ok (.istore_n 3, 1) := by decide +kernel
theorem dX10_load_51 : decode cX10_load 51 = .ok (.iload_n 3, 1) := by decide +kernel
theorem dX10_load_52 : decode cX10_load 52 = .ok (.bipush 28, 2) := by decide +kernel
theorem dX10_load_54 : decode cX10_load 54 = .ok (.if_icmp .gt 28, 3) := by decide +kernel
theorem dX10_load_57 : decode cX10_load 57 = .ok (.iload_n 3, 1) := by decide +kernel
theorem dX10_load_58 : decode cX10_load 58 = .ok (.bipush 20, 2) := by decide +kernel
theorem dX10_load_60 : decode cX10_load 60 = .ok (.iadd, 1) := by decide +kernel
theorem dX10_load_61 : decode cX10_load 61 = .ok (.iload_n 2, 1) := by decide +kernel
theorem dX10_load_62 : decode cX10_load 62 = .ok (.if_icmp .gt 20, 3) := by decide +kernel
theorem dX10_load_65 : decode cX10_load 65 = .ok (.aload_n 0, 1) := by decide +kernel
theorem dX10_load_66 : decode cX10_load 66 = .ok (.iload_n 1, 1) := by decide +kernel
theorem dX10_load_67 : decode cX10_load 67 = .ok (.iload_n 3, 1) := by decide +kernel
theorem dX10_load_68 : decode cX10_load 68 = .ok (.invokevirtual 177, 3) := by decide +kernel
theorem dX10_load_71 : decode cX10_load 71 = .ok (.ldc 180, 2) := by decide +kernel
theorem dX10_load_73 : decode cX10_load 73 = .ok (.if_icmp .eq 9, 3) := by decide +kernel
theorem dX10_load_76 : decode cX10_load 76 = .ok (.iinc 3 4, 3) := by decide +kernel
theorem dX10_load_79 : decode cX10_load 79 = .ok (.goto (-28), 3) := by decide +kernel
theorem dX10_load_82 : decode cX10_load 82 = .ok (.iload_n 3, 1) := by decide +kernel
theorem dX10_load_83 : decode cX10_load 83 = .ok (.bipush 28, 2) := by decide +kernel
theorem dX10_load_85 : decode cX10_load 85 = .ok (.if_icmp .gt 11, 3) := by decide +kernel
theorem dX10_load_88 : decode cX10_load 88 = .ok (.iload_n 3, 1) := by decide +kernel
theorem dX10_load_89 : decode cX10_load 89 = .ok (.bipush 20, 2) := by decide +kernel
theorem dX10_load_91 : decode cX10_load 91 = .ok (.iadd, 1) := by decide +kernel
theorem dX10_load_92 : decode cX10_load 92 = .ok (.iload_n 2, 1) := by decide +kernel
theorem dX10_load_93 : decode cX10_load 93 = .ok (.if_icmp .le 6, 3) := by decide +kernel
theorem dX10_load_96 : decode cX10_load 96 = .ok (.bipush (-11), 2) := by decide +kernel
theorem dX10_load_98 : decode cX10_load 98 = .ok (.ireturn, 1) := by decide +kernel
theorem dX10_load_99 : decode cX10_load 99 = .ok (.aload_n 0, 1) := by decide +kernel
theorem dX10_load_100 : decode cX10_load 100 = .ok (.iload_n 1, 1) := by decide +kernel
theorem dX10_load_101 : decode cX10_load 101 = .ok (.iload_n 3, 1) := by decide +kernel
theorem dX10_load_102 : decode cX10_load 102 = .ok (.iconst 4, 1) := by decide +kernel
theorem dX10_load_103 : decode cX10_load 103 = .ok (.iadd, 1) := by decide +kernel
theorem dX10_load_104 : decode cX10_load 104 = .ok (.invokevirtual 177, 3) := by decide +kernel
theorem dX10_load_107 : decode cX10_load 107 = .ok (.istore 4, 2) := by decide +kernel
theorem dX10_load_109 : decode cX10_load 109 = .ok (.aload_n 0, 1) := by decide +kernel
theorem dX10_load_110 : decode cX10_load 110 = .ok (.iload_n 1, 1) := by decide +kernel
theorem dX10_load_111 : decode cX10_load 111 = .ok (.iload_n 3, 1) := by decide +kernel
theorem dX10_load_112 : decode cX10_load 112 = .ok (.bipush 8, 2) := by decide +kernel
theorem dX10_load_114 : decode cX10_load 114 = .ok (.iadd, 1) := by decide +kernel
theorem dX10_load_115 : decode cX10_load 115 = .ok (.invokevirtual 177, 3) := by decide +kernel
theorem dX10_load_118 : decode cX10_load 118 = .ok (.istore 5, 2) := by decide +kernel
theorem dX10_load_120 : decode cX10_load 120 = .ok (.aload_n 0, 1) := by decide +kernel
theorem dX10_load_121 : decode cX10_load 121 = .ok (.iload_n 1, 1) := by decide +kernel
theorem dX10_load_122 : decode cX10_load 122 = .ok (.iload_n 3, 1) := by decide +kernel
theorem dX10_load_123 : decode cX10_load 123 = .ok (.bipush 12, 2) := by decide +kernel
theorem dX10_load_125 : decode cX10_load 125 = .ok (.iadd, 1) := by decide +kernel
theorem dX10_load_126 : decode cX10_load 126 = .ok (.invokevirtual 177, 3) := by decide +kernel
theorem dX10_load_129 : decode cX10_load 129 = .ok (.istore 6, 2) := by decide +kernel
theorem dX10_load_131 : decode cX10_load 131 = .ok (.aload_n 0, 1) := by decide +kernel
theorem dX10_load_132 : decode cX10_load 132 = .ok (.iload_n 1, 1) := by decide +kernel
theorem dX10_load_133 : decode cX10_load 133 = .ok (.iload_n 3, 1) := by decide +kernel
theorem dX10_load_134 : decode cX10_load 134 = .ok (.bipush 16, 2) := by decide +kernel
theorem dX10_load_136 : decode cX10_load 136 = .ok (.iadd, 1) := by decide +kernel
theorem dX10_load_137 : decode cX10_load 137 = .ok (.invokevirtual 177, 3) := by decide +kernel
theorem dX10_load_140 : decode cX10_load 140 = .ok (.istore 7, 2) := by decide +kernel
theorem dX10_load_142 : decode cX10_load 142 = .ok (.ldc 180, 2) := by decide +kernel
theorem dX10_load_144 : decode cX10_load 144 = .ok (.iload 4, 2) := by decide +kernel
theorem dX10_load_146 : decode cX10_load 146 = .ok (.iadd, 1) := by decide +kernel
theorem dX10_load_147 : decode cX10_load 147 = .ok (.iload 5, 2) := by decide +kernel
theorem dX10_load_149 : decode cX10_load 149 = .ok (.iadd, 1) := by decide +kernel
theorem dX10_load_150 : decode cX10_load 150 = .ok (.ifCond .ne 26, 3) := by decide +kernel
theorem dX10_load_153 : decode cX10_load 153 = .ok (.iload 4, 2) := by decide +kernel
theorem dX10_load_155 : decode cX10_load 155 = .ok (.bipush (-4), 2) := by decide +kernel
theorem dX10_load_157 : decode cX10_load 157 = .ok (.iand, 1) := by decide +kernel
theorem dX10_load_158 : decode cX10_load 158 = .ok (.ifCond .ne 18, 3) := by decide +kernel
theorem dX10_load_161 : decode cX10_load 161 = .ok (.iload 4, 2) := by decide +kernel
theorem dX10_load_163 : decode cX10_load 163 = .ok (.iconst 1, 1) := by decide +kernel
theorem dX10_load_164 : decode cX10_load 164 = .ok (.iand, 1) := by decide +kernel
theorem dX10_load_165 : decode cX10_load 165 = .ok (.ifCond .eq 14, 3) := by decide +kernel
theorem dX10_load_168 : decode cX10_load 168 = .ok (.iload 6, 2) := by decide +kernel
theorem dX10_load_170 : decode cX10_load 170 = .ok (.bipush 16, 2) := by decide +kernel
theorem dX10_load_172 : decode cX10_load 172 = .ok (.irem, 1) := by decide +kernel
theorem dX10_load_173 : decode cX10_load 173 = .ok (.ifCond .eq 6, 3) := by decide +kernel
theorem dX10_load_176 : decode cX10_load 176 = .ok (.bipush (-11), 2) := by decide +kernel
theorem dX10_load_178 : decode cX10_load 178 = .ok (.ireturn, 1) := by decide +kernel
theorem dX10_load_179 : decode cX10_load 179 = .ok (.iload 6, 2) := by decide +kernel
theorem dX10_load_181 : decode cX10_load 181 = .ok (.bipush 64, 2) := by decide +kernel
theorem dX10_load_183 : decode cX10_load 183 = .ok (.if_icmp .lt 29, 3) := by decide +kernel
theorem dX10_load_186 : decode cX10_load 186 = .ok (.iload 6, 2) := by decide +kernel
theorem dX10_load_188 : decode cX10_load 188 = .ok (.sipush 1024, 3) := by decide +kernel
theorem dX10_load_191 : decode cX10_load 191 = .ok (.iload_n 2, 1) := by decide +kernel
theorem dX10_load_192 : decode cX10_load 192 = .ok (.isub, 1) := by decide +kernel
theorem dX10_load_193 : decode cX10_load 193 = .ok (.if_icmp .gt 19, 3) := by decide +kernel
theorem dX10_load_196 : decode cX10_load 196 = .ok (.iload 7, 2) := by decide +kernel
theorem dX10_load_198 : decode cX10_load 198 = .ok (.iload 6, 2) := by decide +kernel
theorem dX10_load_200 : decode cX10_load 200 = .ok (.if_icmp .lt 12, 3) := by decide +kernel
theorem dX10_load_203 : decode cX10_load 203 = .ok (.iload 7, 2) := by decide +kernel
theorem dX10_load_205 : decode cX10_load 205 = .ok (.iload 6, 2) := by decide +kernel
theorem dX10_load_207 : decode cX10_load 207 = .ok (.iload_n 2, 1) := by decide +kernel
theorem dX10_load_208 : decode cX10_load 208 = .ok (.iadd, 1) := by decide +kernel
theorem dX10_load_209 : decode cX10_load 209 = .ok (.if_icmp .lt 6, 3) := by decide +kernel
theorem dX10_load_212 : decode cX10_load 212 = .ok (.bipush (-12), 2) := by decide +kernel
theorem dX10_load_214 : decode cX10_load 214 = .ok (.ireturn, 1) := by decide +kernel
theorem dX10_load_215 : decode cX10_load 215 = .ok (.aload_n 0, 1) := by decide +kernel
theorem dX10_load_216 : decode cX10_load 216 = .ok (.iload_n 1, 1) := by decide +kernel
theorem dX10_load_217 : decode cX10_load 217 = .ok (.iload 6, 2) := by decide +kernel
theorem dX10_load_219 : decode cX10_load 219 = .ok (.iload 4, 2) := by decide +kernel
theorem dX10_load_221 : decode cX10_load 221 = .ok (.invokevirtual 181, 3) := by decide +kernel
theorem dX10_load_224 : decode cX10_load 224 = .ok (.aload_n 0, 1) := by decide +kernel
theorem dX10_load_225 : decode cX10_load 225 = .ok (.iload 7, 2) := by decide +kernel
theorem dX10_load_227 : decode cX10_load 227 = .ok (.putfield 16, 3) := by decide +kernel
theorem dX10_load_230 : decode cX10_load 230 = .ok (.iconst 0, 1) := by decide +kernel
theorem dX10_load_231 : decode cX10_load 231 = .ok (.ireturn, 1) := by decide +kernel
set_option maxRecDepth 20000 in
theorem ggX10_boot_X10_volume : GoodIn wsX10_boot wsX10_volume := goodIn_r _ [9, 10, 11, 12, 13, 14, 15, 16, 17, 18, 19, 20, 21, 8, 22, 23, 24, 25, 26, 130, 131, 132, 133, 134, 135, 136, 137, 138, 139, 140, 141, 142, 143, 144, 145, 146, 147, 148, 149, 150, 151, 152, 153, 154, 155] (by decide +kernel) (by decide +kernel)
set_option maxRecDepth 20000 in
theorem gX10_boot_X10_volume : GoodIn wsX10_boot (wsV RX10 132 RX10 yX10_volume wsX10_volume) := goodIn_app (goodIn_of _ (by decide +kernel)) ggX10_boot_X10_volume
set_option maxRecDepth 20000 in
theorem ggX10_boot_X10_settings : GoodIn wsX10_boot wsX10_settings := goodIn_r _ [30, 31, 32, 2, 3, 33, 34, 35, 36, 8, 37, 15, 38, 39, 10, 40, 41, 42, 43, 44, 45, 46, 47, 48, 49, 50, 51, 52, 53, 54, 55, 16, 56, 57, 58, 59, 60, 61, 62, 63, 17, 13, 14, 64, 65, 66, 67, 68, 69, 70, 71, 12, 72, 73, 74, 75, 18, 76, 77, 78, 79, 80, 81, 82, 83, 84, 85, 86, 87, 88, 89, 90, 91, 92, 93, 94, 95, 96, 97, 98, 99, 100, 101, 102, 103, 104, 1, 4, 105, 130, 131, 132, 133, 134, 135, 136, 137, 138, 139, 140, 141, 142, 143, 144, 145, 146, 147, 148, 149, 150, 151, 152, 153, 154, 155] (by decide +kernel) (by decide +kernel)
set_option maxRecDepth 20000 in
theorem gX10_boot_X10_settings : GoodIn wsX10_boot (wsV RX10 185 RX10 yX10_settings wsX10_settings) := goodIn_app (goodIn_of _ (by decide +kernel)) ggX10_boot_X10_settings
set_option maxRecDepth 20000 in
theorem ggX10_boot_X10_take : GoodIn wsX10_boot wsX10_take := goodIn_r _ [109, 31, 32, 130, 131, 132, 133, 134, 135, 136, 137, 138, 139, 140, 141, 142, 143, 144, 145, 146, 147, 148, 149, 150, 151, 152, 153, 154, 155] (by decide +kernel) (by decide +kernel)
set_option maxRecDepth 20000 in
theorem gX10_boot_X10_take : GoodIn wsX10_boot (wsV RX10 135 RX10 yX10_take wsX10_take) := goodIn_app (goodIn_of _ (by decide +kernel)) ggX10_boot_X10_take
set_option maxRecDepth 20000 in
theorem ggX10_boot_X10_load : GoodIn wsX10_boot wsX10_load := goodIn_r _ [113, 114, 115, 34, 35, 36, 8, 37, 15, 38, 39, 10, 40, 41, 42, 43, 32, 31, 44, 45, 46, 47, 48, 49, 50, 51, 52, 53, 54, 55, 16, 56, 57, 58, 59, 60, 61, 62, 63, 17, 13, 14, 64, 65, 66, 67, 68, 69, 70, 71, 12, 72, 73, 74, 75, 18, 76, 77, 78, 79, 80, 81, 82, 83, 84, 85, 86, 87, 88, 89, 90, 91, 92, 93, 94, 95, 96, 116, 117, 118, 119, 97, 98, 99, 100, 120, 121, 122, 123, 124, 33, 125, 11, 105, 126, 127, 128, 129, 130, 131, 132, 133, 134, 135, 136, 137, 138, 139, 140, 141, 142, 143, 144, 145, 146, 147, 148, 149, 150, 151, 152, 153, 154, 155] (by decide +kernel) (by decide +kernel)
set_option maxRecDepth 20000 in
theorem gX10_boot_X10_load : GoodIn wsX10_boot (wsV RX10 188 RX10 yX10_load wsX10_load) := goodIn_app (goodIn_of _ (by decide +kernel)) ggX10_boot_X10_load
theorem dX10_boot_0 : decode cX10_boot 0 = .ok (.aload_n 0, 1) := by decide +kernel
theorem dX10_boot_1 : decode cX10_boot 1 = .ok (.invokevirtual 132, 3) := by decide +kernel
theorem dX10_boot_4 : decode cX10_boot 4 = .ok (.istore_n 1, 1) := by decide +kernel
theorem dX10_boot_5 : decode cX10_boot 5 = .ok (.iload_n 1, 1) := by decide +kernel
theorem dX10_boot_6 : decode cX10_boot 6 = .ok (.ifCond .ge 5, 3) := by decide +kernel
theorem dX10_boot_9 : decode cX10_boot 9 = .ok (.iload_n 1, 1) := by decide +kernel
theorem dX10_boot_10 : decode cX10_boot 10 = .ok (.ireturn, 1) := by decide +kernel
theorem dX10_boot_11 : decode cX10_boot 11 = .ok (.aload_n 0, 1) := by decide +kernel
theorem dX10_boot_12 : decode cX10_boot 12 = .ok (.invokevirtual 185, 3) := by decide +kernel
theorem dX10_boot_15 : decode cX10_boot 15 = .ok (.istore_n 2, 1) := by decide +kernel
theorem dX10_boot_16 : decode cX10_boot 16 = .ok (.iload_n 2, 1) := by decide +kernel
theorem dX10_boot_17 : decode cX10_boot 17 = .ok (.ifCond .ge 5, 3) := by decide +kernel
theorem dX10_boot_20 : decode cX10_boot 20 = .ok (.iload_n 2, 1) := by decide +kernel
theorem dX10_boot_21 : decode cX10_boot 21 = .ok (.ireturn, 1) := by decide +kernel
theorem dX10_boot_22 : decode cX10_boot 22 = .ok (.aload_n 0, 1) := by decide +kernel
theorem dX10_boot_23 : decode cX10_boot 23 = .ok (.aload_n 0, 1) := by decide +kernel
theorem dX10_boot_24 : decode cX10_boot 24 = .ok (.getfield 29, 3) := by decide +kernel
theorem dX10_boot_27 : decode cX10_boot 27 = .ok (.aload_n 0, 1) := by decide +kernel
theorem dX10_boot_28 : decode cX10_boot 28 = .ok (.getfield 159, 3) := by decide +kernel
theorem dX10_boot_31 : decode cX10_boot 31 = .ok (.invokevirtual 135, 3) := by decide +kernel
theorem dX10_boot_34 : decode cX10_boot 34 = .ok (.aload_n 0, 1) := by decide +kernel
theorem dX10_boot_35 : decode cX10_boot 35 = .ok (.invokevirtual 188, 3) := by decide +kernel
theorem dX10_boot_38 : decode cX10_boot 38 = .ok (.istore_n 2, 1) := by decide +kernel
theorem dX10_boot_39 : decode cX10_boot 39 = .ok (.iload_n 2, 1) := by decide +kernel
theorem dX10_boot_40 : decode cX10_boot 40 = .ok (.ifCond .ge 37, 3) := by decide +kernel
theorem dX10_boot_43 : decode cX10_boot 43 = .ok (.aload_n 0, 1) := by decide +kernel
theorem dX10_boot_44 : decode cX10_boot 44 = .ok (.getfield 162, 3) := by decide +kernel
theorem dX10_boot_47 : decode cX10_boot 47 = .ok (.ifCond .lt 30, 3) := by decide +kernel
theorem dX10_boot_50 : decode cX10_boot 50 = .ok (.aload_n 0, 1) := by decide +kernel
theorem dX10_boot_51 : decode cX10_boot 51 = .ok (.aload_n 0, 1) := by decide +kernel
theorem dX10_boot_52 : decode cX10_boot 52 = .ok (.getfield 32, 3) := by decide +kernel
theorem dX10_boot_55 : decode cX10_boot 55 = .ok (.aload_n 0, 1) := by decide +kernel
end
section
theorem dX10_boot_56 : decode cX10_boot 56 = .ok (.getfield 162, 3) := by decide +kernel
theorem dX10_boot_59 : decode cX10_boot 59 = .ok (.invokevirtual 135, 3) := by decide +kernel
theorem dX10_boot_62 : decode cX10_boot 62 = .ok (.aload_n 0, 1) := by decide +kernel
theorem dX10_boot_63 : decode cX10_boot 63 = .ok (.invokevirtual 188, 3) := by decide +kernel
theorem dX10_boot_66 : decode cX10_boot 66 = .ok (.istore_n 2, 1) := by decide +kernel
theorem dX10_boot_67 : decode cX10_boot 67 = .ok (.iload_n 2, 1) := by decide +kernel
theorem dX10_boot_68 : decode cX10_boot 68 = .ok (.ifCond .ge 7, 3) := by decide +kernel
theorem dX10_boot_71 : decode cX10_boot 71 = .ok (.iload_n 2, 1) := by decide +kernel
theorem dX10_boot_72 : decode cX10_boot 72 = .ok (.goto 4, 3) := by decide +kernel
theorem dX10_boot_75 : decode cX10_boot 75 = .ok (.iconst 1, 1) := by decide +kernel
theorem dX10_boot_76 : decode cX10_boot 76 = .ok (.ireturn, 1) := by decide +kernel
theorem dX10_boot_77 : decode cX10_boot 77 = .ok (.iload_n 2, 1) := by decide +kernel
theorem dX10_boot_78 : decode cX10_boot 78 = .ok (.ireturn, 1) := by decide +kernel
theorem dX10_memory_0 : decode cX10_memory 0 = .ok (.iload_n 1, 1) := by decide +kernel
theorem dX10_memory_1 : decode cX10_memory 1 = .ok (.ifCond .lt 10, 3) := by decide +kernel
theorem dX10_memory_4 : decode cX10_memory 4 = .ok (.iload_n 1, 1) := by decide +kernel
theorem dX10_memory_5 : decode cX10_memory 5 = .ok (.sipush 1023, 3) := by decide +kernel
theorem dX10_memory_8 : decode cX10_memory 8 = .ok (.if_icmp .le 7, 3) := by decide +kernel
theorem dX10_memory_11 : decode cX10_memory 11 = .ok (.iconst (-1), 1) := by decide +kernel
theorem dX10_memory_12 : decode cX10_memory 12 = .ok (.goto 9, 3) := by decide +kernel
theorem dX10_memory_15 : decode cX10_memory 15 = .ok (.aload_n 0, 1) := by decide +kernel
theorem dX10_memory_16 : decode cX10_memory 16 = .ok (.getfield 13, 3) := by decide +kernel
theorem dX10_memory_19 : decode cX10_memory 19 = .ok (.iload_n 1, 1) := by decide +kernel
theorem dX10_memory_20 : decode cX10_memory 20 = .ok (.iaload, 1) := by decide +kernel
theorem dX10_memory_21 : decode cX10_memory 21 = .ok (.ireturn, 1) := by decide +kernel
theorem dX10_entry_0 : decode cX10_entry 0 = .ok (.aload_n 0, 1) := by decide +kernel
theorem dX10_entry_1 : decode cX10_entry 1 = .ok (.getfield 16, 3) := by decide +kernel
theorem dX10_entry_4 : decode cX10_entry 4 = .ok (.ireturn, 1) := by decide +kernel
theorem dJ7_fill_53178_0 : decode cJ7_fill_53178 0 = .ok (.iconst 0, 1) := by decide +kernel
theorem dJ7_fill_53178_1 : decode cJ7_fill_53178 1 = .ok (.istore_n 2, 1) := by decide +kernel
theorem dJ7_fill_53178_2 : decode cJ7_fill_53178 2 = .ok (.aload_n 0, 1) := by decide +kernel
theorem dJ7_fill_53178_3 : decode cJ7_fill_53178 3 = .ok (.arraylength, 1) := by decide +kernel
theorem dJ7_fill_53178_4 : decode cJ7_fill_53178 4 = .ok (.istore_n 3, 1) := by decide +kernel
theorem dJ7_fill_53178_5 : decode cJ7_fill_53178 5 = .ok (.iload_n 2, 1) := by decide +kernel
theorem dJ7_fill_53178_6 : decode cJ7_fill_53178 6 = .ok (.iload_n 3, 1) := by decide +kernel
theorem dJ7_fill_53178_7 : decode cJ7_fill_53178 7 = .ok (.if_icmp .ge 13, 3) := by decide +kernel
theorem dJ7_fill_53178_10 : decode cJ7_fill_53178 10 = .ok (.aload_n 0, 1) := by decide +kernel
theorem dJ7_fill_53178_11 : decode cJ7_fill_53178 11 = .ok (.iload_n 2, 1) := by decide +kernel
theorem dJ7_fill_53178_12 : decode cJ7_fill_53178 12 = .ok (.iload_n 1, 1) := by decide +kernel
theorem dJ7_fill_53178_13 : decode cJ7_fill_53178 13 = .ok (.iastore, 1) := by decide +kernel
theorem dJ7_fill_53178_14 : decode cJ7_fill_53178 14 = .ok (.iinc 2 1, 3) := by decide +kernel
theorem dJ7_fill_53178_17 : decode cJ7_fill_53178 17 = .ok (.goto (-12), 3) := by decide +kernel
theorem dJ7_fill_53178_20 : decode cJ7_fill_53178 20 = .ok (.return_, 1) := by decide +kernel
theorem dJ7_fill_031fb_0 : decode cJ7_fill_031fb 0 = .ok (.iconst 0, 1) := by decide +kernel
theorem dJ7_fill_031fb_1 : decode cJ7_fill_031fb 1 = .ok (.istore_n 2, 1) := by decide +kernel
theorem dJ7_fill_031fb_2 : decode cJ7_fill_031fb 2 = .ok (.aload_n 0, 1) := by decide +kernel
theorem dJ7_fill_031fb_3 : decode cJ7_fill_031fb 3 = .ok (.arraylength, 1) := by decide +kernel
theorem dJ7_fill_031fb_4 : decode cJ7_fill_031fb 4 = .ok (.istore_n 3, 1) := by decide +kernel
theorem dJ7_fill_031fb_5 : decode cJ7_fill_031fb 5 = .ok (.iload_n 2, 1) := by decide +kernel
theorem dJ7_fill_031fb_6 : decode cJ7_fill_031fb 6 = .ok (.iload_n 3, 1) := by decide +kernel
theorem dJ7_fill_031fb_7 : decode cJ7_fill_031fb 7 = .ok (.if_icmp .ge 13, 3) := by decide +kernel
theorem dJ7_fill_031fb_10 : decode cJ7_fill_031fb 10 = .ok (.aload_n 0, 1) := by decide +kernel
theorem dJ7_fill_031fb_11 : decode cJ7_fill_031fb 11 = .ok (.iload_n 2, 1) := by decide +kernel
theorem dJ7_fill_031fb_12 : decode cJ7_fill_031fb 12 = .ok (.iload_n 1, 1) := by decide +kernel
theorem dJ7_fill_031fb_13 : decode cJ7_fill_031fb 13 = .ok (.bastore, 1) := by decide +kernel
theorem dJ7_fill_031fb_14 : decode cJ7_fill_031fb 14 = .ok (.iinc 2 1, 3) := by decide +kernel
theorem dJ7_fill_031fb_17 : decode cJ7_fill_031fb 17 = .ok (.goto (-12), 3) := by decide +kernel
theorem dJ7_fill_031fb_20 : decode cJ7_fill_031fb 20 = .ok (.return_, 1) := by decide +kernel
set_option maxRecDepth 20000 in
theorem ggL_law_X9_init : GoodIn wsL_law wsX9_init := goodIn_r _ [9, 10, 11, 12, 13, 14, 15, 16, 17, 18, 19, 20, 21, 22, 23, 24, 25, 26, 27, 28, 29, 30, 31, 32, 33, 34, 35, 36, 37, 38, 39, 40, 41, 42, 43, 44, 45, 46, 47, 48, 49, 50, 51, 52, 53, 54, 55, 56, 57, 58, 59, 60, 61, 62, 63, 64, 65, 66, 67, 68, 69, 70, 71, 72, 73, 74, 75, 76, 77, 78, 79, 80, 81, 82, 83, 84, 85, 86, 87, 88, 89, 90, 91, 92, 93, 94, 95, 96, 97, 98, 99, 100, 101, 102, 103, 104, 643, 606, 607, 608, 609, 610, 611, 612, 613, 614, 615, 616, 644, 645, 646, 647, 648, 649, 650, 651, 652, 653, 654, 655, 656, 657, 658, 659, 660, 661, 662, 663, 664, 665, 666, 667, 668, 669, 670, 671, 672, 673, 674, 675, 676, 677] (by decide +kernel) (by decide +kernel)
set_option maxRecDepth 20000 in
theorem gL_law_X9_init : GoodIn wsL_law (wsX9_init) := ggL_law_X9_init
set_option maxRecDepth 20000 in
theorem ggL_law_X10_init : GoodIn wsL_law wsX10_init := goodIn_r _ [107, 108, 11, 12, 42, 109, 110, 111, 112, 113, 114, 115, 116, 117, 118, 119, 120, 617, 618, 619, 620, 621, 622, 623, 624, 625, 626, 627, 628, 629, 630, 631, 632, 633, 634, 635, 636, 637, 638, 639, 640, 641, 642] (by decide +kernel) (by decide +kernel)
set_option maxRecDepth 20000 in
theorem gL_law_X10_init : GoodIn wsL_law (wsX10_init) := ggL_law_X10_init
set_option maxRecDepth 20000 in
theorem ggL_law_X9_poke : GoodIn wsL_law wsX9_poke := goodIn_r _ [124, 16, 125, 126, 127, 15, 128, 51, 606, 607, 608, 609, 610, 611, 612, 613, 614, 615, 616, 643] (by decide +kernel) (by decide +kernel)
set_option maxRecDepth 20000 in
theorem gL_law_X9_poke : GoodIn wsL_law (wsV RL 15 RX9 yX9_poke wsX9_poke) := goodIn_app (goodIn_of _ (by decide +kernel)) ggL_law_X9_poke
set_option maxRecDepth 20000 in
theorem ggL_law_X10_poke : GoodIn wsL_law wsX10_poke := goodIn_r _ [132, 109, 617, 618, 619, 620, 621, 622, 623, 624, 625, 626, 627, 628, 629, 630, 631, 632, 633, 634, 635, 636, 637, 638, 639, 640, 641, 642] (by decide +kernel) (by decide +kernel)
set_option maxRecDepth 20000 in
theorem gL_law_X10_poke : GoodIn wsL_law (wsV RL 19 RX10 yX10_poke wsX10_poke) := goodIn_app (goodIn_of _ (by decide +kernel)) ggL_law_X10_poke
set_option maxRecDepth 20000 in
theorem ggL_law_X9_peek : GoodIn wsL_law wsX9_peek := goodIn_r _ [136, 16, 137, 138, 139, 15, 140, 51, 606, 607, 608, 609, 610, 611, 612, 613, 614, 615, 616, 643] (by decide +kernel) (by decide +kernel)
set_option maxRecDepth 20000 in
theorem gL_law_X9_peek : GoodIn wsL_law (wsV RL 20 RX9 yX9_peek wsX9_peek) := goodIn_app (goodIn_of _ (by decide +kernel)) ggL_law_X9_peek
set_option maxRecDepth 20000 in
theorem ggL_law_X10_peek : GoodIn wsL_law wsX10_peek := goodIn_r _ [144, 109, 617, 618, 619, 620, 621, 622, 623, 624, 625, 626, 627, 628, 629, 630, 631, 632, 633, 634, 635, 636, 637, 638, 639, 640, 641, 642] (by decide +kernel) (by decide +kernel)
set_option maxRecDepth 20000 in
theorem gL_law_X10_peek : GoodIn wsL_law (wsV RL 24 RX10 yX10_peek wsX10_peek) := goodIn_app (goodIn_of _ (by decide +kernel)) ggL_law_X10_peek
set_option maxRecDepth 20000 in
theorem ggL_law_X9_volume : GoodIn wsL_law wsX9_volume := goodIn_r _ [148, 21, 149, 150, 151, 20, 152, 153, 56, 154, 155, 156, 157, 158, 159, 138, 139, 15, 140, 51, 160, 161, 162, 163, 164, 165, 166, 167, 168, 169, 170, 171, 172, 173, 174, 175, 176, 177, 178, 179, 180, 181, 182, 183, 184, 185, 606, 607, 608, 609, 610, 611, 612, 613, 614, 615, 616, 644, 645, 646, 647, 648, 649, 650, 651, 652, 643] (by decide +kernel) (by decide +kernel)
set_option maxRecDepth 20000 in
theorem gL_law_X9_volume : GoodIn wsL_law (wsV RL 25 RX9 yX9_volume wsX9_volume) := goodIn_app (goodIn_of _ (by decide +kernel)) ggL_law_X9_volume
set_option maxRecDepth 20000 in
theorem ggL_law_X10_volume : GoodIn wsL_law wsX10_volume := goodIn_r _ [189, 109, 190, 191, 192, 193, 194, 195, 196, 197, 198, 199, 200, 5, 201, 202, 203, 204, 205, 617, 618, 619, 620, 621, 622, 623, 624, 625, 626, 627, 628, 629, 630, 631, 632, 633, 634, 635, 636, 637, 638, 639, 640, 641, 642] (by decide +kernel) (by decide +kernel)
set_option maxRecDepth 20000 in
theorem gL_law_X10_volume : GoodIn wsL_law (wsV RL 29 RX10 yX10_volume wsX10_volume) := goodIn_app (goodIn_of _ (by decide +kernel)) ggL_law_X10_volume
set_option maxRecDepth 20000 in
theorem ggL_law_X9_type : GoodIn wsL_law wsX9_type := goodIn_r _ [209, 44, 43, 606, 607, 608, 609, 610, 611, 612, 613, 614, 615, 616] (by decide +kernel) (by decide +kernel)
set_option maxRecDepth 20000 in
theorem gL_law_X9_type : GoodIn wsL_law (wsV RL 30 RX9 yX9_type wsX9_type) := goodIn_app (goodIn_of _ (by decide +kernel)) ggL_law_X9_type
set_option maxRecDepth 20000 in
theorem ggL_law_X10_type : GoodIn wsL_law wsX10_type := goodIn_r _ [213, 214, 112, 617, 618, 619, 620, 621, 622, 623, 624, 625, 626, 627, 628, 629, 630, 631, 632, 633, 634, 635, 636, 637, 638, 639, 640, 641, 642] (by decide +kernel) (by decide +kernel)
set_option maxRecDepth 20000 in
theorem gL_law_X10_type : GoodIn wsL_law (wsV RL 34 RX10 yX10_type wsX10_type) := goodIn_app (goodIn_of _ (by decide +kernel)) ggL_law_X10_type
set_option maxRecDepth 20000 in
theorem ggL_law_X9_scrap : GoodIn wsL_law wsX9_scrap := goodIn_r _ [218, 44, 606, 607, 608, 609, 610, 611, 612, 613, 614, 615, 616] (by decide +kernel) (by decide +kernel)
set_option maxRecDepth 20000 in
theorem gL_law_X9_scrap : GoodIn wsL_law (wsV RL 35 RX9 yX9_scrap wsX9_scrap) := goodIn_app (goodIn_of _ (by decide +kernel)) ggL_law_X9_scrap
set_option maxRecDepth 20000 in
theorem ggL_law_X10_scrap : GoodIn wsL_law wsX10_scrap := goodIn_r _ [222, 214, 617, 618, 619, 620, 621, 622, 623, 624, 625, 626, 627, 628, 629, 630, 631, 632, 633, 634, 635, 636, 637, 638, 639, 640, 641, 642] (by decide +kernel) (by decide +kernel)
set_option maxRecDepth 20000 in
theorem gL_law_X10_scrap : GoodIn wsL_law (wsV RL 38 RX10 yX10_scrap wsX10_scrap) := goodIn_app (goodIn_of _ (by decide +kernel)) ggL_law_X10_scrap
set_option maxRecDepth 20000 in
theorem ggL_law_X9_size : GoodIn wsL_law wsX9_size := goodIn_r _ [226, 21, 227, 228, 229, 2, 230, 25, 43, 44, 29, 149, 150, 151, 20, 152, 153, 56, 154, 155, 156, 157, 158, 159, 138, 139, 15, 140, 51, 160, 161, 162, 163, 164, 165, 166, 167, 168, 169, 170, 171, 172, 173, 174, 175, 176, 177, 178, 179, 180, 181, 182, 183, 184, 185, 231, 232, 233, 24, 234, 61, 235, 236, 237, 238, 239, 240, 241, 242, 243, 244, 245, 246, 28, 247, 67, 248, 249, 250, 251, 252, 253, 71, 254, 255, 256, 257, 258, 259, 260, 261, 262, 263, 264, 70, 265, 266, 267, 78, 268, 79, 269, 270, 271, 272, 273, 274, 275, 276, 277, 278, 279, 280, 281, 282, 283, 284, 285, 286, 287, 288, 289, 290, 66, 291, 292, 293, 294, 77, 295, 296, 297, 298, 299, 300, 301, 302, 303, 304, 305, 306, 307, 308, 309, 310, 311, 312, 313, 606, 607, 608, 609, 610, 611, 612, 613, 614, 615, 616, 644, 645, 646, 647, 648, 649, 650, 651, 652, 643, 653, 654, 655, 656, 657, 658, 670, 671, 672, 673, 674] (by decide +kernel) (by decide +kernel)
set_option maxRecDepth 20000 in
theorem gL_law_X9_size : GoodIn wsL_law (wsV RL 39 RX9 yX9_size wsX9_size) := goodIn_app (goodIn_of _ (by decide +kernel)) ggL_law_X9_size
set_option maxRecDepth 20000 in
theorem ggL_law_X10_size : GoodIn wsL_law wsX10_size := goodIn_r _ [317, 318, 319, 320, 5, 321, 112, 214, 322, 187, 188, 189, 109, 190, 191, 192, 193, 194, 195, 196, 197, 198, 199, 200, 201, 202, 203, 204, 205, 323, 324, 325, 326, 113, 327, 328, 329, 330, 331, 332, 114, 333, 334, 335, 336, 337, 338, 339, 340, 341, 342, 343, 344, 345, 346, 347, 348, 349, 350, 351, 352, 353, 354, 355, 356, 357, 358, 359, 360, 361, 362, 363, 364, 365, 366, 367, 368, 369, 370, 371, 372, 373, 374, 375, 376, 377, 378, 379, 380, 381, 382, 383, 384, 385, 617, 618, 619, 620, 621, 622, 623, 624, 625, 626, 627, 628, 629, 630, 631, 632, 633, 634, 635, 636, 637, 638, 639, 640, 641, 642] (by decide +kernel) (by decide +kernel)
set_option maxRecDepth 20000 in
theorem gL_law_X10_size : GoodIn wsL_law (wsV RL 42 RX10 yX10_size wsX10_size) := goodIn_app (goodIn_of _ (by decide +kernel)) ggL_law_X10_size
set_option maxRecDepth 20000 in
theorem ggL_law_X9_read : GoodIn wsL_law wsX9_read := goodIn_r _ [389, 29, 390, 227, 228, 229, 2, 230, 21, 25, 43, 44, 149, 150, 151, 20, 152, 153, 56, 154, 155, 156, 157, 158, 159, 138, 139, 15, 140, 51, 160, 161, 162, 163, 164, 165, 166, 167, 168, 169, 170, 171, 172, 173, 174, 175, 176, 177, 178, 179, 180, 181, 182, 183, 184, 185, 231, 232, 233, 24, 234, 61, 235, 236, 237, 238, 239, 240, 241, 242, 243, 244, 245, 246, 28, 247, 67, 248, 249, 250, 251, 252, 253, 71, 254, 255, 256, 257, 258, 259, 260, 261, 262, 263, 264, 70, 265, 266, 267, 78, 268, 79, 269, 270, 271, 272, 273, 274, 275, 276, 277, 278, 279, 280, 281, 282, 283, 284, 285, 286, 287, 288, 289, 290, 66, 291, 292, 293, 294, 77, 295, 296, 297, 298, 299, 300, 301, 302, 303, 304, 305, 306, 307, 308, 309, 391, 392, 393, 394, 72, 395, 311, 312, 313, 396, 397, 398, 399, 400, 606, 607, 608, 609, 610, 611, 612, 613, 614, 615, 616, 655, 656, 657, 658, 644, 645, 646, 647, 648, 649, 650, 651, 652, 643, 653, 654, 670, 671, 672, 673, 674] (by decide +kernel) (by decide +kernel)
set_option maxRecDepth 20000 in
theorem gL_law_X9_read : GoodIn wsL_law (wsV RL 43 RX9 yX9_read wsX9_read) := goodIn_app (goodIn_of _ (by decide +kernel)) ggL_law_X9_read
set_option maxRecDepth 20000 in
theorem ggL_law_X10_read : GoodIn wsL_law wsX10_read := goodIn_r _ [404, 318, 319, 320, 5, 321, 112, 214, 322, 187, 188, 189, 109, 190, 191, 192, 193, 194, 195, 196, 197, 198, 199, 200, 201, 202, 203, 204, 205, 323, 324, 325, 326, 113, 327, 328, 329, 330, 331, 332, 114, 333, 334, 335, 336, 337, 338, 339, 340, 341, 342, 343, 344, 345, 346, 347, 348, 349, 350, 351, 352, 353, 354, 355, 356, 357, 358, 359, 360, 361, 362, 363, 364, 365, 366, 367, 368, 369, 370, 371, 372, 373, 374, 375, 376, 377, 378, 379, 380, 381, 405, 406, 407, 408, 382, 383, 384, 385, 409, 410, 411, 412, 617, 618, 619, 620, 621, 622, 623, 624, 625, 626, 627, 628, 629, 630, 631, 632, 633, 634, 635, 636, 637, 638, 639, 640, 641, 642] (by decide +kernel) (by decide +kernel)
set_option maxRecDepth 20000 in
theorem gL_law_X10_read : GoodIn wsL_law (wsV RL 46 RX10 yX10_read wsX10_read) := goodIn_app (goodIn_of _ (by decide +kernel)) ggL_law_X10_read
set_option maxRecDepth 20000 in
theorem ggL_law_X9_list : GoodIn wsL_law wsX9_list := goodIn_r _ [416, 21, 29, 149, 150, 151, 20, 152, 153, 56, 154, 155, 156, 157, 158, 159, 138, 139, 15, 140, 51, 160, 161, 162, 163, 164, 165, 166, 167, 168, 169, 170, 171, 172, 173, 174, 175, 176, 177, 178, 179, 180, 181, 182, 183, 184, 185, 417, 418, 419, 2, 420, 44, 421, 25, 43, 231, 232, 233, 24, 234, 61, 235, 236, 237, 238, 239, 240, 241, 242, 243, 422, 249, 250, 28, 251, 67, 252, 253, 71, 254, 255, 256, 257, 258, 259, 260, 261, 262, 263, 264, 70, 265, 266, 267, 78, 268, 79, 269, 270, 271, 272, 273, 274, 275, 276, 277, 278, 279, 280, 281, 282, 283, 284, 285, 286, 287, 288, 289, 290, 66, 291, 292, 293, 294, 77, 295, 296, 297, 298, 299, 300, 301, 302, 303, 304, 305, 306, 307, 308, 309, 423, 424, 425, 426, 427, 428, 429, 430, 431, 606, 607, 608, 609, 610, 611, 612, 613, 614, 615, 616, 644, 645, 646, 647, 648, 649, 650, 651, 652, 643, 653, 654, 655, 656, 657, 658, 670, 671, 672, 673, 674] (by decide +kernel) (by decide +kernel)
set_option maxRecDepth 20000 in
theorem gL_law_X9_list : GoodIn wsL_law (wsV RL 47 RX9 yX9_list wsX9_list) := goodIn_app (goodIn_of _ (by decide +kernel)) ggL_law_X9_list
set_option maxRecDepth 20000 in
theorem ggL_law_X10_list : GoodIn wsL_law wsX10_list := goodIn_r _ [435, 194, 214, 112, 436, 109, 437, 438, 439, 322, 187, 188, 5, 189, 190, 191, 192, 193, 195, 196, 197, 198, 199, 200, 201, 202, 203, 204, 205, 323, 324, 325, 326, 113, 327, 328, 329, 330, 331, 332, 114, 333, 334, 335, 336, 337, 338, 339, 340, 341, 342, 343, 344, 345, 346, 347, 348, 349, 350, 351, 352, 353, 354, 355, 356, 357, 358, 359, 360, 361, 362, 363, 364, 365, 366, 367, 368, 369, 370, 371, 372, 373, 374, 375, 376, 377, 378, 379, 380, 381, 617, 618, 619, 620, 621, 622, 623, 624, 625, 626, 627, 628, 629, 630, 631, 632, 633, 634, 635, 636, 637, 638, 639, 640, 641, 642] (by decide +kernel) (by decide +kernel)
set_option maxRecDepth 20000 in
theorem gL_law_X10_list : GoodIn wsL_law (wsV RL 51 RX10 yX10_list wsX10_list) := goodIn_app (goodIn_of _ (by decide +kernel)) ggL_law_X10_list
set_option maxRecDepth 20000 in
theorem ggL_law_X9_survey : GoodIn wsL_law wsX9_survey := goodIn_r _ [443, 21, 33, 149, 150, 151, 20, 152, 153, 56, 154, 155, 156, 157, 158, 159, 138, 139, 15, 140, 51, 160, 161, 162, 163, 164, 165, 166, 167, 168, 169, 170, 171, 172, 173, 174, 175, 176, 177, 178, 179, 180, 181, 182, 183, 184, 185, 444, 445, 446, 32, 447, 448, 449, 84, 450, 451, 452, 453, 454, 86, 455, 263, 264, 70, 265, 266, 267, 78, 268, 79, 269, 270, 271, 272, 273, 274, 275, 276, 277, 278, 279, 280, 281, 282, 283, 284, 285, 286, 456, 292, 293, 294, 77, 295, 296, 297, 298, 299, 300, 301, 302, 303, 304, 457, 458, 459, 460, 461, 255, 256, 257, 462, 259, 260, 261, 606, 607, 608, 609, 610, 611, 612, 613, 614, 615, 616, 644, 645, 646, 647, 648, 649, 650, 651, 652, 643, 659, 660, 661, 662, 670, 671, 672, 673, 674] (by decide +kernel) (by decide +kernel)
set_option maxRecDepth 20000 in
theorem gL_law_X9_survey : GoodIn wsL_law (wsV RL 52 RX9 yX9_survey wsX9_survey) := goodIn_app (goodIn_of _ (by decide +kernel)) ggL_law_X9_survey
set_option maxRecDepth 20000 in
theorem ggL_law_X10_survey : GoodIn wsL_law wsX10_survey := goodIn_r _ [466, 118, 194, 119, 120, 109, 322, 187, 188, 5, 189, 190, 191, 192, 193, 195, 196, 197, 198, 199, 200, 201, 202, 203, 204, 205, 345, 346, 347, 348, 349, 350, 351, 352, 353, 354, 355, 356, 357, 358, 359, 360, 361, 362, 363, 364, 365, 366, 367, 368, 369, 370, 371, 372, 378, 379, 380, 381, 617, 618, 619, 620, 621, 622, 623, 624, 625, 626, 627, 628, 629, 630, 631, 632, 633, 634, 635, 636, 637, 638, 639, 640, 641, 642] (by decide +kernel) (by decide +kernel)
set_option maxRecDepth 20000 in
theorem gL_law_X10_survey : GoodIn wsL_law (wsV RL 55 RX10 yX10_survey wsX10_survey) := goodIn_app (goodIn_of _ (by decide +kernel)) ggL_law_X10_survey
set_option maxRecDepth 20000 in
theorem ggL_law_X9_boot : GoodIn wsL_law wsX9_boot := goodIn_r _ [470, 21, 37, 471, 472, 473, 149, 150, 151, 20, 152, 153, 56, 154, 155, 156, 157, 158, 159, 138, 139, 15, 140, 51, 160, 161, 162, 163, 164, 165, 166, 167, 168, 169, 170, 171, 172, 173, 174, 175, 176, 177, 178, 179, 180, 181, 182, 183, 184, 185, 474, 475, 476, 2, 477, 25, 478, 29, 390, 231, 232, 233, 24, 234, 61, 235, 236, 237, 238, 239, 240, 241, 242, 243, 244, 245, 246, 28, 247, 67, 248, 249, 250, 251, 252, 253, 71, 254, 255, 256, 257, 258, 259, 260, 261, 262, 263, 264, 70, 265, 266, 267, 78, 268, 79, 269, 270, 271, 272, 273, 274, 275, 276, 277, 278, 279, 280, 281, 282, 283, 284, 285, 286, 287, 288, 289, 290, 66, 291, 292, 293, 294, 77, 295, 296, 297, 298, 299, 300, 301, 302, 303, 304, 305, 306, 307, 308, 309, 391, 392, 393, 394, 72, 395, 311, 312, 313, 396, 479, 480, 481, 36, 482, 96, 97, 98, 92, 483, 484, 485, 486, 95, 487, 488, 489, 490, 491, 398, 399, 400, 492, 493, 494, 495, 496, 497, 498, 499, 500, 501, 502, 503, 504, 505, 506, 41, 17, 507, 45, 508, 509, 510, 40, 511, 512, 513, 514, 515, 516, 517, 518, 519, 520, 521, 522, 523, 524, 525, 526, 527, 528, 529, 530, 531, 532, 533, 534, 535, 536, 537, 538, 539, 540, 397, 125, 126, 127, 128, 541, 542, 543, 544, 545, 546, 547, 548, 549, 550, 551, 552, 553, 554, 555, 556, 606, 607, 608, 609, 610, 611, 612, 613, 614, 615, 616, 663, 664, 665, 666, 675, 676, 677, 644, 645, 646, 647, 648, 649, 650, 651, 652, 643, 655, 656, 657, 658, 653, 654, 670, 671, 672, 673, 674, 667, 668, 669] (by decide +kernel) (by decide +kernel)
set_option maxRecDepth 20000 in
theorem gL_law_X9_boot : GoodIn wsL_law (wsV RL 56 RX9 yX9_boot wsX9_boot) := goodIn_app (goodIn_of _ (by decide +kernel)) ggL_law_X9_boot
set_option maxRecDepth 20000 in
theorem ggL_law_X10_boot : GoodIn wsL_law wsX10_boot := goodIn_r _ [560, 115, 561, 562, 116, 322, 187, 188, 5, 189, 109, 190, 191, 192, 193, 194, 195, 196, 197, 198, 199, 200, 201, 202, 203, 204, 205, 563, 564, 565, 566, 113, 327, 567, 328, 329, 330, 331, 332, 114, 333, 334, 335, 336, 337, 338, 339, 340, 341, 342, 343, 344, 345, 346, 347, 348, 349, 350, 351, 352, 353, 354, 355, 356, 357, 358, 359, 360, 361, 362, 363, 364, 365, 366, 367, 368, 369, 370, 371, 372, 373, 374, 375, 376, 377, 378, 379, 380, 381, 405, 406, 407, 408, 382, 383, 384, 385, 409, 410, 411, 412, 568, 569, 570, 571, 117, 323, 324, 325, 326, 572, 573, 574, 575, 576, 111, 577, 578, 579, 580, 581, 582, 583, 584, 110, 585, 586, 587, 588, 589, 617, 618, 619, 620, 621, 622, 623, 624, 625, 626, 627, 628, 629, 630, 631, 632, 633, 634, 635, 636, 637, 638, 639, 640, 641, 642] (by decide +kernel) (by decide +kernel)
set_option maxRecDepth 20000 in
theorem gL_law_X10_boot : GoodIn wsL_law (wsV RL 59 RX10 yX10_boot wsX10_boot) := goodIn_app (goodIn_of _ (by decide +kernel)) ggL_law_X10_boot
set_option maxRecDepth 20000 in
theorem ggL_law_X9_memory : GoodIn wsL_law wsX9_memory := goodIn_r _ [593, 17, 137, 138, 139, 15, 140, 51, 606, 607, 608, 609, 610, 611, 612, 613, 614, 615, 616, 643] (by decide +kernel) (by decide +kernel)
set_option maxRecDepth 20000 in
theorem gL_law_X9_memory : GoodIn wsL_law (wsV RL 60 RX9 yX9_memory wsX9_memory) := goodIn_app (goodIn_of _ (by decide +kernel)) ggL_law_X9_memory
set_option maxRecDepth 20000 in
theorem ggL_law_X10_memory : GoodIn wsL_law wsX10_memory := goodIn_r _ [597, 110, 617, 618, 619, 620, 621, 622, 623, 624, 625, 626, 627, 628, 629, 630, 631, 632, 633, 634, 635, 636, 637, 638, 639, 640, 641, 642] (by decide +kernel) (by decide +kernel)
set_option maxRecDepth 20000 in
theorem gL_law_X10_memory : GoodIn wsL_law (wsV RL 63 RX10 yX10_memory wsX10_memory) := goodIn_app (goodIn_of _ (by decide +kernel)) ggL_law_X10_memory
set_option maxRecDepth 20000 in
theorem ggL_law_X9_entry : GoodIn wsL_law wsX9_entry := goodIn_r _ [601, 45, 606, 607, 608, 609, 610, 611, 612, 613, 614, 615, 616] (by decide +kernel) (by decide +kernel)
set_option maxRecDepth 20000 in
theorem gL_law_X9_entry : GoodIn wsL_law (wsV RL 64 RX9 yX9_entry wsX9_entry) := goodIn_app (goodIn_of _ (by decide +kernel)) ggL_law_X9_entry
set_option maxRecDepth 20000 in
theorem ggL_law_X10_entry : GoodIn wsL_law wsX10_entry := goodIn_r _ [605, 111, 617, 618, 619, 620, 621, 622, 623, 624, 625, 626, 627, 628, 629, 630, 631, 632, 633, 634, 635, 636, 637, 638, 639, 640, 641, 642] (by decide +kernel) (by decide +kernel)
set_option maxRecDepth 20000 in
theorem gL_law_X10_entry : GoodIn wsL_law (wsV RL 67 RX10 yX10_entry wsX10_entry) := goodIn_app (goodIn_of _ (by decide +kernel)) ggL_law_X10_entry
theorem dL_law_0 : decode cL_law 0 = .ok (.new 7, 3) := by decide +kernel
theorem dL_law_3 : decode cL_law 3 = .ok (.dup, 1) := by decide +kernel
theorem dL_law_4 : decode cL_law 4 = .ok (.invokespecial 9, 3) := by decide +kernel
theorem dL_law_7 : decode cL_law 7 = .ok (.astore_n 1, 1) := by decide +kernel
theorem dL_law_8 : decode cL_law 8 = .ok (.new 10, 3) := by decide +kernel
theorem dL_law_11 : decode cL_law 11 = .ok (.dup, 1) := by decide +kernel
theorem dL_law_12 : decode cL_law 12 = .ok (.invokespecial 12, 3) := by decide +kernel
theorem dL_law_15 : decode cL_law 15 = .ok (.astore_n 2, 1) := by decide +kernel
theorem dL_law_16 : decode cL_law 16 = .ok (.iconst 0, 1) := by decide +kernel
theorem dL_law_17 : decode cL_law 17 = .ok (.istore_n 3, 1) := by decide +kernel
theorem dL_law_18 : decode cL_law 18 = .ok (.iload_n 3, 1) := by decide +kernel
theorem dL_law_19 : decode cL_law 19 = .ok (.aload_n 0, 1) := by decide +kernel
theorem dL_law_20 : decode cL_law 20 = .ok (.arraylength, 1) := by decide +kernel
theorem dL_law_21 : decode cL_law 21 = .ok (.iconst 5, 1) := by decide +kernel
theorem dL_law_22 : decode cL_law 22 = .ok (.isub, 1) := by decide +kernel
theorem dL_law_23 : decode cL_law 23 = .ok (.if_icmp .gt 348, 3) := by decide +kernel
theorem dL_law_26 : decode cL_law 26 = .ok (.aload_n 0, 1) := by decide +kernel
theorem dL_law_27 : decode cL_law 27 = .ok (.iload_n 3, 1) := by decide +kernel
theorem dL_law_28 : decode cL_law 28 = .ok (.iaload, 1) := by decide +kernel
theorem dL_law_29 : decode cL_law 29 = .ok (.bipush 15, 2) := by decide +kernel
theorem dL_law_31 : decode cL_law 31 = .ok (.iand, 1) := by decide +kernel
theorem dL_law_32 : decode cL_law 32 = .ok (.tableswitch 333 0 11 #[64, 137, 160, 173, 198, 211, 224, 247, 271, 284, 297, 320], 64) := by decide +kernel
theorem dL_law_96 : decode cL_law 96 = .ok (.aload_n 1, 1) := by decide +kernel
theorem dL_law_97 : decode cL_law 97 = .ok (.aload_n 0, 1) := by decide +kernel
theorem dL_law_98 : decode cL_law 98 = .ok (.iload_n 3, 1) := by decide +kernel
theorem dL_law_99 : decode cL_law 99 = .ok (.iconst 1, 1) := by decide +kernel
theorem dL_law_100 : decode cL_law 100 = .ok (.iadd, 1) := by decide +kernel
theorem dL_law_101 : decode cL_law 101 = .ok (.iaload, 1) := by decide +kernel
theorem dL_law_102 : decode cL_law 102 = .ok (.aload_n 0, 1) := by decide +kernel
theorem dL_law_103 : decode cL_law 103 = .ok (.iload_n 3, 1) := by decide +kernel
theorem dL_law_104 : decode cL_law 104 = .ok (.iconst 2, 1) := by decide +kernel
theorem dL_law_105 : decode cL_law 105 = .ok (.iadd, 1) := by decide +kernel
theorem dL_law_106 : decode cL_law 106 = .ok (.iaload, 1) := by decide +kernel
theorem dL_law_107 : decode cL_law 107 = .ok (.i2l, 1) := by decide +kernel
theorem dL_law_108 : decode cL_law 108 = .ok (.bipush 32, 2) := by decide +kernel
theorem dL_law_110 : decode cL_law 110 = .ok (.lshl, 1) := by decide +kernel
theorem dL_law_111 : decode cL_law 111 = .ok (.aload_n 0, 1) := by decide +kernel
theorem dL_law_112 : decode cL_law 112 = .ok (.iload_n 3, 1) := by decide +kernel
theorem dL_law_113 : decode cL_law 113 = .ok (.iconst 3, 1) := by decide +kernel
theorem dL_law_114 : decode cL_law 114 = .ok (.iadd, 1) := by decide +kernel
theorem dL_law_115 : decode cL_law 115 = .ok (.iaload, 1) := by decide +kernel
theorem dL_law_116 : decode cL_law 116 = .ok (.i2l, 1) := by decide +kernel
theorem dL_law_117 : decode cL_law 117 = .ok (.ldc2_w 13, 3) := by decide +kernel
theorem dL_law_120 : decode cL_law 120 = .ok (.land, 1) := by decide +kernel
theorem dL_law_121 : decode cL_law 121 = .ok (.lor, 1) := by decide +kernel
theorem dL_law_122 : decode cL_law 122 = .ok (.aload_n 0, 1) := by decide +kernel
theorem dL_law_123 : decode cL_law 123 = .ok (.iload_n 3, 1) := by decide +kernel
theorem dL_law_124 : decode cL_law 124 = .ok (.iconst 4, 1) := by decide +kernel
theorem dL_law_125 : decode cL_law 125 = .ok (.iadd, 1) := by decide +kernel
theorem dL_law_126 : decode cL_law 126 = .ok (.iaload, 1) := by decide +kernel
theorem dL_law_127 : decode cL_law 127 = .ok (.invokevirtual 15, 3) := by decide +kernel
theorem dL_law_130 : decode cL_law 130 = .ok (.aload_n 2, 1) := by decide +kernel
theorem dL_law_131 : decode cL_law 131 = .ok (.aload_n 0, 1) := by decide +kernel
theorem dL_law_132 : decode cL_law 132 = .ok (.iload_n 3, 1) := by decide +kernel
theorem dL_law_133 : decode cL_law 133 = .ok (.iconst 1, 1) := by decide +kernel
theorem dL_law_134 : decode cL_law 134 = .ok (.iadd, 1) := by decide +kernel
theorem dL_law_135 : decode cL_law 135 = .ok (.iaload, 1) := by decide +kernel
theorem dL_law_136 : decode cL_law 136 = .ok (.aload_n 0, 1) := by decide +kernel
theorem dL_law_137 : decode cL_law 137 = .ok (.iload_n 3, 1) := by decide +kernel
theorem dL_law_138 : decode cL_law 138 = .ok (.iconst 2, 1) := by decide +kernel
theorem dL_law_139 : decode cL_law 139 = .ok (.iadd, 1) := by decide +kernel
theorem dL_law_140 : decode cL_law 140 = .ok (.iaload, 1) := by decide +kernel
theorem dL_law_141 : decode cL_law 141 = .ok (.i2l, 1) := by decide +kernel
theorem dL_law_142 : decode cL_law 142 = .ok (.bipush 32, 2) := by decide +kernel
theorem dL_law_144 : decode cL_law 144 = .ok (.lshl, 1) := by decide +kernel
theorem dL_law_145 : decode cL_law 145 = .ok (.aload_n 0, 1) := by decide +kernel
theorem dL_law_146 : decode cL_law 146 = .ok (.iload_n 3, 1) := by decide +kernel
theorem dL_law_147 : decode cL_law 147 = .ok (.iconst 3, 1) := by decide +kernel
theorem dL_law_148 : decode cL_law 148 = .ok (.iadd, 1) := by decide +kernel
theorem dL_law_149 : decode cL_law 149 = .ok (.iaload, 1) := by decide +kernel
theorem dL_law_150 : decode cL_law 150 = .ok (.i2l, 1) := by decide +kernel
theorem dL_law_151 : decode cL_law 151 = .ok (.ldc2_w 13, 3) := by decide +kernel
theorem dL_law_154 : decode cL_law 154 = .ok (.land, 1) := by decide +kernel
theorem dL_law_155 : decode cL_law 155 = .ok (.lor, 1) := by decide +kernel
theorem dL_law_156 : decode cL_law 156 = .ok (.aload_n 0, 1) := by decide +kernel
theorem dL_law_157 : decode cL_law 157 = .ok (.iload_n 3, 1) := by decide +kernel
theorem dL_law_158 : decode cL_law 158 = .ok (.iconst 4, 1) := by decide +kernel
theorem dL_law_159 : decode cL_law 159 = .ok (.iadd, 1) := by decide +kernel
theorem dL_law_160 : decode cL_law 160 = .ok (.iaload, 1) := by decide +kernel
theorem dL_law_161 : decode cL_law 161 = .ok (.invokevirtual 19, 3) := by decide +kernel
theorem dL_law_164 : decode cL_law 164 = .ok (.if_icmp .eq 201, 3) := by decide +kernel
theorem dL_law_167 : decode cL_law 167 = .ok (.iconst 0, 1) := by decide +kernel
theorem dL_law_168 : decode cL_law 168 = .ok (.ireturn, 1) := by decide +kernel
theorem dL_law_169 : decode cL_law 169 = .ok (.aload_n 1, 1) := by decide +kernel
theorem dL_law_170 : decode cL_law 170 = .ok (.aload_n 0, 1) := by decide +kernel
theorem dL_law_171 : decode cL_law 171 = .ok (.iload_n 3, 1) := by decide +kernel
theorem dL_law_172 : decode cL_law 172 = .ok (.iconst 1, 1) := by decide +kernel
theorem dL_law_173 : decode cL_law 173 = .ok (.iadd, 1) := by decide +kernel
theorem dL_law_174 : decode cL_law 174 = .ok (.iaload, 1) := by decide +kernel
theorem dL_law_175 : decode cL_law 175 = .ok (.invokevirtual 20, 3) := by decide +kernel
theorem dL_law_178 : decode cL_law 178 = .ok (.aload_n 2, 1) := by decide +kernel
theorem dL_law_179 : decode cL_law 179 = .ok (.aload_n 0, 1) := by decide +kernel
theorem dL_law_180 : decode cL_law 180 = .ok (.iload_n 3, 1) := by decide +kernel
theorem dL_law_181 : decode cL_law 181 = .ok (.iconst 1, 1) := by decide +kernel
theorem dL_law_182 : decode cL_law 182 = .ok (.iadd, 1) := by decide +kernel
theorem dL_law_183 : decode cL_law 183 = .ok (.iaload, 1) := by decide +kernel
theorem dL_law_184 : decode cL_law 184 = .ok (.invokevirtual 24, 3) := by decide +kernel
theorem dL_law_187 : decode cL_law 187 = .ok (.if_icmp .eq 178, 3) := by decide +kernel
theorem dL_law_190 : decode cL_law 190 = .ok (.iconst 0, 1) := by decide +kernel
theorem dL_law_191 : decode cL_law 191 = .ok (.ireturn, 1) := by decide +kernel
theorem dL_law_192 : decode cL_law 192 = .ok (.aload_n 1, 1) := by decide +kernel
theorem dL_law_193 : decode cL_law 193 = .ok (.invokevirtual 25, 3) := by decide +kernel
theorem dL_law_196 : decode cL_law 196 = .ok (.aload_n 2, 1) := by decide +kernel
theorem dL_law_197 : decode cL_law 197 = .ok (.invokevirtual 29, 3) := by decide +kernel
theorem dL_law_200 : decode cL_law 200 = .ok (.if_icmp .eq 165, 3) := by decide +kernel
theorem dL_law_203 : decode cL_law 203 = .ok (.iconst 0, 1) := by decide +kernel
theorem dL_law_204 : decode cL_law 204 = .ok (.ireturn, 1) := by decide +kernel
theorem dL_law_205 : decode cL_law 205 = .ok (.aload_n 1, 1) := by decide +kernel
theorem dL_law_206 : decode cL_law 206 = .ok (.aload_n 0, 1) := by decide +kernel
theorem dL_law_207 : decode cL_law 207 = .ok (.iload_n 3, 1) := by decide +kernel
theorem dL_law_208 : decode cL_law 208 = .ok (.iconst 1, 1) := by decide +kernel
theorem dL_law_209 : decode cL_law 209 = .ok (.iadd, 1) := by decide +kernel
theorem dL_law_210 : decode cL_law 210 = .ok (.iaload, 1) := by decide +kernel
theorem dL_law_211 : decode cL_law 211 = .ok (.i2c, 1) := by decide +kernel
theorem dL_law_212 : decode cL_law 212 = .ok (.invokevirtual 30, 3) := by decide +kernel
theorem dL_law_215 : decode cL_law 215 = .ok (.aload_n 2, 1) := by decide +kernel
theorem dL_law_216 : decode cL_law 216 = .ok (.aload_n 0, 1) := by decide +kernel
theorem dL_law_217 : decode cL_law 217 = .ok (.iload_n 3, 1) := by decide +kernel
theorem dL_law_218 : decode cL_law 218 = .ok (.iconst 1, 1) := by decide +kernel
theorem dL_law_219 : decode cL_law 219 = .ok (.iadd, 1) := by decide +kernel
theorem dL_law_220 : decode cL_law 220 = .ok (.iaload, 1) := by decide +kernel
theorem dL_law_221 : decode cL_law 221 = .ok (.i2c, 1) := by decide +kernel
theorem dL_law_222 : decode cL_law 222 = .ok (.invokevirtual 34, 3) := by decide +kernel
theorem dL_law_225 : decode cL_law 225 = .ok (.if_icmp .eq 140, 3) := by decide +kernel
theorem dL_law_228 : decode cL_law 228 = .ok (.iconst 0, 1) := by decide +kernel
theorem dL_law_229 : decode cL_law 229 = .ok (.ireturn, 1) := by decide +kernel
theorem dL_law_230 : decode cL_law 230 = .ok (.aload_n 1, 1) := by decide +kernel
theorem dL_law_231 : decode cL_law 231 = .ok (.invokevirtual 35, 3) := by decide +kernel
theorem dL_law_234 : decode cL_law 234 = .ok (.aload_n 2, 1) := by decide +kernel
theorem dL_law_235 : decode cL_law 235 = .ok (.invokevirtual 38, 3) := by decide +kernel
theorem dL_law_238 : decode cL_law 238 = .ok (.if_icmp .eq 127, 3) := by decide +kernel
theorem dL_law_241 : decode cL_law 241 = .ok (.iconst 0, 1) := by decide +kernel
theorem dL_law_242 : decode cL_law 242 = .ok (.ireturn, 1) := by decide +kernel
theorem dL_law_243 : decode cL_law 243 = .ok (.aload_n 1, 1) := by decide +kernel
theorem dL_law_244 : decode cL_law 244 = .ok (.invokevirtual 39, 3) := by decide +kernel
theorem dL_law_247 : decode cL_law 247 = .ok (.aload_n 2, 1) := by decide +kernel
theorem dL_law_248 : decode cL_law 248 = .ok (.invokevirtual 42, 3) := by decide +kernel
theorem dL_law_251 : decode cL_law 251 = .ok (.if_icmp .eq 114, 3) := by decide +kernel
theorem dL_law_254 : decode cL_law 254 = .ok (.iconst 0, 1) := by decide +kernel
theorem dL_law_255 : decode cL_law 255 = .ok (.ireturn, 1) := by decide +kernel
theorem dL_law_256 : decode cL_law 256 = .ok (.aload_n 1, 1) := by decide +kernel
theorem dL_law_257 : decode cL_law 257 = .ok (.aload_n 0, 1) := by decide +kernel
theorem dL_law_258 : decode cL_law 258 = .ok (.iload_n 3, 1) := by decide +kernel
theorem dL_law_259 : decode cL_law 259 = .ok (.iconst 1, 1) := by decide +kernel
theorem dL_law_260 : decode cL_law 260 = .ok (.iadd, 1) := by decide +kernel
theorem dL_law_261 : decode cL_law 261 = .ok (.iaload, 1) := by decide +kernel
theorem dL_law_262 : decode cL_law 262 = .ok (.invokevirtual 43, 3) := by decide +kernel
theorem dL_law_265 : decode cL_law 265 = .ok (.aload_n 2, 1) := by decide +kernel
theorem dL_law_266 : decode cL_law 266 = .ok (.aload_n 0, 1) := by decide +kernel
theorem dL_law_267 : decode cL_law 267 = .ok (.iload_n 3, 1) := by decide +kernel
theorem dL_law_268 : decode cL_law 268 = .ok (.iconst 1, 1) := by decide +kernel
theorem dL_law_269 : decode cL_law 269 = .ok (.iadd, 1) := by decide +kernel
theorem dL_law_270 : decode cL_law 270 = .ok (.iaload, 1) := by decide +kernel
theorem dL_law_271 : decode cL_law 271 = .ok (.invokevirtual 46, 3) := by decide +kernel
theorem dL_law_274 : decode cL_law 274 = .ok (.if_icmp .eq 91, 3) := by decide +kernel
theorem dL_law_277 : decode cL_law 277 = .ok (.iconst 0, 1) := by decide +kernel
theorem dL_law_278 : decode cL_law 278 = .ok (.ireturn, 1) := by decide +kernel
theorem dL_law_279 : decode cL_law 279 = .ok (.aload_n 1, 1) := by decide +kernel
theorem dL_law_280 : decode cL_law 280 = .ok (.aload_n 0, 1) := by decide +kernel
theorem dL_law_281 : decode cL_law 281 = .ok (.iload_n 3, 1) := by decide +kernel
theorem dL_law_282 : decode cL_law 282 = .ok (.iconst 1, 1) := by decide +kernel
theorem dL_law_283 : decode cL_law 283 = .ok (.iadd, 1) := by decide +kernel
theorem dL_law_284 : decode cL_law 284 = .ok (.iaload, 1) := by decide +kernel
theorem dL_law_285 : decode cL_law 285 = .ok (.invokevirtual 47, 3) := by decide +kernel
theorem dL_law_288 : decode cL_law 288 = .ok (.aload_n 2, 1) := by decide +kernel
theorem dL_law_289 : decode cL_law 289 = .ok (.aload_n 0, 1) := by decide +kernel
theorem dL_law_290 : decode cL_law 290 = .ok (.iload_n 3, 1) := by decide +kernel
theorem dL_law_291 : decode cL_law 291 = .ok (.iconst 1, 1) := by decide +kernel
theorem dL_law_292 : decode cL_law 292 = .ok (.iadd, 1) := by decide +kernel
theorem dL_law_293 : decode cL_law 293 = .ok (.iaload, 1) := by decide +kernel
theorem dL_law_294 : decode cL_law 294 = .ok (.invokevirtual 51, 3) := by decide +kernel
theorem dL_law_297 : decode cL_law 297 = .ok (.lcmp, 1) := by decide +kernel
theorem dL_law_298 : decode cL_law 298 = .ok (.ifCond .eq 67, 3) := by decide +kernel
theorem dL_law_301 : decode cL_law 301 = .ok (.iconst 0, 1) := by decide +kernel
theorem dL_law_302 : decode cL_law 302 = .ok (.ireturn, 1) := by decide +kernel
theorem dL_law_303 : decode cL_law 303 = .ok (.aload_n 1, 1) := by decide +kernel
theorem dL_law_304 : decode cL_law 304 = .ok (.invokevirtual 52, 3) := by decide +kernel
theorem dL_law_307 : decode cL_law 307 = .ok (.aload_n 2, 1) := by decide +kernel
theorem dL_law_308 : decode cL_law 308 = .ok (.invokevirtual 55, 3) := by decide +kernel
theorem dL_law_311 : decode cL_law 311 = .ok (.if_icmp .eq 54, 3) := by decide +kernel
theorem dL_law_314 : decode cL_law 314 = .ok (.iconst 0, 1) := by decide +kernel
theorem dL_law_315 : decode cL_law 315 = .ok (.ireturn, 1) := by decide +kernel
theorem dL_law_316 : decode cL_law 316 = .ok (.aload_n 1, 1) := by decide +kernel
theorem dL_law_317 : decode cL_law 317 = .ok (.invokevirtual 56, 3) := by decide +kernel
theorem dL_law_320 : decode cL_law 320 = .ok (.aload_n 2, 1) := by decide +kernel
theorem dL_law_321 : decode cL_law 321 = .ok (.invokevirtual 59, 3) := by decide +kernel
theorem dL_law_324 : decode cL_law 324 = .ok (.if_icmp .eq 41, 3) := by decide +kernel
theorem dL_law_327 : decode cL_law 327 = .ok (.iconst 0, 1) := by decide +kernel
theorem dL_law_328 : decode cL_law 328 = .ok (.ireturn, 1) := by decide +kernel
theorem dL_law_329 : decode cL_law 329 = .ok (.aload_n 1, 1) := by decide +kernel
theorem dL_law_330 : decode cL_law 330 = .ok (.aload_n 0, 1) := by decide +kernel
theorem dL_law_331 : decode cL_law 331 = .ok (.iload_n 3, 1) := by decide +kernel
theorem dL_law_332 : decode cL_law 332 = .ok (.iconst 1, 1) := by decide +kernel
theorem dL_law_333 : decode cL_law 333 = .ok (.iadd, 1) := by decide +kernel
theorem dL_law_334 : decode cL_law 334 = .ok (.iaload, 1) := by decide +kernel
theorem dL_law_335 : decode cL_law 335 = .ok (.invokevirtual 60, 3) := by decide +kernel
theorem dL_law_338 : decode cL_law 338 = .ok (.aload_n 2, 1) := by decide +kernel
theorem dL_law_339 : decode cL_law 339 = .ok (.aload_n 0, 1) := by decide +kernel
theorem dL_law_340 : decode cL_law 340 = .ok (.iload_n 3, 1) := by decide +kernel
theorem dL_law_341 : decode cL_law 341 = .ok (.iconst 1, 1) := by decide +kernel
theorem dL_law_342 : decode cL_law 342 = .ok (.iadd, 1) := by decide +kernel
theorem dL_law_343 : decode cL_law 343 = .ok (.iaload, 1) := by decide +kernel
theorem dL_law_344 : decode cL_law 344 = .ok (.invokevirtual 63, 3) := by decide +kernel
theorem dL_law_347 : decode cL_law 347 = .ok (.if_icmp .eq 18, 3) := by decide +kernel
theorem dL_law_350 : decode cL_law 350 = .ok (.iconst 0, 1) := by decide +kernel
theorem dL_law_351 : decode cL_law 351 = .ok (.ireturn, 1) := by decide +kernel
theorem dL_law_352 : decode cL_law 352 = .ok (.aload_n 1, 1) := by decide +kernel
theorem dL_law_353 : decode cL_law 353 = .ok (.invokevirtual 64, 3) := by decide +kernel
theorem dL_law_356 : decode cL_law 356 = .ok (.aload_n 2, 1) := by decide +kernel
theorem dL_law_357 : decode cL_law 357 = .ok (.invokevirtual 67, 3) := by decide +kernel
theorem dL_law_360 : decode cL_law 360 = .ok (.if_icmp .eq 5, 3) := by decide +kernel
theorem dL_law_363 : decode cL_law 363 = .ok (.iconst 0, 1) := by decide +kernel
theorem dL_law_364 : decode cL_law 364 = .ok (.ireturn, 1) := by decide +kernel
theorem dL_law_365 : decode cL_law 365 = .ok (.iinc 3 5, 3) := by decide +kernel
theorem dL_law_368 : decode cL_law 368 = .ok (.goto (-350), 3) := by decide +kernel
theorem dL_law_371 : decode cL_law 371 = .ok (.iconst 1, 1) := by decide +kernel
theorem dL_law_372 : decode cL_law 372 = .ok (.ireturn, 1) := by decide +kernel
end
section
/-! my own engine over the kit: ints as Int (iI), a state bundle (kS), a contract form (kCi, kCv, kCl), rows that take and give the bundle -/
def iI (z : Int) : Int32 := Int32.ofInt z
def ir (z : Int) : Prop := -2147483648 ≤ z ∧ z < 2147483648
theorem iI_add (a b : Int) : iI a + iI b = iI (a + b) := (Int32.ofInt_add a b).symm
theorem iI_sub (a b : Int) : iI a - iI b = iI (a - b) := (Int32.ofInt_sub a b).symm
theorem iI_mul (a b : Int) : iI a * iI b = iI (a * b) := (Int32.ofInt_mul a b).symm
theorem iI_neg (a : Int) : -iI a = iI (-a) := (Int32.ofInt_neg a).symm
theorem iI_toInt {z : Int} (h : ir z) : (iI z).toInt = z := by
  obtain ⟨h1, h2⟩ := h
  exact Int32.toInt_ofInt_of_le (by omega) (by omega)
theorem iI_of (x : Int32) : iI x.toInt = x := Int32.ofInt_toInt x
theorem iI_ir (x : Int32) : ir x.toInt := ⟨by have := Int32.le_toInt x; omega, by have := Int32.toInt_lt x; omega⟩
theorem iI_nI (n : Nat) : iI (n : Int) = nI n := Int32.ofInt_eq_ofNat
theorem iI_inj {a b : Int} (ha : ir a) (hb : ir b) : iI a = iI b ↔ a = b := by
  constructor
  · intro h
    have := congrArg Int32.toInt h
    rwa [iI_toInt ha, iI_toInt hb] at this
  · intro h; rw [h]
theorem iI_lt {a b : Int} (ha : ir a) (hb : ir b) : iI a < iI b ↔ a < b := by rw [Int32.lt_iff_toInt_lt, iI_toInt ha, iI_toInt hb]
theorem iI_le {a b : Int} (ha : ir a) (hb : ir b) : iI a ≤ iI b ↔ a ≤ b := by rw [Int32.le_iff_toInt_le, iI_toInt ha, iI_toInt hb]
theorem iI_clamp {z : Int} (h0 : 0 ≤ z) (h : z < 2147483648) : (iI z).toNatClampNeg = z.toNat := Int32.toNatClampNeg_ofInt_of_le (by omega) (by omega)
theorem iI_in {z : Int} {n : Nat} (h0 : 0 ≤ z) (h : z < n) (hn : n < 2147483648) : vp_in (iI z) n := vp_in_iff.mpr (by rw [iI_toInt ⟨by omega, by omega⟩]; exact ⟨h0, h⟩)
theorem iI_0 : iI 0 = 0 := rfl
theorem iI_addn (a b : Int) : iI a + iI (-b) = iI (a - b) := by rw [iI_add]; rfl
/-- a byte's cell -/
def bI (z : Int) : Int32 := (iI z).toInt8.toInt32
theorem bI_and {z : Int} (h0 : 0 ≤ z) (h : z < 256) : bI z &&& 255 = iI z := by
  obtain ⟨k, rfl⟩ := Int.eq_ofNat_of_zero_le h0
  unfold bI
  rw [iI_nI]
  exact sc_k8 k (by omega)
/-- the bundle: tables, cells, apart, frame -/
def kS (D : va_G) (cl : List vw_C) (tys : List (ClassId × FieldType)) (A : Nat → Prop) (s : State) (ws : va_W) (H : Heap) (locs : List Loc) : Prop :=
  va_K D cl tys s ∧ va_P D cl ws H ∧ va_D A ws ∧ va_S A s.heap H locs ∧ ∀ q : Nat, s.heap.size ≤ q → A q
theorem kS.sub {D : va_G} {cl : List vw_C} {tys : List (ClassId × FieldType)} {A : Nat → Prop} {s : State} {ws ws' : va_W} {H : Heap} {locs : List Loc} (S : kS D cl tys A s ws H locs) (is : List Nat) (hn : va_nd is = true) (hs : is.map (fun i => ws[i]?) = ws'.map some) : kS D cl tys A s ws' H locs := by
  obtain ⟨hK, hP, hD, hS, hA⟩ := S
  refine ⟨hK, ?_, hD.sub is hn hs, hS, hA⟩
  intro k q hq
  have h1 : (is.map (fun i => ws[i]?))[k]? = some (some q) := by rw [hs, List.getElem?_map, hq]; rfl
  rw [List.getElem?_map] at h1
  cases hi : is[k]? with
  | none => rw [hi] at h1; cases h1
  | some i => rw [hi] at h1; exact hP i q (Option.some.inj h1)
/-- contracts: the world before, the answer and the world behind; nothing new is made -/
def kPre (D : va_G) (cl : List vw_C) (tys : List (ClassId × FieldType)) (w : va_W) (sz : Nat) (U : State) : Prop := U.heap.size = sz ∧ va_P D cl w U.heap ∧ va_K D cl tys U ∧ va_D (fun _ => True) w
def kPost (D : va_G) (cl : List vw_C) (tys : List (ClassId × FieldType)) (A : Nat → Prop) (u : va_W) (t : State) : Prop := va_P D cl u t.heap ∧ va_K D cl tys t ∧ va_D A u
def kCi (l : Launch) (D : va_G) (cl : List vw_C) (tys : List (ClassId × FieldType)) (y : MethodName) (ws : List Cond) (rm : Room) (as : List Value) (w : va_W) (post : Int32 → va_W → Prop) : Prop :=
  ∀ sz : Nat, Met l y ws rm (va_Pc as (kPre D cl tys w sz)) (va_Qi post (kPost D cl tys (va_A w sz)) (va_A w sz)) 0 0 (va_A w sz)
def kCl (l : Launch) (D : va_G) (cl : List vw_C) (tys : List (ClassId × FieldType)) (y : MethodName) (ws : List Cond) (rm : Room) (as : List Value) (w : va_W) (post : Int64 → va_W → Prop) : Prop :=
  ∀ sz : Nat, Met l y ws rm (va_Pc as (kPre D cl tys w sz)) (va_Ql post (kPost D cl tys (va_A w sz)) (va_A w sz)) 0 0 (va_A w sz)
def kCv (l : Launch) (D : va_G) (cl : List vw_C) (tys : List (ClassId × FieldType)) (y : MethodName) (ws : List Cond) (rm : Room) (as : List Value) (w : va_W) (post : va_W → Prop) : Prop :=
  ∀ sz : Nat, Met l y ws rm (va_Pc as (kPre D cl tys w sz)) (va_Qv post (kPost D cl tys (va_A w sz)) (va_A w sz)) 0 0 (va_A w sz)
theorem kPre_blind {D : va_G} {cl : List vw_C} {tys : List (ClassId × FieldType)} {w : va_W} {sz : Nat} {as : List Value} : FrameBlind (va_Pc as (kPre D cl tys w sz)) := by
  intro a U g mk q
  obtain ⟨q0, q1, qP, qK, qD⟩ := q
  exact ⟨q0, q1, qP, va_K.moved (u := U) (U := U.calling g mk a) (Vm.Alike.refl U.vm) qK, qD⟩
theorem kEntry {l : Launch} {y : MethodName} {ws ws' : List Cond} {rm : Room} {cc : ByteArray} {maxL : Nat} {ret : Option FieldType} {D : va_G} {cl : List vw_C} {tys : List (ClassId × FieldType)} {as : List Value} {w : va_W} {sz : Nat} {Qc : Array Value → State → Outcome → State → Prop}
    (hy : plainName y.cls = true) (hw : ws = Cond.code y cc maxL ret :: ws') (hfit : (lg_sl as).length ≤ maxL)
    (body : ∀ (p : Program) (e : Env) (s : State) (m : MethodId) (args : Array Value) (below : List Frame) (meth : Method) (c : Code) (A : Nat → Prop) (Q : State → Prop), va_A w s.heap.size = A → MQ below Qc args s 0 0 (va_A w sz) = Q → CallFix p m c cc maxL s args ws y.cls → meth.sig.returnType = ret → meth.locks = false → kS D cl tys A s w s.heap [] → sz = s.heap.size →
      ∀ ls : Array Slot, lv_has ls maxL (lv_args 0 as) → W p l e rm s m args below meth c s.heap [] 0 0 Q (F0 m 0 ls [])) :
    Met l y ws rm (va_Pc as (kPre D cl tys w sz)) Qc 0 0 (va_A w sz) := by
  refine Met.ofW (cc := cc) (maxL := maxL) (ret := ret) hy hw ?_
  intro p e s m args below meth c s₁ B hml hv
  obtain ⟨rfl, hsz, hP, hK, hD0⟩ := hv
  have hl := lv_entry as (n := maxL) hfit
  rw [lg_entry_eq]
  exact body p e s m _ below meth c _ _ rfl rfl ⟨B.exec, B.bytes, hml, findClass_of_methodNamed B.named, atoms_spec (ws := ws) B.pre⟩ B.returns B.notSynchronized ⟨hK, hP, hD0.self, va_S.rf, fun q h => Or.inr h⟩ hsz.symm _ hl
section KROWS
variable {p : Program} {l : Launch} {e : Env} {R : Room} {s : State} {m : MethodId} {args : Array Value} {below : List Frame} {meth : Method} {c : Code} {H : Heap} {locs : List Loc} {cells slots : Nat} {Q : State → Prop}
variable {cc : ByteArray} {nL pc : Nat} {ls : Array Slot} {rest : List Value} {D : va_G} {cl : List vw_C} {A : Nat → Prop} {a : Nat} {tys : List (ClassId × FieldType)} {ws ws' : va_W} {Ts : List Cond} {own : String}
theorem k_get (C0 : CallFix p m c cc nL s args Ts own) (S : kS D cl tys A s ws H locs) {C : String} {T : u_T} {N ci index : Nat} (hin : ∀ w ∈ u_ws C T N, w ∈ Ts) (q0 : Nat) {fs : List Value} (he : ws[q0]? = some (a, .inr (ci, fs))) (hc : cl[ci]? = some (C, T, N)) (k : Nat) (hk : k < N) (hlink : Cond.fieldLink own index (T k).1 (T k).2.1 (T k).2.2.1 ∈ Ts) {v : Value} (hv : fs[k]? = some v) (hdg : decode cc pc = .ok (.getfield index, 3))
    (kk : W p l e R s m args below meth c H locs cells slots Q (F0 m (pc + 3) ls (v :: rest))) : W p l e R s m args below meth c H locs cells slots Q (F0 m pc ls (.ref a :: rest)) :=
  va_get C0.1 C0.2.1 C0.2.2.2.2 hin C0.2.2.2.1 S.1 S.2.1 q0 he hc k hk (C0.2.2.2.2 _ hlink) (fun _ h => h) hv hdg kk
theorem k_put (C0 : CallFix p m c cc nL s args Ts own) (S : kS D cl tys A s ws H locs) {C : String} {T : u_T} {N ci index : Nat} (hin : ∀ w ∈ u_ws C T N, w ∈ Ts) (ty0 : Nat → FieldType) (hty : ∀ k, k < N → parseFieldDescriptor (T k).2.2.1 = some (ty0 k)) (hnm : ∀ a, a < N → ∀ b, b < N → a ≠ b → (T a).2.1 ≠ (T b).2.1) (q0 : Nat) {fs : List Value} (he : ws[q0]? = some (a, .inr (ci, fs))) (hc : cl[ci]? = some (C, T, N)) (k : Nat) (hk : k < N) (hlink : Cond.fieldLink own index (T k).1 (T k).2.1 (T k).2.2.1 ∈ Ts) (hfin : (T k).2.2.2 = false) {v : Value} (hn : narrow (ty0 k) v = v) (hfit : fits (ty0 k) v = true) (hl : k < fs.length) (hdg : decode cc pc = .ok (.putfield index, 3))
    (hw : ws.set q0 (a, .inr (ci, fs.set k v)) = ws')
    (kk : ∀ (H1 : Heap) (locs1 : List Loc), kS D cl tys A s ws' H1 locs1 → W p l e R s m args below meth c H1 locs1 cells slots Q (F0 m (pc + 3) ls rest)) : W p l e R s m args below meth c H locs cells slots Q (F0 m pc ls (v :: .ref a :: rest)) := by
  subst hw
  exact va_put C0.1 C0.2.1 C0.2.2.2.2 hin ty0 hty hnm C0.2.2.2.1 S.1 S.2.1 S.2.2.1 S.2.2.2.1 q0 he hc k hk (C0.2.2.2.2 _ hlink) (fun _ h => h) hfin (hty k hk) hn hfit hl hdg (fun H1 locs1 hP hD hS => kk H1 locs1 ⟨S.1, hP, hD, hS, S.2.2.2.2⟩)
theorem k_putF (C0 : CallFix p m c cc nL s args Ts own) (S : kS D cl tys A s ws H locs) {C : String} {T : u_T} {N ci index : Nat} (hin : ∀ w ∈ u_ws C T N, w ∈ Ts) (ty0 : Nat → FieldType) (hty : ∀ k, k < N → parseFieldDescriptor (T k).2.2.1 = some (ty0 k)) (hnm : ∀ a, a < N → ∀ b, b < N → a ≠ b → (T a).2.1 ≠ (T b).2.1) (q0 : Nat) {fs : List Value} (he : ws[q0]? = some (a, .inr (ci, fs))) (hc : cl[ci]? = some (C, T, N)) (k : Nat) (hk : k < N) (hlink : Cond.fieldLink own index (T k).1 (T k).2.1 (T k).2.2.1 ∈ Ts) (hfin : (T k).2.2.2 = true) (hin2 : meth.name = "<init>") (hdecl : (T k).1 = own) {v : Value} (hn : narrow (ty0 k) v = v) (hfit : fits (ty0 k) v = true) (hl : k < fs.length) (hdg : decode cc pc = .ok (.putfield index, 3))
    (hw : ws.set q0 (a, .inr (ci, fs.set k v)) = ws')
    (kk : ∀ (H1 : Heap) (locs1 : List Loc), kS D cl tys A s ws' H1 locs1 → W p l e R s m args below meth c H1 locs1 cells slots Q (F0 m (pc + 3) ls rest)) : W p l e R s m args below meth c H locs cells slots Q (F0 m pc ls (v :: .ref a :: rest)) := by
  subst hw
  exact va_putF C0.1 C0.2.1 C0.2.2.2.2 hin ty0 hty hnm C0.2.2.2.1 S.1 S.2.1 S.2.2.1 S.2.2.2.1 q0 he hc k hk (C0.2.2.2.2 _ hlink) (fun _ h => h) hfin hin2 hdecl (hty k hk) hn hfit hl hdg (fun H1 locs1 hP hD hS => kk H1 locs1 ⟨S.1, hP, hD, hS, S.2.2.2.2⟩)
theorem k_iald (C0 : CallFix p m c cc nL s args Ts own) (S : kS D cl tys A s ws H locs) (q0 t0 : Nat) {cA : ClassId} {n : Nat} {g : Nat → Int} (ha : ws[q0]? = some (a, .inl (cA, n, .inl (fun j => iI (g j))))) (ht : tys[t0]? = some (cA, .int)) {z : Int} (h0 : 0 ≤ z) (h1 : z < n) (hn : n < 2147483648) (hdg : decode cc pc = .ok (.iaload, 1))
    (kk : W p l e R s m args below meth c H locs cells slots Q (F0 m (pc + 1) ls (.int (iI (g z.toNat)) :: rest))) : W p l e R s m args below meth c H locs cells slots Q (F0 m pc ls (.int (iI z) :: .ref a :: rest)) := by
  refine va_iald C0.1 C0.2.1 S.1 S.2.1 q0 t0 ha ht (iI_in h0 h1 hn) hdg ?_
  rw [iI_clamp h0 (by omega)]
  exact kk
theorem k_bald (C0 : CallFix p m c cc nL s args Ts own) (S : kS D cl tys A s ws H locs) (q0 t0 : Nat) {cA : ClassId} {n : Nat} {g : Nat → Int} (ha : ws[q0]? = some (a, .inl (cA, n, .inl (fun j => bI (g j))))) (ht : tys[t0]? = some (cA, .byte)) {z : Int} (h0 : 0 ≤ z) (h1 : z < n) (hn : n < 2147483648) (hdg : decode cc pc = .ok (.baload, 1))
    (kk : W p l e R s m args below meth c H locs cells slots Q (F0 m (pc + 1) ls (.int (bI (g z.toNat)) :: rest))) : W p l e R s m args below meth c H locs cells slots Q (F0 m pc ls (.int (iI z) :: .ref a :: rest)) := by
  refine va_bald C0.1 C0.2.1 S.1 S.2.1 q0 t0 ha ht (iI_in h0 h1 hn) hdg ?_
  rw [iI_clamp h0 (by omega)]
  exact kk
theorem k_iast (C0 : CallFix p m c cc nL s args Ts own) (S : kS D cl tys A s ws H locs) (q0 t0 : Nat) {cA : ClassId} {n : Nat} {g : Nat → Int} (ha : ws[q0]? = some (a, .inl (cA, n, .inl (fun j => iI (g j))))) (ht : tys[t0]? = some (cA, .int)) {z x : Int} (h0 : 0 ≤ z) (h1 : z < n) (hn : n < 2147483648) (hdg : decode cc pc = .ok (.iastore, 1))
    (hw : ws.set q0 (a, .inl (cA, n, .inl (fun j => iI (va_up g z.toNat x j)))) = ws')
    (kk : ∀ (H1 : Heap) (locs1 : List Loc), kS D cl tys A s ws' H1 locs1 → W p l e R s m args below meth c H1 locs1 cells slots Q (F0 m (pc + 1) ls rest)) : W p l e R s m args below meth c H locs cells slots Q (F0 m pc ls (.int (iI x) :: .int (iI z) :: .ref a :: rest)) := by
  subst hw
  have he : upd (fun j => iI (g j)) z.toNat (iI x) = fun j => iI (va_up g z.toNat x j) := by
    funext j
    by_cases hj : j = z.toNat <;> simp [upd, va_up, hj]
  refine va_iast C0.1 C0.2.1 S.1 S.2.1 S.2.2.1 S.2.2.2.1 q0 t0 ha ht (iI_in h0 h1 hn) hdg (fun H1 locs1 hP hD hS => ?_)
  rw [iI_clamp h0 (by omega), he] at hP hD
  exact kk H1 locs1 ⟨S.1, hP, hD, hS, S.2.2.2.2⟩
theorem k_bast (C0 : CallFix p m c cc nL s args Ts own) (S : kS D cl tys A s ws H locs) (q0 t0 : Nat) {cA : ClassId} {n : Nat} {g : Nat → Int} (ha : ws[q0]? = some (a, .inl (cA, n, .inl (fun j => bI (g j))))) (ht : tys[t0]? = some (cA, .byte)) {z : Int} {x : Int32} {v : Int} (hx : x.toInt8.toInt32 = bI v) (h0 : 0 ≤ z) (h1 : z < n) (hn : n < 2147483648) (hdg : decode cc pc = .ok (.bastore, 1))
    (hw : ws.set q0 (a, .inl (cA, n, .inl (fun j => bI (va_up g z.toNat v j)))) = ws')
    (kk : ∀ (H1 : Heap) (locs1 : List Loc), kS D cl tys A s ws' H1 locs1 → W p l e R s m args below meth c H1 locs1 cells slots Q (F0 m (pc + 1) ls rest)) : W p l e R s m args below meth c H locs cells slots Q (F0 m pc ls (.int x :: .int (iI z) :: .ref a :: rest)) := by
  subst hw
  have he : upd (fun j => bI (g j)) z.toNat (bI v) = fun j => bI (va_up g z.toNat v j) := by
    funext j
    by_cases hj : j = z.toNat <;> simp [upd, va_up, hj]
  refine va_bast C0.1 C0.2.1 S.1 S.2.1 S.2.2.1 S.2.2.2.1 q0 t0 ha ht (iI_in h0 h1 hn) hdg (fun H1 locs1 hP hD hS => ?_)
  rw [iI_clamp h0 (by omega), vp_nar_byte, hx, he] at hP hD
  exact kk H1 locs1 ⟨S.1, hP, hD, hS, S.2.2.2.2⟩
theorem k_alen (C0 : CallFix p m c cc nL s args Ts own) (S : kS D cl tys A s ws H locs) (q0 t0 : Nat) {cA : ClassId} {x : vp_A} (ha : ws[q0]? = some (a, .inl (cA, x))) {ty : FieldType} (ht : tys[t0]? = some (cA, ty)) (hdg : decode cc pc = .ok (.arraylength, 1))
    (kk : W p l e R s m args below meth c H locs cells slots Q (F0 m (pc + 1) ls (.int (iI x.1) :: rest))) : W p l e R s m args below meth c H locs cells slots Q (F0 m pc ls (.ref a :: rest)) :=
  va_alen C0.1 C0.2.1 S.1 S.2.1 q0 t0 ha ht (by rw [iI_nI]; rfl) hdg kk
-- numbers
theorem k_topeq {x v : Int32} (h : x = v) (k : W p l e R s m args below meth c H locs cells slots Q (F0 m pc ls (.int v :: rest))) : W p l e R s m args below meth c H locs cells slots Q (F0 m pc ls (.int x :: rest)) := h ▸ k
theorem k_topeql {x v : Int64} (h : x = v) (k : W p l e R s m args below meth c H locs cells slots Q (F0 m pc ls (.long v :: rest))) : W p l e R s m args below meth c H locs cells slots Q (F0 m pc ls (.long x :: rest)) := h ▸ k
theorem k_iadd (C0 : CallFix p m c cc nL s args Ts own) {x y : Int} (hdg : decode cc pc = .ok (.iadd, 1)) (k : W p l e R s m args below meth c H locs cells slots Q (F0 m (pc + 1) ls (.int (iI (x + y)) :: rest))) : W p l e R s m args below meth c H locs cells slots Q (F0 m pc ls (.int (iI y) :: .int (iI x) :: rest)) :=
  lv_iadd C0.1 C0.2.1 hdg (by rw [iI_add]; exact k)
theorem k_isub (C0 : CallFix p m c cc nL s args Ts own) {x y : Int} (hdg : decode cc pc = .ok (.isub, 1)) (k : W p l e R s m args below meth c H locs cells slots Q (F0 m (pc + 1) ls (.int (iI (x - y)) :: rest))) : W p l e R s m args below meth c H locs cells slots Q (F0 m pc ls (.int (iI y) :: .int (iI x) :: rest)) :=
  lv_isub C0.1 C0.2.1 hdg (by rw [iI_sub]; exact k)
theorem k_imul (C0 : CallFix p m c cc nL s args Ts own) {x y : Int} (hdg : decode cc pc = .ok (.imul, 1)) (k : W p l e R s m args below meth c H locs cells slots Q (F0 m (pc + 1) ls (.int (iI (x * y)) :: rest))) : W p l e R s m args below meth c H locs cells slots Q (F0 m pc ls (.int (iI y) :: .int (iI x) :: rest)) :=
  lv_imul C0.1 C0.2.1 hdg (by rw [iI_mul]; exact k)
theorem k_ineg (C0 : CallFix p m c cc nL s args Ts own) {x : Int} (hdg : decode cc pc = .ok (.ineg, 1)) (k : W p l e R s m args below meth c H locs cells slots Q (F0 m (pc + 1) ls (.int (iI (-x)) :: rest))) : W p l e R s m args below meth c H locs cells slots Q (F0 m pc ls (.int (iI x) :: rest)) :=
  lv_ineg C0.1 C0.2.1 hdg (by rw [iI_neg]; exact k)
end KROWS
theorem iI_div {x y : Int} (hx : ir x) (hy : 0 < y) (hy2 : y < 2147483648) : iI x / iI y = iI (x.tdiv y) := by
  have hy' : ir y := ⟨by omega, by omega⟩
  have hne : iI y ≠ -1 := by
    intro h
    have h2 : iI y = iI (-1) := h
    have := (iI_inj hy' ⟨by decide, by decide⟩).mp h2
    omega
  apply Int32.toInt_inj.mp
  rw [Int32.toInt_div_of_ne_right _ _ hne, iI_toInt hx, iI_toInt hy']
  refine (iI_toInt ?_).symm
  obtain ⟨h1, h2⟩ := hx
  have h3 := Int.natAbs_tdiv_le_natAbs x y
  by_cases h0 : 0 ≤ x
  · have h4 := Int.tdiv_nonneg h0 (show (0:Int) ≤ y by omega)
    have h5 := Int.tdiv_le_self y h0
    constructor <;> omega
  · have h6 : (-x).tdiv y = -(x.tdiv y) := Int.neg_tdiv x y
    have h4 := Int.tdiv_nonneg (show (0:Int) ≤ -x by omega) (show (0:Int) ≤ y by omega)
    constructor <;> omega
theorem ir_0 : ir 0 := ⟨by decide, by decide⟩
section KBR
variable {p : Program} {l : Launch} {e : Env} {R : Room} {s : State} {m : MethodId} {args : Array Value} {below : List Frame} {meth : Method} {c : Code} {H : Heap} {locs : List Loc} {cells slots : Nat} {Q : State → Prop}
variable {cc : ByteArray} {nL pc : Nat} {ls : Array Slot} {rest : List Value} {Ts : List Cond} {own : String}
theorem k_icmp_eq (C0 : CallFix p m c cc nL s args Ts own) {x y : Int} {off : Int} {tgt : Nat} (hx : ir x) (hy : ir y) (hdg : decode cc pc = .ok (.if_icmp .eq off, 3)) (ht : (pc : Int) + off = (tgt : Int)) (kt : x = y → W p l e R s m args below meth c H locs cells slots Q (F0 m tgt ls rest)) (kf : ¬ x = y → W p l e R s m args below meth c H locs cells slots Q (F0 m (pc + 3) ls rest)) : W p l e R s m args below meth c H locs cells slots Q (F0 m pc ls (.int (iI y) :: .int (iI x) :: rest)) :=
  lv_icmp_eq C0.1 C0.2.1 hdg ht (fun h => kt ((iI_inj hx hy).mp h)) (fun h => kf (fun z => h ((iI_inj hx hy).mpr z)))
theorem k_if_eq (C0 : CallFix p m c cc nL s args Ts own) {x : Int} {off : Int} {tgt : Nat} (hx : ir x) (hdg : decode cc pc = .ok (.ifCond .eq off, 3)) (ht : (pc : Int) + off = (tgt : Int)) (kt : x = 0 → W p l e R s m args below meth c H locs cells slots Q (F0 m tgt ls rest)) (kf : ¬ x = 0 → W p l e R s m args below meth c H locs cells slots Q (F0 m (pc + 3) ls rest)) : W p l e R s m args below meth c H locs cells slots Q (F0 m pc ls (.int (iI x) :: rest)) :=
  lv_if_eq C0.1 C0.2.1 hdg ht (fun h => kt ((iI_inj hx ir_0).mp h)) (fun h => kf (fun z => h ((iI_inj hx ir_0).mpr z)))
theorem k_icmp_ne (C0 : CallFix p m c cc nL s args Ts own) {x y : Int} {off : Int} {tgt : Nat} (hx : ir x) (hy : ir y) (hdg : decode cc pc = .ok (.if_icmp .ne off, 3)) (ht : (pc : Int) + off = (tgt : Int)) (kt : ¬ x = y → W p l e R s m args below meth c H locs cells slots Q (F0 m tgt ls rest)) (kf : x = y → W p l e R s m args below meth c H locs cells slots Q (F0 m (pc + 3) ls rest)) : W p l e R s m args below meth c H locs cells slots Q (F0 m pc ls (.int (iI y) :: .int (iI x) :: rest)) :=
  lv_icmp_ne C0.1 C0.2.1 hdg ht (fun h => kt (fun z => h ((iI_inj hx hy).mpr z))) (fun h => kf ((iI_inj hx hy).mp h))
theorem k_if_ne (C0 : CallFix p m c cc nL s args Ts own) {x : Int} {off : Int} {tgt : Nat} (hx : ir x) (hdg : decode cc pc = .ok (.ifCond .ne off, 3)) (ht : (pc : Int) + off = (tgt : Int)) (kt : ¬ x = 0 → W p l e R s m args below meth c H locs cells slots Q (F0 m tgt ls rest)) (kf : x = 0 → W p l e R s m args below meth c H locs cells slots Q (F0 m (pc + 3) ls rest)) : W p l e R s m args below meth c H locs cells slots Q (F0 m pc ls (.int (iI x) :: rest)) :=
  lv_if_ne C0.1 C0.2.1 hdg ht (fun h => kt (fun z => h ((iI_inj hx ir_0).mpr z))) (fun h => kf ((iI_inj hx ir_0).mp h))
theorem k_icmp_lt (C0 : CallFix p m c cc nL s args Ts own) {x y : Int} {off : Int} {tgt : Nat} (hx : ir x) (hy : ir y) (hdg : decode cc pc = .ok (.if_icmp .lt off, 3)) (ht : (pc : Int) + off = (tgt : Int)) (kt : x < y → W p l e R s m args below meth c H locs cells slots Q (F0 m tgt ls rest)) (kf : ¬ x < y → W p l e R s m args below meth c H locs cells slots Q (F0 m (pc + 3) ls rest)) : W p l e R s m args below meth c H locs cells slots Q (F0 m pc ls (.int (iI y) :: .int (iI x) :: rest)) :=
  lv_icmp_lt C0.1 C0.2.1 hdg ht (fun h => kt ((iI_lt hx hy).mp h)) (fun h => kf (fun z => h ((iI_lt hx hy).mpr z)))
theorem k_if_lt (C0 : CallFix p m c cc nL s args Ts own) {x : Int} {off : Int} {tgt : Nat} (hx : ir x) (hdg : decode cc pc = .ok (.ifCond .lt off, 3)) (ht : (pc : Int) + off = (tgt : Int)) (kt : x < 0 → W p l e R s m args below meth c H locs cells slots Q (F0 m tgt ls rest)) (kf : ¬ x < 0 → W p l e R s m args below meth c H locs cells slots Q (F0 m (pc + 3) ls rest)) : W p l e R s m args below meth c H locs cells slots Q (F0 m pc ls (.int (iI x) :: rest)) :=
  lv_if_lt C0.1 C0.2.1 hdg ht (fun h => kt ((iI_lt hx ir_0).mp h)) (fun h => kf (fun z => h ((iI_lt hx ir_0).mpr z)))
theorem k_icmp_ge (C0 : CallFix p m c cc nL s args Ts own) {x y : Int} {off : Int} {tgt : Nat} (hx : ir x) (hy : ir y) (hdg : decode cc pc = .ok (.if_icmp .ge off, 3)) (ht : (pc : Int) + off = (tgt : Int)) (kt : y ≤ x → W p l e R s m args below meth c H locs cells slots Q (F0 m tgt ls rest)) (kf : ¬ y ≤ x → W p l e R s m args below meth c H locs cells slots Q (F0 m (pc + 3) ls rest)) : W p l e R s m args below meth c H locs cells slots Q (F0 m pc ls (.int (iI y) :: .int (iI x) :: rest)) :=
  lv_icmp_ge C0.1 C0.2.1 hdg ht (fun h => kt ((iI_le hy hx).mp h)) (fun h => kf (fun z => h ((iI_le hy hx).mpr z)))
theorem k_if_ge (C0 : CallFix p m c cc nL s args Ts own) {x : Int} {off : Int} {tgt : Nat} (hx : ir x) (hdg : decode cc pc = .ok (.ifCond .ge off, 3)) (ht : (pc : Int) + off = (tgt : Int)) (kt : 0 ≤ x → W p l e R s m args below meth c H locs cells slots Q (F0 m tgt ls rest)) (kf : ¬ 0 ≤ x → W p l e R s m args below meth c H locs cells slots Q (F0 m (pc + 3) ls rest)) : W p l e R s m args below meth c H locs cells slots Q (F0 m pc ls (.int (iI x) :: rest)) :=
  lv_if_ge C0.1 C0.2.1 hdg ht (fun h => kt ((iI_le ir_0 hx).mp h)) (fun h => kf (fun z => h ((iI_le ir_0 hx).mpr z)))
theorem k_icmp_gt (C0 : CallFix p m c cc nL s args Ts own) {x y : Int} {off : Int} {tgt : Nat} (hx : ir x) (hy : ir y) (hdg : decode cc pc = .ok (.if_icmp .gt off, 3)) (ht : (pc : Int) + off = (tgt : Int)) (kt : y < x → W p l e R s m args below meth c H locs cells slots Q (F0 m tgt ls rest)) (kf : ¬ y < x → W p l e R s m args below meth c H locs cells slots Q (F0 m (pc + 3) ls rest)) : W p l e R s m args below meth c H locs cells slots Q (F0 m pc ls (.int (iI y) :: .int (iI x) :: rest)) :=
  lv_icmp_gt C0.1 C0.2.1 hdg ht (fun h => kt ((iI_lt hy hx).mp h)) (fun h => kf (fun z => h ((iI_lt hy hx).mpr z)))
theorem k_if_gt (C0 : CallFix p m c cc nL s args Ts own) {x : Int} {off : Int} {tgt : Nat} (hx : ir x) (hdg : decode cc pc = .ok (.ifCond .gt off, 3)) (ht : (pc : Int) + off = (tgt : Int)) (kt : 0 < x → W p l e R s m args below meth c H locs cells slots Q (F0 m tgt ls rest)) (kf : ¬ 0 < x → W p l e R s m args below meth c H locs cells slots Q (F0 m (pc + 3) ls rest)) : W p l e R s m args below meth c H locs cells slots Q (F0 m pc ls (.int (iI x) :: rest)) :=
  lv_if_gt C0.1 C0.2.1 hdg ht (fun h => kt ((iI_lt ir_0 hx).mp h)) (fun h => kf (fun z => h ((iI_lt ir_0 hx).mpr z)))
theorem k_icmp_le (C0 : CallFix p m c cc nL s args Ts own) {x y : Int} {off : Int} {tgt : Nat} (hx : ir x) (hy : ir y) (hdg : decode cc pc = .ok (.if_icmp .le off, 3)) (ht : (pc : Int) + off = (tgt : Int)) (kt : x ≤ y → W p l e R s m args below meth c H locs cells slots Q (F0 m tgt ls rest)) (kf : ¬ x ≤ y → W p l e R s m args below meth c H locs cells slots Q (F0 m (pc + 3) ls rest)) : W p l e R s m args below meth c H locs cells slots Q (F0 m pc ls (.int (iI y) :: .int (iI x) :: rest)) :=
  lv_icmp_le C0.1 C0.2.1 hdg ht (fun h => kt ((iI_le hx hy).mp h)) (fun h => kf (fun z => h ((iI_le hx hy).mpr z)))
theorem k_if_le (C0 : CallFix p m c cc nL s args Ts own) {x : Int} {off : Int} {tgt : Nat} (hx : ir x) (hdg : decode cc pc = .ok (.ifCond .le off, 3)) (ht : (pc : Int) + off = (tgt : Int)) (kt : x ≤ 0 → W p l e R s m args below meth c H locs cells slots Q (F0 m tgt ls rest)) (kf : ¬ x ≤ 0 → W p l e R s m args below meth c H locs cells slots Q (F0 m (pc + 3) ls rest)) : W p l e R s m args below meth c H locs cells slots Q (F0 m pc ls (.int (iI x) :: rest)) :=
  lv_if_le C0.1 C0.2.1 hdg ht (fun h => kt ((iI_le hx ir_0).mp h)) (fun h => kf (fun z => h ((iI_le hx ir_0).mpr z)))
theorem k_idiv (C0 : CallFix p m c cc nL s args Ts own) {x y : Int} (hx : ir x) (hy : 0 < y) (hy2 : y < 2147483648) (hdg : decode cc pc = .ok (.idiv, 1)) (k : W p l e R s m args below meth c H locs cells slots Q (F0 m (pc + 1) ls (.int (iI (x.tdiv y)) :: rest))) : W p l e R s m args below meth c H locs cells slots Q (F0 m pc ls (.int (iI y) :: .int (iI x) :: rest)) := by
  have hy' : ir y := ⟨by omega, by omega⟩
  refine lv_idiv C0.1 C0.2.1 hdg (fun h => ?_) ?_
  · have := (iI_inj hy' ir_0).mp h
    omega
  · rw [iI_div hx hy hy2]; exact k
theorem k_irem (C0 : CallFix p m c cc nL s args Ts own) {x y : Int} (hx : ir x) (hy : 0 < y) (hy2 : y < 2147483648) (hdg : decode cc pc = .ok (.irem, 1)) (k : W p l e R s m args below meth c H locs cells slots Q (F0 m (pc + 1) ls (.int (iI (x - x.tdiv y * y)) :: rest))) : W p l e R s m args below meth c H locs cells slots Q (F0 m pc ls (.int (iI y) :: .int (iI x) :: rest)) := by
  have hy' : ir y := ⟨by omega, by omega⟩
  refine lv_irem C0.1 C0.2.1 hdg (fun h => ?_) ?_
  · have := (iI_inj hy' ir_0).mp h
    omega
  · rw [iI_div hx hy hy2, iI_mul, iI_sub]; exact k
end KBR
section KCALL
variable {p : Program} {l : Launch} {e : Env} {R : Room} {s : State} {m : MethodId} {args : Array Value} {below : List Frame} {meth : Method} {c : Code} {H : Heap} {locs : List Loc} {cells slots : Nat} {Q : State → Prop}
variable {cc bytes : ByteArray} {nL pc maxL n index : Nat} {ls : Array Slot} {rest : List Value} {D : va_G} {cl : List vw_C} {A : Nat → Prop} {b : Nat} {tys : List (ClassId × FieldType)} {ws wc wr w0 : va_W} {Ts wsM wsM' : List Cond} {own C : String} {y : MethodName} {rm : Room} {ret : Option FieldType} {sz : Nat}
theorem k_calli (C0 : CallFix p m c cc nL s args Ts own) (S : kS D cl tys A s ws H locs) {post : Int32 → va_W → Prop} {As : List Value} (hM : kCi l D cl tys y wsM rm (.ref b :: As) wc post) (hG : GoodIn Ts (wsV own index C y wsM)) (hwM : wsM = Cond.code y bytes maxL ret :: wsM') (hrm : rm.cells = 0 ∧ rm.slots = 0) (hd : y.cls = C ∧ y.cls ≠ "java/lang/invoke/MethodHandle" ∧ y.cls ≠ "java/lang/invoke/VarHandle" ∧ (parseMethodDescriptor y.desc).map (fun d => d.parameters.length) = some n) (hRm : rm.frames + 1 ≤ R.frames ∧ 8 + (maxL + 11) + rm.locals ≤ R.locals)
    (isC isR : List Nat) (hnC : va_nd isC = true) (hC : isC.map (fun i => ws[i]?) = wc.map some) (hR : isR.map (fun i => ws[i]?) = wr.map some) (hn : va_nd isR = true) (hdis : ∀ i ∈ isR, i ∉ isC) {ci q0 N : Nat} {T : u_T} {fs : List Value} (hc : cl[ci]? = some (C, T, N)) (he : wc[q0]? = some (b, .inr (ci, fs))) (hlen : As.length = n) (hls : ls.size = nL) {st0 : List Value} (hst : st0 = As.reverse ++ .ref b :: rest) (hroom : (rest.map fun v => v.category).sum ≤ 8) (hdg : decode cc pc = .ok (.invokevirtual index, 3)) (hf : cells ≤ R.cells ∧ slots ≤ R.slots)
    (kk : ∀ (r : Int32) (u : va_W) (H1 : Heap) (locs1 : List Loc), post r u → kS D cl tys A s (wr ++ u) H1 locs1 → W p l e R s m args below meth c H1 locs1 cells slots Q (F0 m (pc + 3) ls (.int r :: rest))) : W p l e R s m args below meth c H locs cells slots Q (F0 m pc ls st0) := by
  have SC := S.sub isC hnC hC
  obtain ⟨hK, hP, hD, hS, hA⟩ := S
  have hFc := va_free (wc := wc) hD hS hA isC hC
  refine va_calli (va_runV (As := As) (rest := rest) C0 (hM H.size) (cwV n C0.2.2.2.2 hG hwM hrm.1 hrm.2 hd hRm) ⟨kPre_blind, va_recv hK SC.2.1 hc he, fun U hU hW => ⟨rfl, by rw [hU], by rw [hU]; exact SC.2.1, va_K.moved hW.alike hK, SC.2.2.1.weaken (fun _ _ _ _ => trivial)⟩⟩ rfl hlen hls hst (lv_room hroom) hdg hf) hS (fun q _ h => hFc q h) hFc (fun r u t H1 locs1 ht hvm hw hB hz1 hk1 hS1 => ?_)
  obtain ⟨hP1, hK1, hD1⟩ := hB
  rw [ht] at hP1
  obtain ⟨hP2, hD2⟩ := va_join (wr := wr) (w1 := u) hP hD isC isR hC hR hn hdis hk1 hFc hP1 hD1
  exact kk r u H1 locs1 hw ⟨hK, hP2, hD2, hS1, hA⟩
theorem k_calll (C0 : CallFix p m c cc nL s args Ts own) (S : kS D cl tys A s ws H locs) {post : Int64 → va_W → Prop} {As : List Value} (hM : kCl l D cl tys y wsM rm (.ref b :: As) wc post) (hG : GoodIn Ts (wsV own index C y wsM)) (hwM : wsM = Cond.code y bytes maxL ret :: wsM') (hrm : rm.cells = 0 ∧ rm.slots = 0) (hd : y.cls = C ∧ y.cls ≠ "java/lang/invoke/MethodHandle" ∧ y.cls ≠ "java/lang/invoke/VarHandle" ∧ (parseMethodDescriptor y.desc).map (fun d => d.parameters.length) = some n) (hRm : rm.frames + 1 ≤ R.frames ∧ 8 + (maxL + 11) + rm.locals ≤ R.locals)
    (isC isR : List Nat) (hnC : va_nd isC = true) (hC : isC.map (fun i => ws[i]?) = wc.map some) (hR : isR.map (fun i => ws[i]?) = wr.map some) (hn : va_nd isR = true) (hdis : ∀ i ∈ isR, i ∉ isC) {ci q0 N : Nat} {T : u_T} {fs : List Value} (hc : cl[ci]? = some (C, T, N)) (he : wc[q0]? = some (b, .inr (ci, fs))) (hlen : As.length = n) (hls : ls.size = nL) {st0 : List Value} (hst : st0 = As.reverse ++ .ref b :: rest) (hroom : (rest.map fun v => v.category).sum ≤ 8) (hdg : decode cc pc = .ok (.invokevirtual index, 3)) (hf : cells ≤ R.cells ∧ slots ≤ R.slots)
    (kk : ∀ (r : Int64) (u : va_W) (H1 : Heap) (locs1 : List Loc), post r u → kS D cl tys A s (wr ++ u) H1 locs1 → W p l e R s m args below meth c H1 locs1 cells slots Q (F0 m (pc + 3) ls (.long r :: rest))) : W p l e R s m args below meth c H locs cells slots Q (F0 m pc ls st0) := by
  have SC := S.sub isC hnC hC
  obtain ⟨hK, hP, hD, hS, hA⟩ := S
  have hFc := va_free (wc := wc) hD hS hA isC hC
  refine va_calll (va_runV (As := As) (rest := rest) C0 (hM H.size) (cwV n C0.2.2.2.2 hG hwM hrm.1 hrm.2 hd hRm) ⟨kPre_blind, va_recv hK SC.2.1 hc he, fun U hU hW => ⟨rfl, by rw [hU], by rw [hU]; exact SC.2.1, va_K.moved hW.alike hK, SC.2.2.1.weaken (fun _ _ _ _ => trivial)⟩⟩ rfl hlen hls hst (lv_room hroom) hdg hf) hS (fun q _ h => hFc q h) hFc (fun r u t H1 locs1 ht hvm hw hB hz1 hk1 hS1 => ?_)
  obtain ⟨hP1, hK1, hD1⟩ := hB
  rw [ht] at hP1
  obtain ⟨hP2, hD2⟩ := va_join (wr := wr) (w1 := u) hP hD isC isR hC hR hn hdis hk1 hFc hP1 hD1
  exact kk r u H1 locs1 hw ⟨hK, hP2, hD2, hS1, hA⟩
theorem k_callv (C0 : CallFix p m c cc nL s args Ts own) (S : kS D cl tys A s ws H locs) {post : va_W → Prop} {As : List Value} (hM : kCv l D cl tys y wsM rm (.ref b :: As) wc post) (hG : GoodIn Ts (wsV own index C y wsM)) (hwM : wsM = Cond.code y bytes maxL ret :: wsM') (hrm : rm.cells = 0 ∧ rm.slots = 0) (hd : y.cls = C ∧ y.cls ≠ "java/lang/invoke/MethodHandle" ∧ y.cls ≠ "java/lang/invoke/VarHandle" ∧ (parseMethodDescriptor y.desc).map (fun d => d.parameters.length) = some n) (hRm : rm.frames + 1 ≤ R.frames ∧ 8 + (maxL + 11) + rm.locals ≤ R.locals)
    (isC isR : List Nat) (hnC : va_nd isC = true) (hC : isC.map (fun i => ws[i]?) = wc.map some) (hR : isR.map (fun i => ws[i]?) = wr.map some) (hn : va_nd isR = true) (hdis : ∀ i ∈ isR, i ∉ isC) {ci q0 N : Nat} {T : u_T} {fs : List Value} (hc : cl[ci]? = some (C, T, N)) (he : wc[q0]? = some (b, .inr (ci, fs))) (hlen : As.length = n) (hls : ls.size = nL) {st0 : List Value} (hst : st0 = As.reverse ++ .ref b :: rest) (hroom : (rest.map fun v => v.category).sum ≤ 8) (hdg : decode cc pc = .ok (.invokevirtual index, 3)) (hf : cells ≤ R.cells ∧ slots ≤ R.slots)
    (kk : ∀ (u : va_W) (H1 : Heap) (locs1 : List Loc), post u → kS D cl tys A s (wr ++ u) H1 locs1 → W p l e R s m args below meth c H1 locs1 cells slots Q (F0 m (pc + 3) ls rest)) : W p l e R s m args below meth c H locs cells slots Q (F0 m pc ls st0) := by
  have SC := S.sub isC hnC hC
  obtain ⟨hK, hP, hD, hS, hA⟩ := S
  have hFc := va_free (wc := wc) hD hS hA isC hC
  refine va_callv (va_runV (As := As) (rest := rest) C0 (hM H.size) (cwV n C0.2.2.2.2 hG hwM hrm.1 hrm.2 hd hRm) ⟨kPre_blind, va_recv hK SC.2.1 hc he, fun U hU hW => ⟨rfl, by rw [hU], by rw [hU]; exact SC.2.1, va_K.moved hW.alike hK, SC.2.2.1.weaken (fun _ _ _ _ => trivial)⟩⟩ rfl hlen hls hst (lv_room hroom) hdg hf) hS (fun q _ h => hFc q h) hFc (fun u t H1 locs1 ht hvm hw hB hz1 hk1 hS1 => ?_)
  obtain ⟨hP1, hK1, hD1⟩ := hB
  rw [ht] at hP1
  obtain ⟨hP2, hD2⟩ := va_join (wr := wr) (w1 := u) hP hD isC isR hC hR hn hdis hk1 hFc hP1 hD1
  exact kk u H1 locs1 hw ⟨hK, hP2, hD2, hS1, hA⟩
theorem k_iret (C0 : CallFix p m c cc nL s args Ts own) (S : kS D cl tys A s ws H locs) (hAe : va_A w0 s.heap.size = A) (hsz : sz = s.heap.size) (hr : meth.sig.returnType = some .int) (hlk : meth.locks = false) {post : Int32 → va_W → Prop} {v : Int32} (hdg : decode cc pc = .ok (.ireturn, 1)) (hp : post v ws) :
    W p l e R s m args below meth c H locs 0 0 (MQ below (va_Qi post (kPost D cl tys (va_A w0 sz)) (va_A w0 sz)) args s 0 0 (va_A w0 sz)) (F0 m pc ls [.int v]) := by
  subst hsz; subst hAe
  exact W.iret C0.1 C0.2.1 hr (fun t ht hW => ⟨⟨v, ws, rfl, hp, by rw [ht]; exact S.2.1, va_K.moved hW.alike S.1, S.2.2.1⟩, S.2.2.2.1.F ht⟩) S.2.2.2.1.2.2 hdg hlk
theorem k_zret (C0 : CallFix p m c cc nL s args Ts own) (S : kS D cl tys A s ws H locs) (hAe : va_A w0 s.heap.size = A) (hsz : sz = s.heap.size) (hr : meth.sig.returnType = some .boolean) (hlk : meth.locks = false) {post : Int32 → va_W → Prop} {v : Int32} (hn : narrow .boolean (.int v) = .int v) (hdg : decode cc pc = .ok (.ireturn, 1)) (hp : post v ws) :
    W p l e R s m args below meth c H locs 0 0 (MQ below (va_Qi post (kPost D cl tys (va_A w0 sz)) (va_A w0 sz)) args s 0 0 (va_A w0 sz)) (F0 m pc ls [.int v]) := by
  subst hsz; subst hAe
  exact W.zret C0.1 C0.2.1 hr hn (fun t ht hW => ⟨⟨v, ws, rfl, hp, by rw [ht]; exact S.2.1, va_K.moved hW.alike S.1, S.2.2.1⟩, S.2.2.2.1.F ht⟩) S.2.2.2.1.2.2 hdg hlk
theorem k_lret (C0 : CallFix p m c cc nL s args Ts own) (S : kS D cl tys A s ws H locs) (hAe : va_A w0 s.heap.size = A) (hsz : sz = s.heap.size) (hr : meth.sig.returnType = some .long) (hlk : meth.locks = false) {post : Int64 → va_W → Prop} {v : Int64} (hdg : decode cc pc = .ok (.lreturn, 1)) (hp : post v ws) :
    W p l e R s m args below meth c H locs 0 0 (MQ below (va_Ql post (kPost D cl tys (va_A w0 sz)) (va_A w0 sz)) args s 0 0 (va_A w0 sz)) (F0 m pc ls [.long v]) := by
  subst hsz; subst hAe
  exact W.lret C0.1 C0.2.1 hr (fun t ht hW => ⟨⟨v, ws, rfl, hp, by rw [ht]; exact S.2.1, va_K.moved hW.alike S.1, S.2.2.1⟩, S.2.2.2.1.F ht⟩) S.2.2.2.1.2.2 hdg hlk
theorem k_vret (C0 : CallFix p m c cc nL s args Ts own) (S : kS D cl tys A s ws H locs) (hAe : va_A w0 s.heap.size = A) (hsz : sz = s.heap.size) (hr : meth.sig.returnType = none) (hlk : meth.locks = false) {post : va_W → Prop} (hdg : decode cc pc = .ok (.return_, 1)) (hp : post ws) :
    W p l e R s m args below meth c H locs 0 0 (MQ below (va_Qv post (kPost D cl tys (va_A w0 sz)) (va_A w0 sz)) args s 0 0 (va_A w0 sz)) (F0 m pc ls []) := by
  subst hsz; subst hAe
  exact W.vret C0.1 C0.2.1 hr (fun t ht hW => ⟨⟨ws, rfl, hp, by rw [ht]; exact S.2.1, va_K.moved hW.alike S.1, S.2.2.1⟩, S.2.2.2.1.F ht⟩) S.2.2.2.1.2.2 hdg hlk
end KCALL
end
section
/-! the mathematical value that both sides are tied to: functions of the disk d (2048 bytes as ints) -/
abbrev kTys (cA : Nat → ClassId) : List (ClassId × FieldType) := [(cA 0, .int), (cA 1, .byte), (cA 2, .object "ChainLoader$Chain")]
def rd (d : Nat → Int) (z : Int) : Int := d z.toNat
def By (d : Nat → Int) : Prop := ∀ j, 0 ≤ d j ∧ d j < 256
theorem By.rd {d : Nat → Int} (h : By d) (z : Int) : 0 ≤ rd d z ∧ rd d z < 256 := h z.toNat
/-- a checked read -/
def bAt (n : Nat) (d : Nat → Int) (z : Int) : Int := if 0 ≤ z ∧ z < n then rd d z else -1
def wAt (n : Nat) (d : Nat → Int) (z : Int) : Int := if z < 0 ∨ (n : Int) - 1 ≤ z then 0 else rd d z + 256 * rd d (z + 1)
def wrd (d : Nat → Int) (z : Int) : Int := rd d z + 256 * rd d (z + 1)
theorem By.bAt {d : Nat → Int} (h : By d) (n : Nat) (z : Int) : -1 ≤ bAt n d z ∧ bAt n d z < 256 := by
  have := h.rd z
  unfold _root_.bAt
  split <;> omega
theorem bAt_in {n : Nat} {d : Nat → Int} {z : Int} (h0 : 0 ≤ z) (h1 : z < n) : bAt n d z = rd d z := by
  unfold bAt; rw [if_pos ⟨h0, h1⟩]
theorem wAt_in {n : Nat} {d : Nat → Int} {z : Int} (h0 : 0 ≤ z) (h1 : z + 1 < n) : wAt n d z = wrd d z := by
  unfold wAt wrd; rw [if_neg (by omega)]
theorem By.wrd {d : Nat → Int} (h : By d) (z : Int) : 0 ≤ wrd d z ∧ wrd d z < 65536 := by
  have h1 := h.rd z
  have h2 := h.rd (z + 1)
  unfold _root_.wrd; omega
theorem By.wAt {d : Nat → Int} (h : By d) (n : Nat) (z : Int) : 0 ≤ wAt n d z ∧ wAt n d z < 65536 := by
  have h1 := h.rd z
  have h2 := h.rd (z + 1)
  unfold _root_.wAt; split <;> omega
-- the partition
def us (d : Nat → Int) (r : Int) : Prop := rd d (6 + 8 * r + 1) = 12 ∧ 1 ≤ rd d (6 + 8 * r + 2) ∧ 1 ≤ rd d (6 + 8 * r + 3) ∧ rd d (6 + 8 * r + 2) + rd d (6 + 8 * r + 3) ≤ 64
def ac (d : Nat → Int) (r : Int) : Prop := rd d (6 + 8 * r) = 128
noncomputable def chs (d : Nat → Int) : Int := by
  classical
  exact if us d 0 ∧ ac d 0 then 0 else if us d 1 ∧ ac d 1 then 1 else if us d 2 ∧ ac d 2 then 2 else if us d 0 then 0 else if us d 1 then 1 else if us d 2 then 2 else -1
noncomputable def gP (d : Nat → Int) : Int := rd d (6 + 8 * chs d + 2) * 32
noncomputable def gMany (d : Nat → Int) : Int := rd d (6 + 8 * chs d + 3)
noncomputable def gCS (d : Nat → Int) : Int := rd d (gP d + 1)
noncomputable def gBef (d : Nat → Int) : Int := rd d (gP d + 2)
noncomputable def gT (d : Nat → Int) : Int := rd d (gP d + 3)
noncomputable def gTS (d : Nat → Int) : Int := rd d (gP d + 4)
noncomputable def gRoot (d : Nat → Int) : Int := rd d (gP d + 5)
noncomputable def gLeft (d : Nat → Int) : Int := gMany d - (gBef d + gT d * gTS d)
noncomputable def gN (d : Nat → Int) : Int := (gLeft d).tdiv (gCS d)
noncomputable def gTA (d : Nat → Int) : Int := gP d + gBef d * 32
noncomputable def gTB (d : Nat → Int) : Int := gTS d * 32
noncomputable def gCA (d : Nat → Int) : Int := gP d + (gBef d + gT d * gTS d) * 32
noncomputable def gSz (d : Nat → Int) : Int := gCS d * 32
def gSig (d : Nat → Int) : Prop := rd d 30 = 85 ∧ rd d 31 = 170
def gOk1 (d : Nat → Int) : Prop := rd d (gP d) = 235 ∧ (rd d (gP d + 30) = 85 ∧ rd d (gP d + 31) = 170) ∧ (gCS d = 1 ∨ gCS d = 2 ∨ gCS d = 4) ∧ 1 ≤ gBef d ∧ 1 ≤ gT d ∧ gT d ≤ 2 ∧ 1 ≤ gTS d
def gOk2 (d : Nat → Int) : Prop := 1 ≤ gN d ∧ 2 * (gN d + 2) ≤ gTB d ∧ 2 ≤ gRoot d ∧ gRoot d ≤ gN d + 1
noncomputable def vol (d : Nat → Int) : Int := by
  classical
  exact if gSig d then (if chs d < 0 then -3 else if gOk1 d ∧ gOk2 d then gN d else -4) else -2
def Good (d : Nat → Int) : Prop := gSig d ∧ 0 ≤ chs d ∧ gOk1 d ∧ gOk2 d
theorem chs_cases (d : Nat → Int) : chs d = -1 ∨ (0 ≤ chs d ∧ chs d ≤ 2 ∧ us d (chs d)) := by
  classical
  unfold chs
  split
  · rename_i h; exact Or.inr ⟨by decide, by decide, h.1⟩
  split
  · rename_i h; exact Or.inr ⟨by decide, by decide, h.1⟩
  split
  · rename_i h; exact Or.inr ⟨by decide, by decide, h.1⟩
  split
  · rename_i h; exact Or.inr ⟨by decide, by decide, h⟩
  split
  · rename_i h; exact Or.inr ⟨by decide, by decide, h⟩
  split
  · rename_i h; exact Or.inr ⟨by decide, by decide, h⟩
  exact Or.inl rfl
theorem vol_of_good {d : Nat → Int} (h : Good d) : vol d = gN d := by
  classical
  obtain ⟨h1, h2, h3, h4⟩ := h
  unfold vol
  rw [if_pos h1, if_neg (by omega), if_pos ⟨h3, h4⟩]
theorem good_of_vol {d : Nat → Int} (h : 0 ≤ vol d) : Good d := by
  classical
  unfold vol at h
  split at h
  · rename_i h1
    split at h
    · exact absurd h (by decide)
    · rename_i h2
      split at h
      · rename_i h3
        exact ⟨h1, by omega, h3.1, h3.2⟩
      · exact absurd h (by decide)
  · exact absurd h (by decide)
/-- the bounds of a good volume -/
def gB (d : Nat → Int) : Prop := (0 ≤ chs d ∧ chs d ≤ 2) ∧ (gSz d = 32 ∨ gSz d = 64 ∨ gSz d = 128) ∧ (gT d = 1 ∨ gT d = 2) ∧ (1 ≤ gN d ∧ gN d ≤ 62) ∧ 2 * (gN d + 2) ≤ gTB d ∧ (0 ≤ gTA d ∧ gTA d + gTB d * gT d = gCA d) ∧ gCA d + gN d * gSz d ≤ 2048 ∧ (2 ≤ gRoot d ∧ gRoot d ≤ gN d + 1) ∧ gTB d ≤ 2048
theorem Good.bounds {d : Nat → Int} (hd : By d) (h : Good d) : gB d := by
  obtain ⟨h1, h2, ⟨k1, k2, k3, k4, k5, k6, k7⟩, ⟨m1, m2, m3, m4⟩⟩ := h
  rcases chs_cases d with hc | ⟨-, hc2, hu⟩
  · omega
  obtain ⟨u1, u2, u3, u4⟩ := hu
  have e1 : gP d = rd d (6 + 8 * chs d + 2) * 32 := rfl
  have e2 : gMany d = rd d (6 + 8 * chs d + 3) := rfl
  have e3 : gLeft d = gMany d - (gBef d + gT d * gTS d) := rfl
  have e4 : gN d = (gLeft d).tdiv (gCS d) := rfl
  have e5 : gTA d = gP d + gBef d * 32 := rfl
  have e6 : gTB d = gTS d * 32 := rfl
  have e7 : gCA d = gP d + (gBef d + gT d * gTS d) * 32 := rfl
  have e8 : gSz d = gCS d * 32 := rfl
  have b4 := hd.rd (gP d + 4)
  have b4' : gTS d = rd d (gP d + 4) := rfl
  have hL : 0 ≤ gLeft d := by
    rcases Int.lt_or_le (gLeft d) 0 with hl | hl
    · have : (-gLeft d).tdiv (gCS d) = -((gLeft d).tdiv (gCS d)) := Int.neg_tdiv _ _
      have h0 := Int.tdiv_nonneg (show (0:Int) ≤ -gLeft d by omega) (show (0:Int) ≤ gCS d by omega)
      omega
    · exact hl
  rw [Int.tdiv_eq_ediv_of_nonneg hL] at e4
  have hT : gT d = 1 ∨ gT d = 2 := by omega
  refine ⟨⟨h2, hc2⟩, ?_, hT, ?_, m2, ?_, ?_, ⟨m3, m4⟩, ?_⟩
  · rcases k3 with k | k | k <;> rw [k] at e8 <;> omega
  · rcases k3 with k | k | k <;> rcases hT with t | t <;> rw [k] at e4 <;> rw [t] at e3 <;> omega
  · rcases hT with t | t <;> rw [t] at e7 ⊢ <;> omega
  · rcases k3 with k | k | k <;> rcases hT with t | t <;> rw [k] at e4 e8 <;> rw [t] at e3 e7 <;> rw [e8] <;> omega
  · rcases hT with t | t <;> rw [t] at e3 <;> omega
-- chains
def isCl (d : Nat → Int) (k : Int) : Prop := 2 ≤ k ∧ k ≤ gN d + 1
noncomputable def beh (d : Nat → Int) (k : Int) : Int := by
  classical
  exact if isCl d (wrd d (gTA d + 2 * k) % 4096) ∨ 4088 ≤ wrd d (gTA d + 2 * k) % 4096 ∨ gT d = 1 then wrd d (gTA d + 2 * k) % 4096 else wrd d (gTA d + 2 * k + gTB d) % 4096
theorem beh_range {d : Nat → Int} (k : Int) : 0 ≤ beh d k ∧ beh d k < 4096 := by
  classical
  unfold beh; split <;> omega
noncomputable def kth (d : Nat → Int) (first : Int) : Nat → Int
  | 0 => first
  | k + 1 => beh d (kth d first k)
/-- how many clusters the chain has; -1 if it is broken: n steps at most -/
noncomputable def chnF (d : Nat → Int) : Nat → Int → Int → Int
  | 0, _, _ => -1
  | f + 1, m, k => by
    classical
    exact if isCl d k then chnF d f (m + 1) (beh d k) else if 0 < m ∧ 4088 ≤ k then m else -1
noncomputable def chn (d : Nat → Int) (first : Int) : Int := chnF d ((gN d).toNat + 1) 0 first
/-- the place of byte i of the chain from first -/
noncomputable def plc (d : Nat → Int) (first : Int) (i : Int) : Int := gCA d + (kth d first (i / gSz d).toNat - 2) * gSz d + i % gSz d
end
section
/-! bits and masks over iI -/
theorem bI_and' {z : Int} (h0 : 0 ≤ z) (h : z < 256) : bI z &&& iI 255 = iI z := bI_and h0 h
theorem nx_or (a b : Nat) : nI a ||| nI b = nI (a ||| b) := by
  apply Int32.toBitVec_inj.1
  show BitVec.ofNat 32 a ||| BitVec.ofNat 32 b = BitVec.ofNat 32 (a ||| b)
  apply BitVec.eq_of_getLsbD_eq
  intro i hi
  simp [hi]
theorem nx_and' (a b : Nat) : nI a &&& nI b = nI (a &&& b) := by
  apply Int32.toBitVec_inj.1
  show BitVec.ofNat 32 a &&& BitVec.ofNat 32 b = BitVec.ofNat 32 (a &&& b)
  apply BitVec.eq_of_getLsbD_eq
  intro i hi
  simp [hi]
theorem nI_mod (a : Nat) : nI (a % 4294967296) = nI a := by
  apply Int32.toBitVec_inj.1
  show BitVec.ofNat 32 (a % 4294967296) = BitVec.ofNat 32 a
  apply BitVec.eq_of_toNat_eq
  simp
/-- a small number, shifted by 8, 16 or 24 -/
theorem iI_shl {z : Int} (k : Nat) (hk : k < 32) (h0 : 0 ≤ z) (h : z < 65536) (hs : ((iI k &&& 31).toBitVec.smod 32).toNat = k) : iI z <<< (iI k &&& 31) = iI (z * 2 ^ k) := by
  obtain ⟨n, rfl⟩ := Int.eq_ofNat_of_zero_le h0
  have hn : n < 2 ^ 32 := by omega
  have e : ((n : Int) * 2 ^ k) = ((n * 2 ^ k : Nat) : Int) := by simp
  rw [iI_nI n, e, iI_nI]
  apply Int32.toBitVec_inj.mp
  apply BitVec.eq_of_toNat_eq
  rw [pk_shl _ _ k hs, pk_tn hn]
  show _ = (BitVec.ofNat 32 (n * 2 ^ k)).toNat
  simp
theorem iI_shl8 {z : Int} (h0 : 0 ≤ z) (h : z < 65536) : iI z <<< (iI 8 &&& 31) = iI (z * 256) := iI_shl 8 (by decide) h0 h (by decide)
theorem iI_shl16 {z : Int} (h0 : 0 ≤ z) (h : z < 65536) : iI z <<< (iI 16 &&& 31) = iI (z * 65536) := iI_shl 16 (by decide) h0 h (by decide)
theorem iI_shl24 {z : Int} (h0 : 0 ≤ z) (h : z < 65536) : iI z <<< (iI 24 &&& 31) = iI (z * 16777216) := iI_shl 24 (by decide) h0 h (by decide)
theorem iI_or {a b : Int} (k : Nat) (ha : 0 ≤ a) (ha2 : a < 2 ^ k) (hb : 0 ≤ b) : iI a ||| iI (b * 2 ^ k) = iI (a + b * 2 ^ k) := by
  obtain ⟨x, rfl⟩ := Int.eq_ofNat_of_zero_le ha
  obtain ⟨y, rfl⟩ := Int.eq_ofNat_of_zero_le hb
  have e : ((y : Int) * 2 ^ k) = ((y * 2 ^ k : Nat) : Int) := by simp
  have e2 : ((x : Int) + ((y * 2 ^ k : Nat) : Int)) = ((x + y * 2 ^ k : Nat) : Int) := by simp
  have hx : x < 2 ^ k := by
    have h3 : ((2 ^ k : Nat) : Int) = 2 ^ k := by simp
    omega
  have h1 : y * 2 ^ k ||| x = y * 2 ^ k + x := by rw [← Nat.shiftLeft_eq, Nat.shiftLeft_add_eq_or_of_lt hx]
  rw [e, e2, iI_nI, iI_nI, iI_nI, nx_or, Nat.or_comm, h1, Nat.add_comm]
theorem iI_or8 {a b : Int} (ha : 0 ≤ a) (ha2 : a < 256) (hb : 0 ≤ b) : iI a ||| iI (b * 256) = iI (a + b * 256) := iI_or 8 ha (by simpa using ha2) hb
theorem iI_or16 {a b : Int} (ha : 0 ≤ a) (ha2 : a < 65536) (hb : 0 ≤ b) : iI a ||| iI (b * 65536) = iI (a + b * 65536) := iI_or 16 ha (by simpa using ha2) hb
theorem iI_or24 {a b : Int} (ha : 0 ≤ a) (ha2 : a < 16777216) (hb : 0 ≤ b) : iI a ||| iI (b * 16777216) = iI (a + b * 16777216) := iI_or 24 ha (by simpa using ha2) hb
/-- the low k bits of a number that isn't negative -/
theorem iI_low {z : Int} (k : Nat) (h0 : 0 ≤ z) : iI z &&& iI (2 ^ k - 1) = iI (z % 2 ^ k) := by
  obtain ⟨n, rfl⟩ := Int.eq_ofNat_of_zero_le h0
  have h1 : 0 < 2 ^ k := Nat.two_pow_pos k
  have e : ((2 : Int) ^ k - 1) = ((2 ^ k - 1 : Nat) : Int) := by
    have h3 : ((2 ^ k : Nat) : Int) = 2 ^ k := by simp
    omega
  have e2 : ((n : Int) % 2 ^ k) = ((n % 2 ^ k : Nat) : Int) := by simp
  rw [e, e2, iI_nI, iI_nI, iI_nI, nx_and', Nat.and_two_pow_sub_one_eq_mod]
theorem iI_and4095 {z : Int} (h0 : 0 ≤ z) : iI z &&& iI 4095 = iI (z % 4096) := iI_low 12 h0
theorem iI_and255 {z : Int} (h0 : 0 ≤ z) : iI z &&& iI 255 = iI (z % 256) := iI_low 8 h0
/-- a bit of a byte -/
def bit (z : Int) (k : Int) : Int := z / k % 2
theorem bit8_n : ∀ n : Nat, n < 256 → nI n &&& nI 8 = nI (8 * (n / 8 % 2)) := by decide +kernel
theorem bit16_n : ∀ n : Nat, n < 256 → nI n &&& nI 16 = nI (16 * (n / 16 % 2)) := by decide +kernel
theorem iI_bit8 {z : Int} (h0 : 0 ≤ z) (h : z < 256) : iI z &&& iI 8 = iI (8 * (z / 8 % 2)) := by
  obtain ⟨n, rfl⟩ := Int.eq_ofNat_of_zero_le h0
  have e : (8 * ((n : Int) / 8 % 2)) = ((8 * (n / 8 % 2) : Nat) : Int) := by simp
  rw [e, iI_nI, iI_nI, show iI 8 = nI 8 from rfl]
  exact bit8_n n (by omega)
theorem iI_bit16 {z : Int} (h0 : 0 ≤ z) (h : z < 256) : iI z &&& iI 16 = iI (16 * (z / 16 % 2)) := by
  obtain ⟨n, rfl⟩ := Int.eq_ofNat_of_zero_le h0
  have e : (16 * ((n : Int) / 16 % 2)) = ((16 * (n / 16 % 2) : Nat) : Int) := by simp
  rw [e, iI_nI, iI_nI, show iI 16 = nI 16 from rfl]
  exact bit16_n n (by omega)
/-- ints that agree modulo 2 ^ 32 -/
theorem iI_mod (z : Int) : iI (z % 4294967296) = iI z := by
  apply Int32.toInt_inj.mp
  show (Int32.ofInt _).toInt = (Int32.ofInt _).toInt
  rw [Int32.toInt_ofInt, Int32.toInt_ofInt]
  show Int.bmod (z % 4294967296) 4294967296 = Int.bmod z 4294967296
  simp
theorem iI_inj32 {a b : Int} (ha : 0 ≤ a) (ha2 : a < 4294967296) (hb : 0 ≤ b) (hb2 : b < 4294967296) : iI a = iI b ↔ a = b := by
  constructor
  · intro h
    have h1 := congrArg Int32.toInt h
    have h2 : (Int32.ofInt a).toInt = (Int32.ofInt b).toInt := h1
    rw [Int32.toInt_ofInt, Int32.toInt_ofInt] at h2
    have h3 : Int.bmod a 4294967296 = Int.bmod b 4294967296 := h2
    rw [Int.bmod_def, Int.bmod_def] at h3
    split at h3 <;> split at h3 <;> omega
  · intro h; rw [h]
end
section
def rmX0_byteAt : Room := { frames := 0, cells := 0, slots := 0, locals := 0 }
set_option maxHeartbeats 4000000 in
set_option maxRecDepth 100000 in
theorem c_X0_byteAt (l : Launch) (D : va_G) (cA : Nat → ClassId) (h a n : Nat) (d : Nat → Int) (z : Int) (hd : By d) (hz : ir z) (hn : n < 2147483648) : kCi l D vwCl (kTys cA) yX0_byteAt wsX0_byteAt rmX0_byteAt [.ref h, .int (iI (z))] [(h, .inr (0, [.ref a])), (a, .inl (cA 1, n, .inl (fun j => bI (d j))))] (fun r u => r = iI (bAt n d z) ∧ u = [(h, .inr (0, [.ref a])), (a, .inl (cA 1, n, .inl (fun j => bI (d j))))]) := by
  intro sz
  refine kEntry (cc := cX0_byteAt) (maxL := 2) (ret := (some .int)) (by decide) rfl (Nat.le_of_ble_eq_true rfl) ?_
  intro p e s m args below meth c A Q hAe hQ C0 hr hlk S hsz ls hl
  have hl : lv_has ls 2 [(0, .ref h), (1, .int (iI (z)))] := hl
  obtain ⟨hz1, hz2⟩ := hz
  refine lv_iload_n C0.1 C0.2.1 dX0_byteAt_0 rfl (lv_at hl 1 rfl) ?_
  refine k_if_lt (tgt := 26) C0 (by constructor <;> omega) dX0_byteAt_1 (by decide) (fun c1 => ?_) (fun c1 => ?_)
  · refine lv_iconst (v := iI (-1)) C0.1 C0.2.1 dX0_byteAt_26 rfl ?_
    subst hQ
    refine k_iret C0 S hAe hsz hr hlk dX0_byteAt_27 ?_
    exact ⟨congrArg iI (by unfold bAt; rw [if_neg (by omega)]), rfl⟩
  · refine lv_iload_n C0.1 C0.2.1 dX0_byteAt_4 rfl (lv_at hl 1 rfl) ?_
    refine lv_aload_n C0.1 C0.2.1 dX0_byteAt_5 rfl (lv_at hl 0 rfl) ?_
    refine k_get C0 S (C := RX0) (T := TX0) (N := 1) (ci := 0) (by decide +kernel) 0 rfl rfl 0 (by decide) (by decide +kernel) (v := .ref a) rfl dX0_byteAt_6 ?_
    refine k_alen C0 S 1 1 rfl rfl dX0_byteAt_9 ?_
    refine k_icmp_ge (tgt := 26) C0 (by constructor <;> omega) (by constructor <;> omega) dX0_byteAt_10 (by decide) (fun c2 => ?_) (fun c2 => ?_)
    · refine lv_iconst (v := iI (-1)) C0.1 C0.2.1 dX0_byteAt_26 rfl ?_
      subst hQ
      refine k_iret C0 S hAe hsz hr hlk dX0_byteAt_27 ?_
      exact ⟨congrArg iI (by unfold bAt; rw [if_neg (by omega)]), rfl⟩
    · refine lv_aload_n C0.1 C0.2.1 dX0_byteAt_13 rfl (lv_at hl 0 rfl) ?_
      refine k_get C0 S (C := RX0) (T := TX0) (N := 1) (ci := 0) (by decide +kernel) 0 rfl rfl 0 (by decide) (by decide +kernel) (v := .ref a) rfl dX0_byteAt_14 ?_
      refine lv_iload_n C0.1 C0.2.1 dX0_byteAt_17 rfl (lv_at hl 1 rfl) ?_
      refine k_bald C0 S 1 1 rfl rfl (z := z) (by omega) (by omega) (by omega) dX0_byteAt_18 ?_
      refine lv_sipush (v := iI (255)) C0.1 C0.2.1 dX0_byteAt_19 (by decide) ?_
      refine lv_iand C0.1 C0.2.1 dX0_byteAt_22 ?_
      refine k_topeq (v := iI (d (z).toNat)) (bI_and' (hd _).1 (hd _).2) ?_
      refine lv_goto (tgt := 27) C0.1 C0.2.1 dX0_byteAt_23 (by decide) ?_
      subst hQ
      refine k_iret C0 S hAe hsz hr hlk dX0_byteAt_27 ?_
      exact ⟨congrArg iI (by unfold bAt; rw [if_pos ⟨by omega, by omega⟩]; rfl), rfl⟩
def rmX0_wordAt : Room := { frames := 0, cells := 0, slots := 0, locals := 0 }
set_option maxHeartbeats 4000000 in
set_option maxRecDepth 100000 in
theorem c_X0_wordAt (l : Launch) (D : va_G) (cA : Nat → ClassId) (h a n : Nat) (d : Nat → Int) (z : Int) (hd : By d) (hz : ir z) (hn : n < 2147483648) : kCi l D vwCl (kTys cA) yX0_wordAt wsX0_wordAt rmX0_wordAt [.ref h, .int (iI (z))] [(h, .inr (0, [.ref a])), (a, .inl (cA 1, n, .inl (fun j => bI (d j))))] (fun r u => r = iI (wAt n d z) ∧ u = [(h, .inr (0, [.ref a])), (a, .inl (cA 1, n, .inl (fun j => bI (d j))))]) := by
  intro sz
  refine kEntry (cc := cX0_wordAt) (maxL := 2) (ret := (some .int)) (by decide) rfl (Nat.le_of_ble_eq_true rfl) ?_
  intro p e s m args below meth c A Q hAe hQ C0 hr hlk S hsz ls hl
  have hl : lv_has ls 2 [(0, .ref h), (1, .int (iI (z)))] := hl
  obtain ⟨hz1, hz2⟩ := hz
  refine lv_iload_n C0.1 C0.2.1 dX0_wordAt_0 rfl (lv_at hl 1 rfl) ?_
  refine k_if_lt (tgt := 15) C0 (by constructor <;> omega) dX0_wordAt_1 (by decide) (fun c1 => ?_) (fun c1 => ?_)
  · refine lv_iconst (v := iI (0)) C0.1 C0.2.1 dX0_wordAt_15 rfl ?_
    subst hQ
    refine k_iret C0 S hAe hsz hr hlk dX0_wordAt_16 ?_
    exact ⟨congrArg iI (by unfold wAt; rw [if_pos (by omega)]), rfl⟩
  · refine lv_iload_n C0.1 C0.2.1 dX0_wordAt_4 rfl (lv_at hl 1 rfl) ?_
    refine lv_aload_n C0.1 C0.2.1 dX0_wordAt_5 rfl (lv_at hl 0 rfl) ?_
    refine k_get C0 S (C := RX0) (T := TX0) (N := 1) (ci := 0) (by decide +kernel) 0 rfl rfl 0 (by decide) (by decide +kernel) (v := .ref a) rfl dX0_wordAt_6 ?_
    refine k_alen C0 S 1 1 rfl rfl dX0_wordAt_9 ?_
    refine lv_iconst (v := iI (1)) C0.1 C0.2.1 dX0_wordAt_10 rfl ?_
    refine k_isub C0 dX0_wordAt_11 ?_
    refine k_icmp_lt (tgt := 17) C0 (by constructor <;> omega) (by constructor <;> omega) dX0_wordAt_12 (by decide) (fun c2 => ?_) (fun c2 => ?_)
    · refine lv_aload_n C0.1 C0.2.1 dX0_wordAt_17 rfl (lv_at hl 0 rfl) ?_
      refine k_get C0 S (C := RX0) (T := TX0) (N := 1) (ci := 0) (by decide +kernel) 0 rfl rfl 0 (by decide) (by decide +kernel) (v := .ref a) rfl dX0_wordAt_18 ?_
      refine lv_iload_n C0.1 C0.2.1 dX0_wordAt_21 rfl (lv_at hl 1 rfl) ?_
      refine k_bald C0 S 1 1 rfl rfl (z := z) (by omega) (by omega) (by omega) dX0_wordAt_22 ?_
      refine lv_sipush (v := iI (255)) C0.1 C0.2.1 dX0_wordAt_23 (by decide) ?_
      refine lv_iand C0.1 C0.2.1 dX0_wordAt_26 ?_
      refine k_topeq (v := iI (d (z).toNat)) (bI_and' (hd _).1 (hd _).2) ?_
      refine lv_aload_n C0.1 C0.2.1 dX0_wordAt_27 rfl (lv_at hl 0 rfl) ?_
      refine k_get C0 S (C := RX0) (T := TX0) (N := 1) (ci := 0) (by decide +kernel) 0 rfl rfl 0 (by decide) (by decide +kernel) (v := .ref a) rfl dX0_wordAt_28 ?_
      refine lv_iload_n C0.1 C0.2.1 dX0_wordAt_31 rfl (lv_at hl 1 rfl) ?_
      refine lv_iconst (v := iI (1)) C0.1 C0.2.1 dX0_wordAt_32 rfl ?_
      refine k_iadd C0 dX0_wordAt_33 ?_
      refine k_bald C0 S 1 1 rfl rfl (z := z + 1) (by omega) (by omega) (by omega) dX0_wordAt_34 ?_
      refine lv_sipush (v := iI (255)) C0.1 C0.2.1 dX0_wordAt_35 (by decide) ?_
      refine lv_iand C0.1 C0.2.1 dX0_wordAt_38 ?_
      refine k_topeq (v := iI (d (z + 1).toNat)) (bI_and' (hd _).1 (hd _).2) ?_
      refine lv_bipush (v := iI (8)) C0.1 C0.2.1 dX0_wordAt_39 (by decide) ?_
      refine lv_ishl C0.1 C0.2.1 dX0_wordAt_41 ?_
      refine k_topeq (v := iI (d (z + 1).toNat * 256)) (iI_shl8 (hd _).1 (by have := (hd (z + 1).toNat).2; omega)) ?_
      refine lv_ior C0.1 C0.2.1 dX0_wordAt_42 ?_
      refine k_topeq (v := iI (d (z).toNat + d (z + 1).toNat * 256)) (iI_or8 (hd _).1 (hd _).2 (hd _).1) ?_
      subst hQ
      refine k_iret C0 S hAe hsz hr hlk dX0_wordAt_43 ?_
      exact ⟨congrArg iI (by unfold wAt; rw [if_neg (by omega)]; unfold rd; omega), rfl⟩
    · refine lv_iconst (v := iI (0)) C0.1 C0.2.1 dX0_wordAt_15 rfl ?_
      subst hQ
      refine k_iret C0 S hAe hsz hr hlk dX0_wordAt_16 ?_
      exact ⟨congrArg iI (by unfold wAt; rw [if_pos (by omega)]), rfl⟩
end
