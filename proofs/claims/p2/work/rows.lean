section
-- ===== PART A: goes FIRST, ahead of the names: the tables' words, and 'selects' of the private methods out of them =====
/-- a private method of a class that the tables say can be made, by its rows of tables_1 -/
def lw_okq (q : MethodName × Nat) : Prop := (q.1.cls ≠ "java/lang/invoke/MethodHandle" ∧ q.1.cls ≠ "java/lang/invoke/VarHandle") ∧ Cond.instantiable q.1.cls q.2 ∈ tables_1 ∧ Cond.privateMethod q.1 ∈ tables_1 ∧ Cond.instanceMethod q.1 ∈ tables_1
theorem lw_p0 : lw_okq (⟨"TensorForge$Machine", "shapeFits", "(J)Z"⟩, 14) := ⟨⟨by decide +kernel, by decide +kernel⟩, List.mem_of_getElem? (i := 155) (by decide +kernel), List.mem_of_getElem? (i := 508) (by decide +kernel), List.mem_of_getElem? (i := 509) (by decide +kernel)⟩
theorem lw_p1 : lw_okq (⟨"TensorForge$Machine", "numberFits", "(J)Z"⟩, 14) := ⟨⟨by decide +kernel, by decide +kernel⟩, List.mem_of_getElem? (i := 155) (by decide +kernel), List.mem_of_getElem? (i := 513) (by decide +kernel), List.mem_of_getElem? (i := 514) (by decide +kernel)⟩
theorem lw_p2 : lw_okq (⟨"TensorForge$Reaches", "forget", "()V"⟩, 4) := ⟨⟨by decide +kernel, by decide +kernel⟩, List.mem_of_getElem? (i := 163) (by decide +kernel), List.mem_of_getElem? (i := 528) (by decide +kernel), List.mem_of_getElem? (i := 529) (by decide +kernel)⟩
theorem lw_p3 : lw_okq (⟨"TensorForge$Reaches", "reads", "(III)V"⟩, 4) := ⟨⟨by decide +kernel, by decide +kernel⟩, List.mem_of_getElem? (i := 163) (by decide +kernel), List.mem_of_getElem? (i := 536) (by decide +kernel), List.mem_of_getElem? (i := 537) (by decide +kernel)⟩
theorem lw_p4 : lw_okq (⟨"TensorForge$Reaches", "writes", "(III)V"⟩, 4) := ⟨⟨by decide +kernel, by decide +kernel⟩, List.mem_of_getElem? (i := 163) (by decide +kernel), List.mem_of_getElem? (i := 540) (by decide +kernel), List.mem_of_getElem? (i := 541) (by decide +kernel)⟩
theorem lw_p5 : lw_okq (⟨"TensorForge$Reaches", "takeWork", "(JI)V"⟩, 4) := ⟨⟨by decide +kernel, by decide +kernel⟩, List.mem_of_getElem? (i := 163) (by decide +kernel), List.mem_of_getElem? (i := 544) (by decide +kernel), List.mem_of_getElem? (i := 545) (by decide +kernel)⟩
theorem lw_p6 : lw_okq (⟨"TensorForge$Reaches", "workOnSums", "(IIZ)V"⟩, 4) := ⟨⟨by decide +kernel, by decide +kernel⟩, List.mem_of_getElem? (i := 163) (by decide +kernel), List.mem_of_getElem? (i := 548) (by decide +kernel), List.mem_of_getElem? (i := 549) (by decide +kernel)⟩
theorem lw_p7 : lw_okq (⟨"TensorForge$Assembler", "readInstruction", "()Z"⟩, 4) := ⟨⟨by decide +kernel, by decide +kernel⟩, List.mem_of_getElem? (i := 315) (by decide +kernel), List.mem_of_getElem? (i := 574) (by decide +kernel), List.mem_of_getElem? (i := 575) (by decide +kernel)⟩
theorem lw_p8 : lw_okq (⟨"TensorForge$Assembler", "kindTold", "()I"⟩, 4) := ⟨⟨by decide +kernel, by decide +kernel⟩, List.mem_of_getElem? (i := 315) (by decide +kernel), List.mem_of_getElem? (i := 578) (by decide +kernel), List.mem_of_getElem? (i := 579) (by decide +kernel)⟩
theorem lw_p9 : lw_okq (⟨"TensorForge$Assembler", "readPart", "()Z"⟩, 4) := ⟨⟨by decide +kernel, by decide +kernel⟩, List.mem_of_getElem? (i := 315) (by decide +kernel), List.mem_of_getElem? (i := 650) (by decide +kernel), List.mem_of_getElem? (i := 651) (by decide +kernel)⟩
theorem lw_p10 : lw_okq (⟨"TensorForge$Assembler", "readNumber", "(I)Z"⟩, 4) := ⟨⟨by decide +kernel, by decide +kernel⟩, List.mem_of_getElem? (i := 315) (by decide +kernel), List.mem_of_getElem? (i := 655) (by decide +kernel), List.mem_of_getElem? (i := 656) (by decide +kernel)⟩
theorem lw_p11 : lw_okq (⟨"TensorForge$Assembler", "setOnce", "(II)Z"⟩, 4) := ⟨⟨by decide +kernel, by decide +kernel⟩, List.mem_of_getElem? (i := 315) (by decide +kernel), List.mem_of_getElem? (i := 667) (by decide +kernel), List.mem_of_getElem? (i := 668) (by decide +kernel)⟩
theorem lw_p12 : lw_okq (⟨"TensorForge$Assembler", "readNeighbour", "(II)Z"⟩, 4) := ⟨⟨by decide +kernel, by decide +kernel⟩, List.mem_of_getElem? (i := 315) (by decide +kernel), List.mem_of_getElem? (i := 683) (by decide +kernel), List.mem_of_getElem? (i := 684) (by decide +kernel)⟩
theorem lw_p13 : lw_okq (⟨"TensorForge", "takeSpareWords", "(I)V"⟩, 12) := ⟨⟨by decide +kernel, by decide +kernel⟩, List.mem_of_getElem? (i := 29) (by decide +kernel), List.mem_of_getElem? (i := 690) (by decide +kernel), List.mem_of_getElem? (i := 691) (by decide +kernel)⟩
theorem lw_p14 : lw_okq (⟨"TensorForge$Run", "prepare", "([JI)V"⟩, 10) := ⟨⟨by decide +kernel, by decide +kernel⟩, List.mem_of_getElem? (i := 231) (by decide +kernel), List.mem_of_getElem? (i := 702) (by decide +kernel), List.mem_of_getElem? (i := 703) (by decide +kernel)⟩
theorem lw_p15 : lw_okq (⟨"TensorForge$Run", "nextOf", "(II)I"⟩, 10) := ⟨⟨by decide +kernel, by decide +kernel⟩, List.mem_of_getElem? (i := 231) (by decide +kernel), List.mem_of_getElem? (i := 716) (by decide +kernel), List.mem_of_getElem? (i := 717) (by decide +kernel)⟩
def lw_privs_1 : List (MethodName × Nat) := [(⟨"TensorForge$Machine", "shapeFits", "(J)Z"⟩, 14), (⟨"TensorForge$Machine", "numberFits", "(J)Z"⟩, 14), (⟨"TensorForge$Reaches", "forget", "()V"⟩, 4), (⟨"TensorForge$Reaches", "reads", "(III)V"⟩, 4), (⟨"TensorForge$Reaches", "writes", "(III)V"⟩, 4), (⟨"TensorForge$Reaches", "takeWork", "(JI)V"⟩, 4), (⟨"TensorForge$Reaches", "workOnSums", "(IIZ)V"⟩, 4), (⟨"TensorForge$Assembler", "readInstruction", "()Z"⟩, 4), (⟨"TensorForge$Assembler", "kindTold", "()I"⟩, 4), (⟨"TensorForge$Assembler", "readPart", "()Z"⟩, 4), (⟨"TensorForge$Assembler", "readNumber", "(I)Z"⟩, 4), (⟨"TensorForge$Assembler", "setOnce", "(II)Z"⟩, 4), (⟨"TensorForge$Assembler", "readNeighbour", "(II)Z"⟩, 4), (⟨"TensorForge", "takeSpareWords", "(I)V"⟩, 12), (⟨"TensorForge$Run", "prepare", "([JI)V"⟩, 10), (⟨"TensorForge$Run", "nextOf", "(II)I"⟩, 10)]
theorem lw_r1 : ∀ q ∈ lw_privs_1, lw_okq q := List.forall_mem_cons.mpr ⟨lw_p0, List.forall_mem_cons.mpr ⟨lw_p1, List.forall_mem_cons.mpr ⟨lw_p2, List.forall_mem_cons.mpr ⟨lw_p3, List.forall_mem_cons.mpr ⟨lw_p4, List.forall_mem_cons.mpr ⟨lw_p5, List.forall_mem_cons.mpr ⟨lw_p6, List.forall_mem_cons.mpr ⟨lw_p7, List.forall_mem_cons.mpr ⟨lw_p8, List.forall_mem_cons.mpr ⟨lw_p9, List.forall_mem_cons.mpr ⟨lw_p10, List.forall_mem_cons.mpr ⟨lw_p11, List.forall_mem_cons.mpr ⟨lw_p12, List.forall_mem_cons.mpr ⟨lw_p13, List.forall_mem_cons.mpr ⟨lw_p14, List.forall_mem_cons.mpr ⟨lw_p15, fun _ h => absurd h List.not_mem_nil⟩⟩⟩⟩⟩⟩⟩⟩⟩⟩⟩⟩⟩⟩⟩⟩
theorem lw_p16 : lw_okq (⟨"TensorForge$Run", "firstForbidden", "()I"⟩, 10) := ⟨⟨by decide +kernel, by decide +kernel⟩, List.mem_of_getElem? (i := 231) (by decide +kernel), List.mem_of_getElem? (i := 721) (by decide +kernel), List.mem_of_getElem? (i := 722) (by decide +kernel)⟩
theorem lw_p17 : lw_okq (⟨"TensorForge$Run", "tell", "(III)V"⟩, 10) := ⟨⟨by decide +kernel, by decide +kernel⟩, List.mem_of_getElem? (i := 231) (by decide +kernel), List.mem_of_getElem? (i := 726) (by decide +kernel), List.mem_of_getElem? (i := 727) (by decide +kernel)⟩
theorem lw_p18 : lw_okq (⟨"TensorForge$Run", "endUpTo", "(I)V"⟩, 10) := ⟨⟨by decide +kernel, by decide +kernel⟩, List.mem_of_getElem? (i := 231) (by decide +kernel), List.mem_of_getElem? (i := 730) (by decide +kernel), List.mem_of_getElem? (i := 731) (by decide +kernel)⟩
theorem lw_p19 : lw_okq (⟨"TensorForge$Run", "pushTokens", "(IJ)V"⟩, 10) := ⟨⟨by decide +kernel, by decide +kernel⟩, List.mem_of_getElem? (i := 231) (by decide +kernel), List.mem_of_getElem? (i := 734) (by decide +kernel), List.mem_of_getElem? (i := 735) (by decide +kernel)⟩
theorem lw_p20 : lw_okq (⟨"TensorForge$Run", "addTokens", "(II)V"⟩, 10) := ⟨⟨by decide +kernel, by decide +kernel⟩, List.mem_of_getElem? (i := 231) (by decide +kernel), List.mem_of_getElem? (i := 742) (by decide +kernel), List.mem_of_getElem? (i := 743) (by decide +kernel)⟩
theorem lw_p21 : lw_okq (⟨"TensorForge$Run", "beginAt", "(I)I"⟩, 10) := ⟨⟨by decide +kernel, by decide +kernel⟩, List.mem_of_getElem? (i := 231) (by decide +kernel), List.mem_of_getElem? (i := 749) (by decide +kernel), List.mem_of_getElem? (i := 750) (by decide +kernel)⟩
theorem lw_p22 : lw_okq (⟨"TensorForge$Run", "hasTokens", "(IJ)Z"⟩, 10) := ⟨⟨by decide +kernel, by decide +kernel⟩, List.mem_of_getElem? (i := 231) (by decide +kernel), List.mem_of_getElem? (i := 753) (by decide +kernel), List.mem_of_getElem? (i := 754) (by decide +kernel)⟩
theorem lw_p23 : lw_okq (⟨"TensorForge$Run", "tokens", "(I)I"⟩, 10) := ⟨⟨by decide +kernel, by decide +kernel⟩, List.mem_of_getElem? (i := 231) (by decide +kernel), List.mem_of_getElem? (i := 761) (by decide +kernel), List.mem_of_getElem? (i := 762) (by decide +kernel)⟩
theorem lw_p24 : lw_okq (⟨"TensorForge$Run", "races", "()Z"⟩, 10) := ⟨⟨by decide +kernel, by decide +kernel⟩, List.mem_of_getElem? (i := 231) (by decide +kernel), List.mem_of_getElem? (i := 769) (by decide +kernel), List.mem_of_getElem? (i := 770) (by decide +kernel)⟩
theorem lw_p25 : lw_okq (⟨"TensorForge$Run", "begin", "(III)V"⟩, 10) := ⟨⟨by decide +kernel, by decide +kernel⟩, List.mem_of_getElem? (i := 231) (by decide +kernel), List.mem_of_getElem? (i := 780) (by decide +kernel), List.mem_of_getElem? (i := 781) (by decide +kernel)⟩
theorem lw_p26 : lw_okq (⟨"TensorForge$Run", "popTokens", "(IJ)V"⟩, 10) := ⟨⟨by decide +kernel, by decide +kernel⟩, List.mem_of_getElem? (i := 231) (by decide +kernel), List.mem_of_getElem? (i := 787) (by decide +kernel), List.mem_of_getElem? (i := 788) (by decide +kernel)⟩
theorem lw_p27 : lw_okq (⟨"TensorForge$Machine", "decode", "(J)V"⟩, 14) := ⟨⟨by decide +kernel, by decide +kernel⟩, List.mem_of_getElem? (i := 155) (by decide +kernel), List.mem_of_getElem? (i := 795) (by decide +kernel), List.mem_of_getElem? (i := 796) (by decide +kernel)⟩
theorem lw_p28 : lw_okq (⟨"TensorForge$Machine", "loadBytes", "([B)V"⟩, 14) := ⟨⟨by decide +kernel, by decide +kernel⟩, List.mem_of_getElem? (i := 155) (by decide +kernel), List.mem_of_getElem? (i := 799) (by decide +kernel), List.mem_of_getElem? (i := 800) (by decide +kernel)⟩
theorem lw_p29 : lw_okq (⟨"TensorForge$Machine", "clearCells", "()V"⟩, 14) := ⟨⟨by decide +kernel, by decide +kernel⟩, List.mem_of_getElem? (i := 155) (by decide +kernel), List.mem_of_getElem? (i := 803) (by decide +kernel), List.mem_of_getElem? (i := 804) (by decide +kernel)⟩
theorem lw_p30 : lw_okq (⟨"TensorForge$Machine", "loadSums", "()V"⟩, 14) := ⟨⟨by decide +kernel, by decide +kernel⟩, List.mem_of_getElem? (i := 155) (by decide +kernel), List.mem_of_getElem? (i := 807) (by decide +kernel), List.mem_of_getElem? (i := 808) (by decide +kernel)⟩
theorem lw_p31 : lw_okq (⟨"TensorForge$Machine", "multiply", "()V"⟩, 14) := ⟨⟨by decide +kernel, by decide +kernel⟩, List.mem_of_getElem? (i := 155) (by decide +kernel), List.mem_of_getElem? (i := 814) (by decide +kernel), List.mem_of_getElem? (i := 815) (by decide +kernel)⟩
def lw_privs_2 : List (MethodName × Nat) := [(⟨"TensorForge$Run", "firstForbidden", "()I"⟩, 10), (⟨"TensorForge$Run", "tell", "(III)V"⟩, 10), (⟨"TensorForge$Run", "endUpTo", "(I)V"⟩, 10), (⟨"TensorForge$Run", "pushTokens", "(IJ)V"⟩, 10), (⟨"TensorForge$Run", "addTokens", "(II)V"⟩, 10), (⟨"TensorForge$Run", "beginAt", "(I)I"⟩, 10), (⟨"TensorForge$Run", "hasTokens", "(IJ)Z"⟩, 10), (⟨"TensorForge$Run", "tokens", "(I)I"⟩, 10), (⟨"TensorForge$Run", "races", "()Z"⟩, 10), (⟨"TensorForge$Run", "begin", "(III)V"⟩, 10), (⟨"TensorForge$Run", "popTokens", "(IJ)V"⟩, 10), (⟨"TensorForge$Machine", "decode", "(J)V"⟩, 14), (⟨"TensorForge$Machine", "loadBytes", "([B)V"⟩, 14), (⟨"TensorForge$Machine", "clearCells", "()V"⟩, 14), (⟨"TensorForge$Machine", "loadSums", "()V"⟩, 14), (⟨"TensorForge$Machine", "multiply", "()V"⟩, 14)]
theorem lw_r2 : ∀ q ∈ lw_privs_2, lw_okq q := List.forall_mem_cons.mpr ⟨lw_p16, List.forall_mem_cons.mpr ⟨lw_p17, List.forall_mem_cons.mpr ⟨lw_p18, List.forall_mem_cons.mpr ⟨lw_p19, List.forall_mem_cons.mpr ⟨lw_p20, List.forall_mem_cons.mpr ⟨lw_p21, List.forall_mem_cons.mpr ⟨lw_p22, List.forall_mem_cons.mpr ⟨lw_p23, List.forall_mem_cons.mpr ⟨lw_p24, List.forall_mem_cons.mpr ⟨lw_p25, List.forall_mem_cons.mpr ⟨lw_p26, List.forall_mem_cons.mpr ⟨lw_p27, List.forall_mem_cons.mpr ⟨lw_p28, List.forall_mem_cons.mpr ⟨lw_p29, List.forall_mem_cons.mpr ⟨lw_p30, List.forall_mem_cons.mpr ⟨lw_p31, fun _ h => absurd h List.not_mem_nil⟩⟩⟩⟩⟩⟩⟩⟩⟩⟩⟩⟩⟩⟩⟩⟩
theorem lw_p32 : lw_okq (⟨"TensorForge$Machine", "combine", "()V"⟩, 14) := ⟨⟨by decide +kernel, by decide +kernel⟩, List.mem_of_getElem? (i := 155) (by decide +kernel), List.mem_of_getElem? (i := 818) (by decide +kernel), List.mem_of_getElem? (i := 819) (by decide +kernel)⟩
theorem lw_p33 : lw_okq (⟨"TensorForge$Machine", "narrow", "()V"⟩, 14) := ⟨⟨by decide +kernel, by decide +kernel⟩, List.mem_of_getElem? (i := 155) (by decide +kernel), List.mem_of_getElem? (i := 823) (by decide +kernel), List.mem_of_getElem? (i := 824) (by decide +kernel)⟩
theorem lw_p34 : lw_okq (⟨"TensorForge$Machine", "store", "()V"⟩, 14) := ⟨⟨by decide +kernel, by decide +kernel⟩, List.mem_of_getElem? (i := 155) (by decide +kernel), List.mem_of_getElem? (i := 838) (by decide +kernel), List.mem_of_getElem? (i := 839) (by decide +kernel)⟩
theorem lw_p35 : lw_okq (⟨"TensorForge$Run", "soonestEnd", "()I"⟩, 10) := ⟨⟨by decide +kernel, by decide +kernel⟩, List.mem_of_getElem? (i := 231) (by decide +kernel), List.mem_of_getElem? (i := 842) (by decide +kernel), List.mem_of_getElem? (i := 843) (by decide +kernel)⟩
theorem lw_p36 : lw_okq (⟨"TensorForge$Run", "leastNext", "()I"⟩, 10) := ⟨⟨by decide +kernel, by decide +kernel⟩, List.mem_of_getElem? (i := 231) (by decide +kernel), List.mem_of_getElem? (i := 846) (by decide +kernel), List.mem_of_getElem? (i := 847) (by decide +kernel)⟩
theorem lw_p37 : lw_okq (⟨"TensorForge$Layer", "sumOf", "([BLTensorForge$Layer;LTensorForge$Layer;III)I"⟩, 15) := ⟨⟨by decide +kernel, by decide +kernel⟩, List.mem_of_getElem? (i := 44) (by decide +kernel), List.mem_of_getElem? (i := 871) (by decide +kernel), List.mem_of_getElem? (i := 872) (by decide +kernel)⟩
theorem lw_p38 : lw_okq (⟨"TensorForge$Layer", "convolved", "([BLTensorForge$Layer;III)I"⟩, 15) := ⟨⟨by decide +kernel, by decide +kernel⟩, List.mem_of_getElem? (i := 44) (by decide +kernel), List.mem_of_getElem? (i := 875) (by decide +kernel), List.mem_of_getElem? (i := 876) (by decide +kernel)⟩
theorem lw_p39 : lw_okq (⟨"TensorForge$Layer", "product", "([BLTensorForge$Layer;II)I"⟩, 15) := ⟨⟨by decide +kernel, by decide +kernel⟩, List.mem_of_getElem? (i := 44) (by decide +kernel), List.mem_of_getElem? (i := 892) (by decide +kernel), List.mem_of_getElem? (i := 893) (by decide +kernel)⟩
theorem lw_p40 : lw_okq (⟨"TensorForge$Layer", "greatest", "([BLTensorForge$Layer;III)I"⟩, 15) := ⟨⟨by decide +kernel, by decide +kernel⟩, List.mem_of_getElem? (i := 44) (by decide +kernel), List.mem_of_getElem? (i := 899) (by decide +kernel), List.mem_of_getElem? (i := 900) (by decide +kernel)⟩
theorem lw_p41 : lw_okq (⟨"TensorForge$NetworkReader", "readLayer", "()Z"⟩, 9) := ⟨⟨by decide +kernel, by decide +kernel⟩, List.mem_of_getElem? (i := 335) (by decide +kernel), List.mem_of_getElem? (i := 921) (by decide +kernel), List.mem_of_getElem? (i := 922) (by decide +kernel)⟩
theorem lw_p42 : lw_okq (⟨"TensorForge$NetworkReader", "readTensor", "()I"⟩, 9) := ⟨⟨by decide +kernel, by decide +kernel⟩, List.mem_of_getElem? (i := 335) (by decide +kernel), List.mem_of_getElem? (i := 929) (by decide +kernel), List.mem_of_getElem? (i := 930) (by decide +kernel)⟩
theorem lw_p43 : lw_okq (⟨"TensorForge$NetworkReader", "tensorNamed", "()I"⟩, 9) := ⟨⟨by decide +kernel, by decide +kernel⟩, List.mem_of_getElem? (i := 335) (by decide +kernel), List.mem_of_getElem? (i := 933) (by decide +kernel), List.mem_of_getElem? (i := 934) (by decide +kernel)⟩
theorem lw_p44 : lw_okq (⟨"TensorForge$NetworkReader", "readOptions", "()Z"⟩, 9) := ⟨⟨by decide +kernel, by decide +kernel⟩, List.mem_of_getElem? (i := 335) (by decide +kernel), List.mem_of_getElem? (i := 946) (by decide +kernel), List.mem_of_getElem? (i := 947) (by decide +kernel)⟩
theorem lw_p45 : lw_okq (⟨"TensorForge$NetworkReader", "optionTold", "()I"⟩, 9) := ⟨⟨by decide +kernel, by decide +kernel⟩, List.mem_of_getElem? (i := 335) (by decide +kernel), List.mem_of_getElem? (i := 950) (by decide +kernel), List.mem_of_getElem? (i := 951) (by decide +kernel)⟩
theorem lw_p46 : lw_okq (⟨"TensorForge$NetworkReader", "readOption", "(I)Z"⟩, 9) := ⟨⟨by decide +kernel, by decide +kernel⟩, List.mem_of_getElem? (i := 335) (by decide +kernel), List.mem_of_getElem? (i := 962) (by decide +kernel), List.mem_of_getElem? (i := 963) (by decide +kernel)⟩
theorem lw_p47 : lw_okq (⟨"TensorForge$NetworkReader", "readName", "()Z"⟩, 9) := ⟨⟨by decide +kernel, by decide +kernel⟩, List.mem_of_getElem? (i := 335) (by decide +kernel), List.mem_of_getElem? (i := 966) (by decide +kernel), List.mem_of_getElem? (i := 967) (by decide +kernel)⟩
def lw_privs_3 : List (MethodName × Nat) := [(⟨"TensorForge$Machine", "combine", "()V"⟩, 14), (⟨"TensorForge$Machine", "narrow", "()V"⟩, 14), (⟨"TensorForge$Machine", "store", "()V"⟩, 14), (⟨"TensorForge$Run", "soonestEnd", "()I"⟩, 10), (⟨"TensorForge$Run", "leastNext", "()I"⟩, 10), (⟨"TensorForge$Layer", "sumOf", "([BLTensorForge$Layer;LTensorForge$Layer;III)I"⟩, 15), (⟨"TensorForge$Layer", "convolved", "([BLTensorForge$Layer;III)I"⟩, 15), (⟨"TensorForge$Layer", "product", "([BLTensorForge$Layer;II)I"⟩, 15), (⟨"TensorForge$Layer", "greatest", "([BLTensorForge$Layer;III)I"⟩, 15), (⟨"TensorForge$NetworkReader", "readLayer", "()Z"⟩, 9), (⟨"TensorForge$NetworkReader", "readTensor", "()I"⟩, 9), (⟨"TensorForge$NetworkReader", "tensorNamed", "()I"⟩, 9), (⟨"TensorForge$NetworkReader", "readOptions", "()Z"⟩, 9), (⟨"TensorForge$NetworkReader", "optionTold", "()I"⟩, 9), (⟨"TensorForge$NetworkReader", "readOption", "(I)Z"⟩, 9), (⟨"TensorForge$NetworkReader", "readName", "()Z"⟩, 9)]
theorem lw_r3 : ∀ q ∈ lw_privs_3, lw_okq q := List.forall_mem_cons.mpr ⟨lw_p32, List.forall_mem_cons.mpr ⟨lw_p33, List.forall_mem_cons.mpr ⟨lw_p34, List.forall_mem_cons.mpr ⟨lw_p35, List.forall_mem_cons.mpr ⟨lw_p36, List.forall_mem_cons.mpr ⟨lw_p37, List.forall_mem_cons.mpr ⟨lw_p38, List.forall_mem_cons.mpr ⟨lw_p39, List.forall_mem_cons.mpr ⟨lw_p40, List.forall_mem_cons.mpr ⟨lw_p41, List.forall_mem_cons.mpr ⟨lw_p42, List.forall_mem_cons.mpr ⟨lw_p43, List.forall_mem_cons.mpr ⟨lw_p44, List.forall_mem_cons.mpr ⟨lw_p45, List.forall_mem_cons.mpr ⟨lw_p46, List.forall_mem_cons.mpr ⟨lw_p47, fun _ h => absurd h List.not_mem_nil⟩⟩⟩⟩⟩⟩⟩⟩⟩⟩⟩⟩⟩⟩⟩⟩
theorem lw_p48 : lw_okq (⟨"TensorForge$NetworkReader", "beginsLineOrIsX", "()Z"⟩, 9) := ⟨⟨by decide +kernel, by decide +kernel⟩, List.mem_of_getElem? (i := 335) (by decide +kernel), List.mem_of_getElem? (i := 974) (by decide +kernel), List.mem_of_getElem? (i := 975) (by decide +kernel)⟩
theorem lw_p49 : lw_okq (⟨"TensorForge$NetworkReader", "readKernelFrom", "(ILTensorForge$Layer;)Z"⟩, 9) := ⟨⟨by decide +kernel, by decide +kernel⟩, List.mem_of_getElem? (i := 335) (by decide +kernel), List.mem_of_getElem? (i := 981) (by decide +kernel), List.mem_of_getElem? (i := 982) (by decide +kernel)⟩
theorem lw_p50 : lw_okq (⟨"TensorForge$Layer", "parametersSize", "(LTensorForge$Layer;)I"⟩, 15) := ⟨⟨by decide +kernel, by decide +kernel⟩, List.mem_of_getElem? (i := 44) (by decide +kernel), List.mem_of_getElem? (i := 1006) (by decide +kernel), List.mem_of_getElem? (i := 1007) (by decide +kernel)⟩
theorem lw_p51 : lw_okq (⟨"TensorForge$NetworkReader", "readInput", "()Z"⟩, 9) := ⟨⟨by decide +kernel, by decide +kernel⟩, List.mem_of_getElem? (i := 335) (by decide +kernel), List.mem_of_getElem? (i := 1019) (by decide +kernel), List.mem_of_getElem? (i := 1020) (by decide +kernel)⟩
theorem lw_p52 : lw_okq (⟨"TensorForge$NetworkReader", "keepName", "(I)V"⟩, 9) := ⟨⟨by decide +kernel, by decide +kernel⟩, List.mem_of_getElem? (i := 335) (by decide +kernel), List.mem_of_getElem? (i := 1037) (by decide +kernel), List.mem_of_getElem? (i := 1038) (by decide +kernel)⟩
theorem lw_p53 : lw_okq (⟨"java/lang/Throwable", "fillInStackTrace", "(I)Ljava/lang/Throwable;"⟩, 6) := ⟨⟨by decide +kernel, by decide +kernel⟩, List.mem_of_getElem? (i := 1088) (by decide +kernel), List.mem_of_getElem? (i := 1086) (by decide +kernel), List.mem_of_getElem? (i := 1087) (by decide +kernel)⟩
theorem lw_p54 : lw_okq (⟨"TensorForge$Line", "addToken", "(Ljava/lang/String;)V"⟩, 2) := ⟨⟨by decide +kernel, by decide +kernel⟩, List.mem_of_getElem? (i := 428) (by decide +kernel), List.mem_of_getElem? (i := 1259) (by decide +kernel), List.mem_of_getElem? (i := 1260) (by decide +kernel)⟩
theorem lw_p55 : lw_okq (⟨"TensorForge$Line", "addSign", "(C)V"⟩, 2) := ⟨⟨by decide +kernel, by decide +kernel⟩, List.mem_of_getElem? (i := 428) (by decide +kernel), List.mem_of_getElem? (i := 1263) (by decide +kernel), List.mem_of_getElem? (i := 1264) (by decide +kernel)⟩
theorem lw_p56 : lw_okq (⟨"TensorForge$Line", "addUnlessNothing", "(Ljava/lang/String;JI)V"⟩, 2) := ⟨⟨by decide +kernel, by decide +kernel⟩, List.mem_of_getElem? (i := 428) (by decide +kernel), List.mem_of_getElem? (i := 1270) (by decide +kernel), List.mem_of_getElem? (i := 1271) (by decide +kernel)⟩
theorem lw_p57 : lw_okq (⟨"TensorForge$Line", "addNumbered", "(Ljava/lang/String;I)V"⟩, 2) := ⟨⟨by decide +kernel, by decide +kernel⟩, List.mem_of_getElem? (i := 428) (by decide +kernel), List.mem_of_getElem? (i := 1275) (by decide +kernel), List.mem_of_getElem? (i := 1276) (by decide +kernel)⟩
theorem lw_p58 : lw_okq (⟨"TensorForge$Line", "addNumber", "(I)V"⟩, 2) := ⟨⟨by decide +kernel, by decide +kernel⟩, List.mem_of_getElem? (i := 428) (by decide +kernel), List.mem_of_getElem? (i := 1279) (by decide +kernel), List.mem_of_getElem? (i := 1280) (by decide +kernel)⟩
theorem lw_p59 : lw_okq (⟨"TensorForge$Line", "addPair", "(Ljava/lang/String;II)V"⟩, 2) := ⟨⟨by decide +kernel, by decide +kernel⟩, List.mem_of_getElem? (i := 428) (by decide +kernel), List.mem_of_getElem? (i := 1284) (by decide +kernel), List.mem_of_getElem? (i := 1285) (by decide +kernel)⟩
theorem lw_p60 : lw_okq (⟨"TensorForge$Line", "addIf", "(ZLjava/lang/String;)V"⟩, 2) := ⟨⟨by decide +kernel, by decide +kernel⟩, List.mem_of_getElem? (i := 428) (by decide +kernel), List.mem_of_getElem? (i := 1294) (by decide +kernel), List.mem_of_getElem? (i := 1295) (by decide +kernel)⟩
theorem lw_p61 : lw_okq (⟨"TensorForge", "needRun", "()V"⟩, 12) := ⟨⟨by decide +kernel, by decide +kernel⟩, List.mem_of_getElem? (i := 29) (by decide +kernel), List.mem_of_getElem? (i := 1321) (by decide +kernel), List.mem_of_getElem? (i := 1322) (by decide +kernel)⟩
theorem lw_p62 : lw_okq (⟨"TensorForge", "added", "()I"⟩, 12) := ⟨⟨by decide +kernel, by decide +kernel⟩, List.mem_of_getElem? (i := 29) (by decide +kernel), List.mem_of_getElem? (i := 1368) (by decide +kernel), List.mem_of_getElem? (i := 1369) (by decide +kernel)⟩
theorem lw_p63 : lw_okq (⟨"TensorForge$Compiler", "makeTile", "()V"⟩, 17) := ⟨⟨by decide +kernel, by decide +kernel⟩, List.mem_of_getElem? (i := 369) (by decide +kernel), List.mem_of_getElem? (i := 1417) (by decide +kernel), List.mem_of_getElem? (i := 1418) (by decide +kernel)⟩
def lw_privs_4 : List (MethodName × Nat) := [(⟨"TensorForge$NetworkReader", "beginsLineOrIsX", "()Z"⟩, 9), (⟨"TensorForge$NetworkReader", "readKernelFrom", "(ILTensorForge$Layer;)Z"⟩, 9), (⟨"TensorForge$Layer", "parametersSize", "(LTensorForge$Layer;)I"⟩, 15), (⟨"TensorForge$NetworkReader", "readInput", "()Z"⟩, 9), (⟨"TensorForge$NetworkReader", "keepName", "(I)V"⟩, 9), (⟨"java/lang/Throwable", "fillInStackTrace", "(I)Ljava/lang/Throwable;"⟩, 6), (⟨"TensorForge$Line", "addToken", "(Ljava/lang/String;)V"⟩, 2), (⟨"TensorForge$Line", "addSign", "(C)V"⟩, 2), (⟨"TensorForge$Line", "addUnlessNothing", "(Ljava/lang/String;JI)V"⟩, 2), (⟨"TensorForge$Line", "addNumbered", "(Ljava/lang/String;I)V"⟩, 2), (⟨"TensorForge$Line", "addNumber", "(I)V"⟩, 2), (⟨"TensorForge$Line", "addPair", "(Ljava/lang/String;II)V"⟩, 2), (⟨"TensorForge$Line", "addIf", "(ZLjava/lang/String;)V"⟩, 2), (⟨"TensorForge", "needRun", "()V"⟩, 12), (⟨"TensorForge", "added", "()I"⟩, 12), (⟨"TensorForge$Compiler", "makeTile", "()V"⟩, 17)]
theorem lw_r4 : ∀ q ∈ lw_privs_4, lw_okq q := List.forall_mem_cons.mpr ⟨lw_p48, List.forall_mem_cons.mpr ⟨lw_p49, List.forall_mem_cons.mpr ⟨lw_p50, List.forall_mem_cons.mpr ⟨lw_p51, List.forall_mem_cons.mpr ⟨lw_p52, List.forall_mem_cons.mpr ⟨lw_p53, List.forall_mem_cons.mpr ⟨lw_p54, List.forall_mem_cons.mpr ⟨lw_p55, List.forall_mem_cons.mpr ⟨lw_p56, List.forall_mem_cons.mpr ⟨lw_p57, List.forall_mem_cons.mpr ⟨lw_p58, List.forall_mem_cons.mpr ⟨lw_p59, List.forall_mem_cons.mpr ⟨lw_p60, List.forall_mem_cons.mpr ⟨lw_p61, List.forall_mem_cons.mpr ⟨lw_p62, List.forall_mem_cons.mpr ⟨lw_p63, fun _ h => absurd h List.not_mem_nil⟩⟩⟩⟩⟩⟩⟩⟩⟩⟩⟩⟩⟩⟩⟩⟩
theorem lw_p64 : lw_okq (⟨"TensorForge$Compiler", "makeGroup", "(ZZ)V"⟩, 17) := ⟨⟨by decide +kernel, by decide +kernel⟩, List.mem_of_getElem? (i := 369) (by decide +kernel), List.mem_of_getElem? (i := 1421) (by decide +kernel), List.mem_of_getElem? (i := 1422) (by decide +kernel)⟩
theorem lw_p65 : lw_okq (⟨"TensorForge$Compiler", "loadParameters", "(Z)V"⟩, 17) := ⟨⟨by decide +kernel, by decide +kernel⟩, List.mem_of_getElem? (i := 369) (by decide +kernel), List.mem_of_getElem? (i := 1425) (by decide +kernel), List.mem_of_getElem? (i := 1426) (by decide +kernel)⟩
theorem lw_p66 : lw_okq (⟨"TensorForge$Compiler", "tileHalf", "()I"⟩, 17) := ⟨⟨by decide +kernel, by decide +kernel⟩, List.mem_of_getElem? (i := 369) (by decide +kernel), List.mem_of_getElem? (i := 1432) (by decide +kernel), List.mem_of_getElem? (i := 1433) (by decide +kernel)⟩
theorem lw_p67 : lw_okq (⟨"TensorForge$Compiler", "emit", "(J)V"⟩, 17) := ⟨⟨by decide +kernel, by decide +kernel⟩, List.mem_of_getElem? (i := 369) (by decide +kernel), List.mem_of_getElem? (i := 1438) (by decide +kernel), List.mem_of_getElem? (i := 1439) (by decide +kernel)⟩
theorem lw_p68 : lw_okq (⟨"TensorForge$Compiler", "groupHalf", "()I"⟩, 17) := ⟨⟨by decide +kernel, by decide +kernel⟩, List.mem_of_getElem? (i := 369) (by decide +kernel), List.mem_of_getElem? (i := 1442) (by decide +kernel), List.mem_of_getElem? (i := 1443) (by decide +kernel)⟩
theorem lw_p69 : lw_okq (⟨"TensorForge$Compiler", "loadMet", "(I)V"⟩, 17) := ⟨⟨by decide +kernel, by decide +kernel⟩, List.mem_of_getElem? (i := 369) (by decide +kernel), List.mem_of_getElem? (i := 1447) (by decide +kernel), List.mem_of_getElem? (i := 1448) (by decide +kernel)⟩
theorem lw_p70 : lw_okq (⟨"TensorForge$Compiler", "clearPlaces", "(II)V"⟩, 17) := ⟨⟨by decide +kernel, by decide +kernel⟩, List.mem_of_getElem? (i := 369) (by decide +kernel), List.mem_of_getElem? (i := 1451) (by decide +kernel), List.mem_of_getElem? (i := 1452) (by decide +kernel)⟩
theorem lw_p71 : lw_okq (⟨"TensorForge$Compiler", "metColumn", "(I)I"⟩, 17) := ⟨⟨by decide +kernel, by decide +kernel⟩, List.mem_of_getElem? (i := 369) (by decide +kernel), List.mem_of_getElem? (i := 1455) (by decide +kernel), List.mem_of_getElem? (i := 1456) (by decide +kernel)⟩
theorem lw_p72 : lw_okq (⟨"TensorForge$Compiler", "loadPlaces", "(IIII)V"⟩, 17) := ⟨⟨by decide +kernel, by decide +kernel⟩, List.mem_of_getElem? (i := 369) (by decide +kernel), List.mem_of_getElem? (i := 1460) (by decide +kernel), List.mem_of_getElem? (i := 1461) (by decide +kernel)⟩
theorem lw_p73 : lw_okq (⟨"TensorForge$Compiler", "mark", "(II)V"⟩, 17) := ⟨⟨by decide +kernel, by decide +kernel⟩, List.mem_of_getElem? (i := 369) (by decide +kernel), List.mem_of_getElem? (i := 1464) (by decide +kernel), List.mem_of_getElem? (i := 1465) (by decide +kernel)⟩
theorem lw_p74 : lw_okq (⟨"TensorForge$Compiler", "workOf", "(Z)J"⟩, 17) := ⟨⟨by decide +kernel, by decide +kernel⟩, List.mem_of_getElem? (i := 369) (by decide +kernel), List.mem_of_getElem? (i := 1472) (by decide +kernel), List.mem_of_getElem? (i := 1473) (by decide +kernel)⟩
theorem lw_p75 : lw_okq (⟨"TensorForge$Compiler", "makeWaits", "()V"⟩, 17) := ⟨⟨by decide +kernel, by decide +kernel⟩, List.mem_of_getElem? (i := 369) (by decide +kernel), List.mem_of_getElem? (i := 1477) (by decide +kernel), List.mem_of_getElem? (i := 1478) (by decide +kernel)⟩
theorem lw_p76 : lw_okq (⟨"TensorForge$Line", "addOptions", "(LTensorForge$Layer;)V"⟩, 2) := ⟨⟨by decide +kernel, by decide +kernel⟩, List.mem_of_getElem? (i := 428) (by decide +kernel), List.mem_of_getElem? (i := 1499) (by decide +kernel), List.mem_of_getElem? (i := 1500) (by decide +kernel)⟩
theorem lw_p77 : lw_okq (⟨"TensorForge$Network", "leastSpot", "(I)I"⟩, 2) := ⟨⟨by decide +kernel, by decide +kernel⟩, List.mem_of_getElem? (i := 37) (by decide +kernel), List.mem_of_getElem? (i := 1517) (by decide +kernel), List.mem_of_getElem? (i := 1518) (by decide +kernel)⟩
theorem lw_p78 : lw_okq (⟨"TensorForge$Network", "isNeeded", "(II)Z"⟩, 2) := ⟨⟨by decide +kernel, by decide +kernel⟩, List.mem_of_getElem? (i := 37) (by decide +kernel), List.mem_of_getElem? (i := 1521) (by decide +kernel), List.mem_of_getElem? (i := 1522) (by decide +kernel)⟩
theorem lw_p79 : lw_okq (⟨"TensorForge", "needUnitAndCycle", "(II)V"⟩, 12) := ⟨⟨by decide +kernel, by decide +kernel⟩, List.mem_of_getElem? (i := 29) (by decide +kernel), List.mem_of_getElem? (i := 1542) (by decide +kernel), List.mem_of_getElem? (i := 1543) (by decide +kernel)⟩
def lw_privs_5 : List (MethodName × Nat) := [(⟨"TensorForge$Compiler", "makeGroup", "(ZZ)V"⟩, 17), (⟨"TensorForge$Compiler", "loadParameters", "(Z)V"⟩, 17), (⟨"TensorForge$Compiler", "tileHalf", "()I"⟩, 17), (⟨"TensorForge$Compiler", "emit", "(J)V"⟩, 17), (⟨"TensorForge$Compiler", "groupHalf", "()I"⟩, 17), (⟨"TensorForge$Compiler", "loadMet", "(I)V"⟩, 17), (⟨"TensorForge$Compiler", "clearPlaces", "(II)V"⟩, 17), (⟨"TensorForge$Compiler", "metColumn", "(I)I"⟩, 17), (⟨"TensorForge$Compiler", "loadPlaces", "(IIII)V"⟩, 17), (⟨"TensorForge$Compiler", "mark", "(II)V"⟩, 17), (⟨"TensorForge$Compiler", "workOf", "(Z)J"⟩, 17), (⟨"TensorForge$Compiler", "makeWaits", "()V"⟩, 17), (⟨"TensorForge$Line", "addOptions", "(LTensorForge$Layer;)V"⟩, 2), (⟨"TensorForge$Network", "leastSpot", "(I)I"⟩, 2), (⟨"TensorForge$Network", "isNeeded", "(II)Z"⟩, 2), (⟨"TensorForge", "needUnitAndCycle", "(II)V"⟩, 12)]
theorem lw_r5 : ∀ q ∈ lw_privs_5, lw_okq q := List.forall_mem_cons.mpr ⟨lw_p64, List.forall_mem_cons.mpr ⟨lw_p65, List.forall_mem_cons.mpr ⟨lw_p66, List.forall_mem_cons.mpr ⟨lw_p67, List.forall_mem_cons.mpr ⟨lw_p68, List.forall_mem_cons.mpr ⟨lw_p69, List.forall_mem_cons.mpr ⟨lw_p70, List.forall_mem_cons.mpr ⟨lw_p71, List.forall_mem_cons.mpr ⟨lw_p72, List.forall_mem_cons.mpr ⟨lw_p73, List.forall_mem_cons.mpr ⟨lw_p74, List.forall_mem_cons.mpr ⟨lw_p75, List.forall_mem_cons.mpr ⟨lw_p76, List.forall_mem_cons.mpr ⟨lw_p77, List.forall_mem_cons.mpr ⟨lw_p78, List.forall_mem_cons.mpr ⟨lw_p79, fun _ h => absurd h List.not_mem_nil⟩⟩⟩⟩⟩⟩⟩⟩⟩⟩⟩⟩⟩⟩⟩⟩
theorem lw_p80 : lw_okq (⟨"TensorForge$Run", "hadBegun", "(II)Z"⟩, 10) := ⟨⟨by decide +kernel, by decide +kernel⟩, List.mem_of_getElem? (i := 231) (by decide +kernel), List.mem_of_getElem? (i := 1551) (by decide +kernel), List.mem_of_getElem? (i := 1552) (by decide +kernel)⟩
theorem lw_p81 : lw_okq (⟨"TensorForge$Run", "hadEnded", "(II)Z"⟩, 10) := ⟨⟨by decide +kernel, by decide +kernel⟩, List.mem_of_getElem? (i := 231) (by decide +kernel), List.mem_of_getElem? (i := 1555) (by decide +kernel), List.mem_of_getElem? (i := 1556) (by decide +kernel)⟩
theorem lw_p82 : lw_okq (⟨"TensorForge$Run", "firstNotBegun", "(II)I"⟩, 10) := ⟨⟨by decide +kernel, by decide +kernel⟩, List.mem_of_getElem? (i := 231) (by decide +kernel), List.mem_of_getElem? (i := 1570) (by decide +kernel), List.mem_of_getElem? (i := 1571) (by decide +kernel)⟩
theorem lw_p83 : lw_okq (⟨"TensorForge$Run", "pushesUpTo", "(III)I"⟩, 10) := ⟨⟨by decide +kernel, by decide +kernel⟩, List.mem_of_getElem? (i := 231) (by decide +kernel), List.mem_of_getElem? (i := 1575) (by decide +kernel), List.mem_of_getElem? (i := 1576) (by decide +kernel)⟩
theorem lw_p84 : lw_okq (⟨"TensorForge$Run", "popsUpTo", "(III)I"⟩, 10) := ⟨⟨by decide +kernel, by decide +kernel⟩, List.mem_of_getElem? (i := 231) (by decide +kernel), List.mem_of_getElem? (i := 1579) (by decide +kernel), List.mem_of_getElem? (i := 1580) (by decide +kernel)⟩
theorem lw_p85 : lw_okq (⟨"TensorForgeModel", "form", "(III)V"⟩, 69) := ⟨⟨by decide +kernel, by decide +kernel⟩, List.mem_of_getElem? (i := 1583) (by decide +kernel), List.mem_of_getElem? (i := 1608) (by decide +kernel), List.mem_of_getElem? (i := 1609) (by decide +kernel)⟩
theorem lw_p86 : lw_okq (⟨"TensorForgeModel", "refuse", "(ZZZ)Z"⟩, 69) := ⟨⟨by decide +kernel, by decide +kernel⟩, List.mem_of_getElem? (i := 1583) (by decide +kernel), List.mem_of_getElem? (i := 1833) (by decide +kernel), List.mem_of_getElem? (i := 1834) (by decide +kernel)⟩
theorem lw_p87 : lw_okq (⟨"TensorForgeModel", "sizeOf", "(I)I"⟩, 69) := ⟨⟨by decide +kernel, by decide +kernel⟩, List.mem_of_getElem? (i := 1583) (by decide +kernel), List.mem_of_getElem? (i := 1837) (by decide +kernel), List.mem_of_getElem? (i := 1838) (by decide +kernel)⟩
theorem lw_p88 : lw_okq (⟨"TensorForgeModel", "isIllegal", "(J)Z"⟩, 69) := ⟨⟨by decide +kernel, by decide +kernel⟩, List.mem_of_getElem? (i := 1583) (by decide +kernel), List.mem_of_getElem? (i := 1888) (by decide +kernel), List.mem_of_getElem? (i := 1889) (by decide +kernel)⟩
theorem lw_p89 : lw_okq (⟨"TensorForgeModel", "take", "(J)V"⟩, 69) := ⟨⟨by decide +kernel, by decide +kernel⟩, List.mem_of_getElem? (i := 1583) (by decide +kernel), List.mem_of_getElem? (i := 1892) (by decide +kernel), List.mem_of_getElem? (i := 1893) (by decide +kernel)⟩
theorem lw_p90 : lw_okq (⟨"TensorForgeModel", "unit", "()I"⟩, 69) := ⟨⟨by decide +kernel, by decide +kernel⟩, List.mem_of_getElem? (i := 1583) (by decide +kernel), List.mem_of_getElem? (i := 1900) (by decide +kernel), List.mem_of_getElem? (i := 1901) (by decide +kernel)⟩
theorem lw_p91 : lw_okq (⟨"TensorForgeModel", "reaches", "()V"⟩, 69) := ⟨⟨by decide +kernel, by decide +kernel⟩, List.mem_of_getElem? (i := 1583) (by decide +kernel), List.mem_of_getElem? (i := 1904) (by decide +kernel), List.mem_of_getElem? (i := 1905) (by decide +kernel)⟩
theorem lw_p92 : lw_okq (⟨"TensorForgeModel", "reach", "([IIII)V"⟩, 69) := ⟨⟨by decide +kernel, by decide +kernel⟩, List.mem_of_getElem? (i := 1583) (by decide +kernel), List.mem_of_getElem? (i := 1908) (by decide +kernel), List.mem_of_getElem? (i := 1909) (by decide +kernel)⟩
theorem lw_p93 : lw_okq (⟨"TensorForgeModel", "rowsEnd", "(II)I"⟩, 69) := ⟨⟨by decide +kernel, by decide +kernel⟩, List.mem_of_getElem? (i := 1583) (by decide +kernel), List.mem_of_getElem? (i := 1912) (by decide +kernel), List.mem_of_getElem? (i := 1913) (by decide +kernel)⟩
theorem lw_p94 : lw_okq (⟨"TensorForgeModel", "firstIllegal", "()I"⟩, 69) := ⟨⟨by decide +kernel, by decide +kernel⟩, List.mem_of_getElem? (i := 1583) (by decide +kernel), List.mem_of_getElem? (i := 1920) (by decide +kernel), List.mem_of_getElem? (i := 1921) (by decide +kernel)⟩
theorem lw_p95 : lw_okq (⟨"TensorForgeModel", "startRun", "()V"⟩, 69) := ⟨⟨by decide +kernel, by decide +kernel⟩, List.mem_of_getElem? (i := 1583) (by decide +kernel), List.mem_of_getElem? (i := 1924) (by decide +kernel), List.mem_of_getElem? (i := 1925) (by decide +kernel)⟩
def lw_privs_6 : List (MethodName × Nat) := [(⟨"TensorForge$Run", "hadBegun", "(II)Z"⟩, 10), (⟨"TensorForge$Run", "hadEnded", "(II)Z"⟩, 10), (⟨"TensorForge$Run", "firstNotBegun", "(II)I"⟩, 10), (⟨"TensorForge$Run", "pushesUpTo", "(III)I"⟩, 10), (⟨"TensorForge$Run", "popsUpTo", "(III)I"⟩, 10), (⟨"TensorForgeModel", "form", "(III)V"⟩, 69), (⟨"TensorForgeModel", "refuse", "(ZZZ)Z"⟩, 69), (⟨"TensorForgeModel", "sizeOf", "(I)I"⟩, 69), (⟨"TensorForgeModel", "isIllegal", "(J)Z"⟩, 69), (⟨"TensorForgeModel", "take", "(J)V"⟩, 69), (⟨"TensorForgeModel", "unit", "()I"⟩, 69), (⟨"TensorForgeModel", "reaches", "()V"⟩, 69), (⟨"TensorForgeModel", "reach", "([IIII)V"⟩, 69), (⟨"TensorForgeModel", "rowsEnd", "(II)I"⟩, 69), (⟨"TensorForgeModel", "firstIllegal", "()I"⟩, 69), (⟨"TensorForgeModel", "startRun", "()V"⟩, 69)]
theorem lw_r6 : ∀ q ∈ lw_privs_6, lw_okq q := List.forall_mem_cons.mpr ⟨lw_p80, List.forall_mem_cons.mpr ⟨lw_p81, List.forall_mem_cons.mpr ⟨lw_p82, List.forall_mem_cons.mpr ⟨lw_p83, List.forall_mem_cons.mpr ⟨lw_p84, List.forall_mem_cons.mpr ⟨lw_p85, List.forall_mem_cons.mpr ⟨lw_p86, List.forall_mem_cons.mpr ⟨lw_p87, List.forall_mem_cons.mpr ⟨lw_p88, List.forall_mem_cons.mpr ⟨lw_p89, List.forall_mem_cons.mpr ⟨lw_p90, List.forall_mem_cons.mpr ⟨lw_p91, List.forall_mem_cons.mpr ⟨lw_p92, List.forall_mem_cons.mpr ⟨lw_p93, List.forall_mem_cons.mpr ⟨lw_p94, List.forall_mem_cons.mpr ⟨lw_p95, fun _ h => absurd h List.not_mem_nil⟩⟩⟩⟩⟩⟩⟩⟩⟩⟩⟩⟩⟩⟩⟩⟩
theorem lw_p96 : lw_okq (⟨"TensorForgeModel", "findNext", "(I)V"⟩, 69) := ⟨⟨by decide +kernel, by decide +kernel⟩, List.mem_of_getElem? (i := 1583) (by decide +kernel), List.mem_of_getElem? (i := 1928) (by decide +kernel), List.mem_of_getElem? (i := 1929) (by decide +kernel)⟩
theorem lw_p97 : lw_okq (⟨"TensorForgeModel", "stop", "(III)I"⟩, 69) := ⟨⟨by decide +kernel, by decide +kernel⟩, List.mem_of_getElem? (i := 1583) (by decide +kernel), List.mem_of_getElem? (i := 1932) (by decide +kernel), List.mem_of_getElem? (i := 1933) (by decide +kernel)⟩
theorem lw_p98 : lw_okq (⟨"TensorForgeModel", "cycle", "(I)I"⟩, 69) := ⟨⟨by decide +kernel, by decide +kernel⟩, List.mem_of_getElem? (i := 1583) (by decide +kernel), List.mem_of_getElem? (i := 1936) (by decide +kernel), List.mem_of_getElem? (i := 1937) (by decide +kernel)⟩
theorem lw_p99 : lw_okq (⟨"TensorForgeModel", "pushAll", "(I)V"⟩, 69) := ⟨⟨by decide +kernel, by decide +kernel⟩, List.mem_of_getElem? (i := 1583) (by decide +kernel), List.mem_of_getElem? (i := 1940) (by decide +kernel), List.mem_of_getElem? (i := 1941) (by decide +kernel)⟩
theorem lw_p100 : lw_okq (⟨"TensorForgeModel", "isBusy", "(II)Z"⟩, 69) := ⟨⟨by decide +kernel, by decide +kernel⟩, List.mem_of_getElem? (i := 1583) (by decide +kernel), List.mem_of_getElem? (i := 1947) (by decide +kernel), List.mem_of_getElem? (i := 1948) (by decide +kernel)⟩
theorem lw_p101 : lw_okq (⟨"TensorForgeModel", "hasTokens", "(I)Z"⟩, 69) := ⟨⟨by decide +kernel, by decide +kernel⟩, List.mem_of_getElem? (i := 1583) (by decide +kernel), List.mem_of_getElem? (i := 1951) (by decide +kernel), List.mem_of_getElem? (i := 1952) (by decide +kernel)⟩
theorem lw_p102 : lw_okq (⟨"TensorForgeModel", "races", "(II)Z"⟩, 69) := ⟨⟨by decide +kernel, by decide +kernel⟩, List.mem_of_getElem? (i := 1583) (by decide +kernel), List.mem_of_getElem? (i := 1958) (by decide +kernel), List.mem_of_getElem? (i := 1959) (by decide +kernel)⟩
theorem lw_p103 : lw_okq (⟨"TensorForgeModel", "beginNext", "(II)V"⟩, 69) := ⟨⟨by decide +kernel, by decide +kernel⟩, List.mem_of_getElem? (i := 1583) (by decide +kernel), List.mem_of_getElem? (i := 1965) (by decide +kernel), List.mem_of_getElem? (i := 1966) (by decide +kernel)⟩
theorem lw_p104 : lw_okq (⟨"TensorForgeModel", "cycles", "()I"⟩, 69) := ⟨⟨by decide +kernel, by decide +kernel⟩, List.mem_of_getElem? (i := 1583) (by decide +kernel), List.mem_of_getElem? (i := 1969) (by decide +kernel), List.mem_of_getElem? (i := 1970) (by decide +kernel)⟩
theorem lw_p105 : lw_okq (⟨"TensorForgeModel", "doWord", "()V"⟩, 69) := ⟨⟨by decide +kernel, by decide +kernel⟩, List.mem_of_getElem? (i := 1583) (by decide +kernel), List.mem_of_getElem? (i := 1973) (by decide +kernel), List.mem_of_getElem? (i := 1974) (by decide +kernel)⟩
theorem lw_p106 : lw_okq (⟨"TensorForgeModel", "doPlace", "(II)V"⟩, 69) := ⟨⟨by decide +kernel, by decide +kernel⟩, List.mem_of_getElem? (i := 1583) (by decide +kernel), List.mem_of_getElem? (i := 1977) (by decide +kernel), List.mem_of_getElem? (i := 1978) (by decide +kernel)⟩
theorem lw_p107 : lw_okq (⟨"TensorForgeModel", "intAt", "(I)I"⟩, 69) := ⟨⟨by decide +kernel, by decide +kernel⟩, List.mem_of_getElem? (i := 1583) (by decide +kernel), List.mem_of_getElem? (i := 1981) (by decide +kernel), List.mem_of_getElem? (i := 1982) (by decide +kernel)⟩
theorem lw_p108 : lw_okq (⟨"TensorForgeModel", "readLine", "()I"⟩, 69) := ⟨⟨by decide +kernel, by decide +kernel⟩, List.mem_of_getElem? (i := 1583) (by decide +kernel), List.mem_of_getElem? (i := 2012) (by decide +kernel), List.mem_of_getElem? (i := 2013) (by decide +kernel)⟩
theorem lw_p109 : lw_okq (⟨"TensorForgeModel", "advance", "()V"⟩, 69) := ⟨⟨by decide +kernel, by decide +kernel⟩, List.mem_of_getElem? (i := 1583) (by decide +kernel), List.mem_of_getElem? (i := 2016) (by decide +kernel), List.mem_of_getElem? (i := 2017) (by decide +kernel)⟩
theorem lw_p110 : lw_okq (⟨"TensorForgeModel", "wordAt", "(II)I"⟩, 69) := ⟨⟨by decide +kernel, by decide +kernel⟩, List.mem_of_getElem? (i := 1583) (by decide +kernel), List.mem_of_getElem? (i := 2022) (by decide +kernel), List.mem_of_getElem? (i := 2023) (by decide +kernel)⟩
theorem lw_p111 : lw_okq (⟨"TensorForgeModel", "part", "()I"⟩, 69) := ⟨⟨by decide +kernel, by decide +kernel⟩, List.mem_of_getElem? (i := 1583) (by decide +kernel), List.mem_of_getElem? (i := 2029) (by decide +kernel), List.mem_of_getElem? (i := 2030) (by decide +kernel)⟩
def lw_privs_7 : List (MethodName × Nat) := [(⟨"TensorForgeModel", "findNext", "(I)V"⟩, 69), (⟨"TensorForgeModel", "stop", "(III)I"⟩, 69), (⟨"TensorForgeModel", "cycle", "(I)I"⟩, 69), (⟨"TensorForgeModel", "pushAll", "(I)V"⟩, 69), (⟨"TensorForgeModel", "isBusy", "(II)Z"⟩, 69), (⟨"TensorForgeModel", "hasTokens", "(I)Z"⟩, 69), (⟨"TensorForgeModel", "races", "(II)Z"⟩, 69), (⟨"TensorForgeModel", "beginNext", "(II)V"⟩, 69), (⟨"TensorForgeModel", "cycles", "()I"⟩, 69), (⟨"TensorForgeModel", "doWord", "()V"⟩, 69), (⟨"TensorForgeModel", "doPlace", "(II)V"⟩, 69), (⟨"TensorForgeModel", "intAt", "(I)I"⟩, 69), (⟨"TensorForgeModel", "readLine", "()I"⟩, 69), (⟨"TensorForgeModel", "advance", "()V"⟩, 69), (⟨"TensorForgeModel", "wordAt", "(II)I"⟩, 69), (⟨"TensorForgeModel", "part", "()I"⟩, 69)]
theorem lw_r7 : ∀ q ∈ lw_privs_7, lw_okq q := List.forall_mem_cons.mpr ⟨lw_p96, List.forall_mem_cons.mpr ⟨lw_p97, List.forall_mem_cons.mpr ⟨lw_p98, List.forall_mem_cons.mpr ⟨lw_p99, List.forall_mem_cons.mpr ⟨lw_p100, List.forall_mem_cons.mpr ⟨lw_p101, List.forall_mem_cons.mpr ⟨lw_p102, List.forall_mem_cons.mpr ⟨lw_p103, List.forall_mem_cons.mpr ⟨lw_p104, List.forall_mem_cons.mpr ⟨lw_p105, List.forall_mem_cons.mpr ⟨lw_p106, List.forall_mem_cons.mpr ⟨lw_p107, List.forall_mem_cons.mpr ⟨lw_p108, List.forall_mem_cons.mpr ⟨lw_p109, List.forall_mem_cons.mpr ⟨lw_p110, List.forall_mem_cons.mpr ⟨lw_p111, fun _ h => absurd h List.not_mem_nil⟩⟩⟩⟩⟩⟩⟩⟩⟩⟩⟩⟩⟩⟩⟩⟩
theorem lw_p112 : lw_okq (⟨"TensorForgeModel", "setNumber", "(I)Z"⟩, 69) := ⟨⟨by decide +kernel, by decide +kernel⟩, List.mem_of_getElem? (i := 1583) (by decide +kernel), List.mem_of_getElem? (i := 2033) (by decide +kernel), List.mem_of_getElem? (i := 2034) (by decide +kernel)⟩
theorem lw_p113 : lw_okq (⟨"TensorForgeModel", "wordOfFields", "()J"⟩, 69) := ⟨⟨by decide +kernel, by decide +kernel⟩, List.mem_of_getElem? (i := 1583) (by decide +kernel), List.mem_of_getElem? (i := 2039) (by decide +kernel), List.mem_of_getElem? (i := 2040) (by decide +kernel)⟩
theorem lw_p114 : lw_okq (⟨"TensorForgeModel", "takeMade", "()V"⟩, 69) := ⟨⟨by decide +kernel, by decide +kernel⟩, List.mem_of_getElem? (i := 1583) (by decide +kernel), List.mem_of_getElem? (i := 2043) (by decide +kernel), List.mem_of_getElem? (i := 2044) (by decide +kernel)⟩
theorem lw_p115 : lw_okq (⟨"TensorForgeModel", "sayWord", "(I)V"⟩, 69) := ⟨⟨by decide +kernel, by decide +kernel⟩, List.mem_of_getElem? (i := 1583) (by decide +kernel), List.mem_of_getElem? (i := 2051) (by decide +kernel), List.mem_of_getElem? (i := 2052) (by decide +kernel)⟩
theorem lw_p116 : lw_okq (⟨"TensorForgeModel", "say", "(J)V"⟩, 69) := ⟨⟨by decide +kernel, by decide +kernel⟩, List.mem_of_getElem? (i := 1583) (by decide +kernel), List.mem_of_getElem? (i := 2055) (by decide +kernel), List.mem_of_getElem? (i := 2056) (by decide +kernel)⟩
theorem lw_p117 : lw_okq (⟨"TensorForgeModel", "sayField", "(II)V"⟩, 69) := ⟨⟨by decide +kernel, by decide +kernel⟩, List.mem_of_getElem? (i := 1583) (by decide +kernel), List.mem_of_getElem? (i := 2061) (by decide +kernel), List.mem_of_getElem? (i := 2062) (by decide +kernel)⟩
theorem lw_p118 : lw_okq (⟨"TensorForgeModel", "sayNumber", "(I)V"⟩, 69) := ⟨⟨by decide +kernel, by decide +kernel⟩, List.mem_of_getElem? (i := 1583) (by decide +kernel), List.mem_of_getElem? (i := 2065) (by decide +kernel), List.mem_of_getElem? (i := 2066) (by decide +kernel)⟩
theorem lw_p119 : lw_okq (⟨"TensorForgeModel", "sayFlag", "(I)V"⟩, 69) := ⟨⟨by decide +kernel, by decide +kernel⟩, List.mem_of_getElem? (i := 1583) (by decide +kernel), List.mem_of_getElem? (i := 2069) (by decide +kernel), List.mem_of_getElem? (i := 2070) (by decide +kernel)⟩
theorem lw_p120 : lw_okq (⟨"TensorForgeModel", "isTensor", "(I)Z"⟩, 69) := ⟨⟨by decide +kernel, by decide +kernel⟩, List.mem_of_getElem? (i := 1583) (by decide +kernel), List.mem_of_getElem? (i := 2083) (by decide +kernel), List.mem_of_getElem? (i := 2084) (by decide +kernel)⟩
theorem lw_p121 : lw_okq (⟨"TensorForgeModel", "add", "(IIIII)I"⟩, 69) := ⟨⟨by decide +kernel, by decide +kernel⟩, List.mem_of_getElem? (i := 1583) (by decide +kernel), List.mem_of_getElem? (i := 2094) (by decide +kernel), List.mem_of_getElem? (i := 2095) (by decide +kernel)⟩
theorem lw_p122 : lw_okq (⟨"TensorForgeModel", "setLayer", "(IIIIII)V"⟩, 69) := ⟨⟨by decide +kernel, by decide +kernel⟩, List.mem_of_getElem? (i := 1583) (by decide +kernel), List.mem_of_getElem? (i := 2098) (by decide +kernel), List.mem_of_getElem? (i := 2099) (by decide +kernel)⟩
theorem lw_p123 : lw_okq (⟨"TensorForgeModel", "convolved", "(IIII)I"⟩, 69) := ⟨⟨by decide +kernel, by decide +kernel⟩, List.mem_of_getElem? (i := 1583) (by decide +kernel), List.mem_of_getElem? (i := 2118) (by decide +kernel), List.mem_of_getElem? (i := 2119) (by decide +kernel)⟩
theorem lw_p124 : lw_okq (⟨"TensorForgeModel", "isThere", "(III)Z"⟩, 69) := ⟨⟨by decide +kernel, by decide +kernel⟩, List.mem_of_getElem? (i := 1583) (by decide +kernel), List.mem_of_getElem? (i := 2122) (by decide +kernel), List.mem_of_getElem? (i := 2123) (by decide +kernel)⟩
theorem lw_p125 : lw_okq (⟨"TensorForgeModel", "cellAt", "(IIII)I"⟩, 69) := ⟨⟨by decide +kernel, by decide +kernel⟩, List.mem_of_getElem? (i := 1583) (by decide +kernel), List.mem_of_getElem? (i := 2126) (by decide +kernel), List.mem_of_getElem? (i := 2127) (by decide +kernel)⟩
theorem lw_p126 : lw_okq (⟨"TensorForgeModel", "pooled", "(IIII)I"⟩, 69) := ⟨⟨by decide +kernel, by decide +kernel⟩, List.mem_of_getElem? (i := 1583) (by decide +kernel), List.mem_of_getElem? (i := 2130) (by decide +kernel), List.mem_of_getElem? (i := 2131) (by decide +kernel)⟩
theorem lw_p127 : lw_okq (⟨"TensorForgeModel", "layer", "(I)V"⟩, 69) := ⟨⟨by decide +kernel, by decide +kernel⟩, List.mem_of_getElem? (i := 1583) (by decide +kernel), List.mem_of_getElem? (i := 2138) (by decide +kernel), List.mem_of_getElem? (i := 2139) (by decide +kernel)⟩
def lw_privs_8 : List (MethodName × Nat) := [(⟨"TensorForgeModel", "setNumber", "(I)Z"⟩, 69), (⟨"TensorForgeModel", "wordOfFields", "()J"⟩, 69), (⟨"TensorForgeModel", "takeMade", "()V"⟩, 69), (⟨"TensorForgeModel", "sayWord", "(I)V"⟩, 69), (⟨"TensorForgeModel", "say", "(J)V"⟩, 69), (⟨"TensorForgeModel", "sayField", "(II)V"⟩, 69), (⟨"TensorForgeModel", "sayNumber", "(I)V"⟩, 69), (⟨"TensorForgeModel", "sayFlag", "(I)V"⟩, 69), (⟨"TensorForgeModel", "isTensor", "(I)Z"⟩, 69), (⟨"TensorForgeModel", "add", "(IIIII)I"⟩, 69), (⟨"TensorForgeModel", "setLayer", "(IIIIII)V"⟩, 69), (⟨"TensorForgeModel", "convolved", "(IIII)I"⟩, 69), (⟨"TensorForgeModel", "isThere", "(III)Z"⟩, 69), (⟨"TensorForgeModel", "cellAt", "(IIII)I"⟩, 69), (⟨"TensorForgeModel", "pooled", "(IIII)I"⟩, 69), (⟨"TensorForgeModel", "layer", "(I)V"⟩, 69)]
theorem lw_r8 : ∀ q ∈ lw_privs_8, lw_okq q := List.forall_mem_cons.mpr ⟨lw_p112, List.forall_mem_cons.mpr ⟨lw_p113, List.forall_mem_cons.mpr ⟨lw_p114, List.forall_mem_cons.mpr ⟨lw_p115, List.forall_mem_cons.mpr ⟨lw_p116, List.forall_mem_cons.mpr ⟨lw_p117, List.forall_mem_cons.mpr ⟨lw_p118, List.forall_mem_cons.mpr ⟨lw_p119, List.forall_mem_cons.mpr ⟨lw_p120, List.forall_mem_cons.mpr ⟨lw_p121, List.forall_mem_cons.mpr ⟨lw_p122, List.forall_mem_cons.mpr ⟨lw_p123, List.forall_mem_cons.mpr ⟨lw_p124, List.forall_mem_cons.mpr ⟨lw_p125, List.forall_mem_cons.mpr ⟨lw_p126, List.forall_mem_cons.mpr ⟨lw_p127, fun _ h => absurd h List.not_mem_nil⟩⟩⟩⟩⟩⟩⟩⟩⟩⟩⟩⟩⟩⟩⟩⟩
theorem lw_p128 : lw_okq (⟨"TensorForgeModel", "tile", "(I)V"⟩, 69) := ⟨⟨by decide +kernel, by decide +kernel⟩, List.mem_of_getElem? (i := 1583) (by decide +kernel), List.mem_of_getElem? (i := 2145) (by decide +kernel), List.mem_of_getElem? (i := 2146) (by decide +kernel)⟩
theorem lw_p129 : lw_okq (⟨"TensorForgeModel", "group", "(IIIIIZ)V"⟩, 69) := ⟨⟨by decide +kernel, by decide +kernel⟩, List.mem_of_getElem? (i := 1583) (by decide +kernel), List.mem_of_getElem? (i := 2149) (by decide +kernel), List.mem_of_getElem? (i := 2150) (by decide +kernel)⟩
theorem lw_p130 : lw_okq (⟨"TensorForgeModel", "groupLoads", "(IIIIIZZ)V"⟩, 69) := ⟨⟨by decide +kernel, by decide +kernel⟩, List.mem_of_getElem? (i := 1583) (by decide +kernel), List.mem_of_getElem? (i := 2153) (by decide +kernel), List.mem_of_getElem? (i := 2154) (by decide +kernel)⟩
theorem lw_p131 : lw_okq (⟨"TensorForgeModel", "set", "(IIII)V"⟩, 69) := ⟨⟨by decide +kernel, by decide +kernel⟩, List.mem_of_getElem? (i := 1583) (by decide +kernel), List.mem_of_getElem? (i := 2157) (by decide +kernel), List.mem_of_getElem? (i := 2158) (by decide +kernel)⟩
theorem lw_p132 : lw_okq (⟨"TensorForgeModel", "quarter", "()I"⟩, 69) := ⟨⟨by decide +kernel, by decide +kernel⟩, List.mem_of_getElem? (i := 1583) (by decide +kernel), List.mem_of_getElem? (i := 2161) (by decide +kernel), List.mem_of_getElem? (i := 2162) (by decide +kernel)⟩
theorem lw_p133 : lw_okq (⟨"TensorForgeModel", "with", "(IIII)V"⟩, 69) := ⟨⟨by decide +kernel, by decide +kernel⟩, List.mem_of_getElem? (i := 1583) (by decide +kernel), List.mem_of_getElem? (i := 2165) (by decide +kernel), List.mem_of_getElem? (i := 2166) (by decide +kernel)⟩
theorem lw_p134 : lw_okq (⟨"TensorForgeModel", "load", "(Z)V"⟩, 69) := ⟨⟨by decide +kernel, by decide +kernel⟩, List.mem_of_getElem? (i := 1583) (by decide +kernel), List.mem_of_getElem? (i := 2169) (by decide +kernel), List.mem_of_getElem? (i := 2170) (by decide +kernel)⟩
theorem lw_p135 : lw_okq (⟨"TensorForgeModel", "emit", "(I)V"⟩, 69) := ⟨⟨by decide +kernel, by decide +kernel⟩, List.mem_of_getElem? (i := 1583) (by decide +kernel), List.mem_of_getElem? (i := 2173) (by decide +kernel), List.mem_of_getElem? (i := 2174) (by decide +kernel)⟩
theorem lw_p136 : lw_okq (⟨"TensorForgeModel", "half", "()I"⟩, 69) := ⟨⟨by decide +kernel, by decide +kernel⟩, List.mem_of_getElem? (i := 1583) (by decide +kernel), List.mem_of_getElem? (i := 2177) (by decide +kernel), List.mem_of_getElem? (i := 2178) (by decide +kernel)⟩
theorem lw_p137 : lw_okq (⟨"TensorForgeModel", "works", "(IIZZ)V"⟩, 69) := ⟨⟨by decide +kernel, by decide +kernel⟩, List.mem_of_getElem? (i := 1583) (by decide +kernel), List.mem_of_getElem? (i := 2181) (by decide +kernel), List.mem_of_getElem? (i := 2182) (by decide +kernel)⟩
theorem lw_p138 : lw_okq (⟨"TensorForgeModel", "keepNetwork", "(Z)V"⟩, 69) := ⟨⟨by decide +kernel, by decide +kernel⟩, List.mem_of_getElem? (i := 1583) (by decide +kernel), List.mem_of_getElem? (i := 2189) (by decide +kernel), List.mem_of_getElem? (i := 2190) (by decide +kernel)⟩
theorem lw_p139 : lw_okq (⟨"TensorForgeModel", "keepRow", "([IIIZ)V"⟩, 69) := ⟨⟨by decide +kernel, by decide +kernel⟩, List.mem_of_getElem? (i := 1583) (by decide +kernel), List.mem_of_getElem? (i := 2193) (by decide +kernel), List.mem_of_getElem? (i := 2194) (by decide +kernel)⟩
theorem lw_p140 : lw_okq (⟨"TensorForgeModel", "advanceNet", "()V"⟩, 69) := ⟨⟨by decide +kernel, by decide +kernel⟩, List.mem_of_getElem? (i := 1583) (by decide +kernel), List.mem_of_getElem? (i := 2197) (by decide +kernel), List.mem_of_getElem? (i := 2198) (by decide +kernel)⟩
theorem lw_p141 : lw_okq (⟨"TensorForgeModel", "readLayer", "()Z"⟩, 69) := ⟨⟨by decide +kernel, by decide +kernel⟩, List.mem_of_getElem? (i := 1583) (by decide +kernel), List.mem_of_getElem? (i := 2201) (by decide +kernel), List.mem_of_getElem? (i := 2202) (by decide +kernel)⟩
theorem lw_p142 : lw_okq (⟨"TensorForgeModel", "isWord", "(J)Z"⟩, 69) := ⟨⟨by decide +kernel, by decide +kernel⟩, List.mem_of_getElem? (i := 1583) (by decide +kernel), List.mem_of_getElem? (i := 2206) (by decide +kernel), List.mem_of_getElem? (i := 2207) (by decide +kernel)⟩
theorem lw_p143 : lw_okq (⟨"TensorForgeModel", "takeTensor", "()I"⟩, 69) := ⟨⟨by decide +kernel, by decide +kernel⟩, List.mem_of_getElem? (i := 1583) (by decide +kernel), List.mem_of_getElem? (i := 2212) (by decide +kernel), List.mem_of_getElem? (i := 2213) (by decide +kernel)⟩
def lw_privs_9 : List (MethodName × Nat) := [(⟨"TensorForgeModel", "tile", "(I)V"⟩, 69), (⟨"TensorForgeModel", "group", "(IIIIIZ)V"⟩, 69), (⟨"TensorForgeModel", "groupLoads", "(IIIIIZZ)V"⟩, 69), (⟨"TensorForgeModel", "set", "(IIII)V"⟩, 69), (⟨"TensorForgeModel", "quarter", "()I"⟩, 69), (⟨"TensorForgeModel", "with", "(IIII)V"⟩, 69), (⟨"TensorForgeModel", "load", "(Z)V"⟩, 69), (⟨"TensorForgeModel", "emit", "(I)V"⟩, 69), (⟨"TensorForgeModel", "half", "()I"⟩, 69), (⟨"TensorForgeModel", "works", "(IIZZ)V"⟩, 69), (⟨"TensorForgeModel", "keepNetwork", "(Z)V"⟩, 69), (⟨"TensorForgeModel", "keepRow", "([IIIZ)V"⟩, 69), (⟨"TensorForgeModel", "advanceNet", "()V"⟩, 69), (⟨"TensorForgeModel", "readLayer", "()Z"⟩, 69), (⟨"TensorForgeModel", "isWord", "(J)Z"⟩, 69), (⟨"TensorForgeModel", "takeTensor", "()I"⟩, 69)]
theorem lw_r9 : ∀ q ∈ lw_privs_9, lw_okq q := List.forall_mem_cons.mpr ⟨lw_p128, List.forall_mem_cons.mpr ⟨lw_p129, List.forall_mem_cons.mpr ⟨lw_p130, List.forall_mem_cons.mpr ⟨lw_p131, List.forall_mem_cons.mpr ⟨lw_p132, List.forall_mem_cons.mpr ⟨lw_p133, List.forall_mem_cons.mpr ⟨lw_p134, List.forall_mem_cons.mpr ⟨lw_p135, List.forall_mem_cons.mpr ⟨lw_p136, List.forall_mem_cons.mpr ⟨lw_p137, List.forall_mem_cons.mpr ⟨lw_p138, List.forall_mem_cons.mpr ⟨lw_p139, List.forall_mem_cons.mpr ⟨lw_p140, List.forall_mem_cons.mpr ⟨lw_p141, List.forall_mem_cons.mpr ⟨lw_p142, List.forall_mem_cons.mpr ⟨lw_p143, fun _ h => absurd h List.not_mem_nil⟩⟩⟩⟩⟩⟩⟩⟩⟩⟩⟩⟩⟩⟩⟩⟩
theorem lw_p144 : lw_okq (⟨"TensorForgeModel", "named", "(J)I"⟩, 69) := ⟨⟨by decide +kernel, by decide +kernel⟩, List.mem_of_getElem? (i := 1583) (by decide +kernel), List.mem_of_getElem? (i := 2216) (by decide +kernel), List.mem_of_getElem? (i := 2217) (by decide +kernel)⟩
theorem lw_p145 : lw_okq (⟨"TensorForgeModel", "takeParts", "(I)Z"⟩, 69) := ⟨⟨by decide +kernel, by decide +kernel⟩, List.mem_of_getElem? (i := 1583) (by decide +kernel), List.mem_of_getElem? (i := 2220) (by decide +kernel), List.mem_of_getElem? (i := 2221) (by decide +kernel)⟩
theorem lw_p146 : lw_okq (⟨"TensorForgeModel", "partOf", "()I"⟩, 69) := ⟨⟨by decide +kernel, by decide +kernel⟩, List.mem_of_getElem? (i := 1583) (by decide +kernel), List.mem_of_getElem? (i := 2224) (by decide +kernel), List.mem_of_getElem? (i := 2225) (by decide +kernel)⟩
theorem lw_p147 : lw_okq (⟨"TensorForgeModel", "takePart", "(I)Z"⟩, 69) := ⟨⟨by decide +kernel, by decide +kernel⟩, List.mem_of_getElem? (i := 1583) (by decide +kernel), List.mem_of_getElem? (i := 2233) (by decide +kernel), List.mem_of_getElem? (i := 2234) (by decide +kernel)⟩
theorem lw_p148 : lw_okq (⟨"TensorForgeModel", "takeNet", "(I)Z"⟩, 69) := ⟨⟨by decide +kernel, by decide +kernel⟩, List.mem_of_getElem? (i := 1583) (by decide +kernel), List.mem_of_getElem? (i := 2237) (by decide +kernel), List.mem_of_getElem? (i := 2238) (by decide +kernel)⟩
theorem lw_p149 : lw_okq (⟨"TensorForgeModel", "takeX", "()Z"⟩, 69) := ⟨⟨by decide +kernel, by decide +kernel⟩, List.mem_of_getElem? (i := 1583) (by decide +kernel), List.mem_of_getElem? (i := 2241) (by decide +kernel), List.mem_of_getElem? (i := 2242) (by decide +kernel)⟩
theorem lw_p150 : lw_okq (⟨"TensorForgeModel", "isKeyword", "(J)Z"⟩, 69) := ⟨⟨by decide +kernel, by decide +kernel⟩, List.mem_of_getElem? (i := 1583) (by decide +kernel), List.mem_of_getElem? (i := 2245) (by decide +kernel), List.mem_of_getElem? (i := 2246) (by decide +kernel)⟩
theorem lw_p151 : lw_okq (⟨"TensorForgeModel", "readInput", "()Z"⟩, 69) := ⟨⟨by decide +kernel, by decide +kernel⟩, List.mem_of_getElem? (i := 1583) (by decide +kernel), List.mem_of_getElem? (i := 2253) (by decide +kernel), List.mem_of_getElem? (i := 2254) (by decide +kernel)⟩
theorem lw_p152 : lw_okq (⟨"TensorForgeModel", "sayCode", "(J)V"⟩, 69) := ⟨⟨by decide +kernel, by decide +kernel⟩, List.mem_of_getElem? (i := 1583) (by decide +kernel), List.mem_of_getElem? (i := 2262) (by decide +kernel), List.mem_of_getElem? (i := 2263) (by decide +kernel)⟩
theorem lw_p153 : lw_okq (⟨"TensorForgeModel", "sayCount", "(I)V"⟩, 69) := ⟨⟨by decide +kernel, by decide +kernel⟩, List.mem_of_getElem? (i := 1583) (by decide +kernel), List.mem_of_getElem? (i := 2266) (by decide +kernel), List.mem_of_getElem? (i := 2267) (by decide +kernel)⟩
theorem lw_p154 : lw_okq (⟨"TensorForgeModel", "sayLayer", "(I)V"⟩, 69) := ⟨⟨by decide +kernel, by decide +kernel⟩, List.mem_of_getElem? (i := 1583) (by decide +kernel), List.mem_of_getElem? (i := 2270) (by decide +kernel), List.mem_of_getElem? (i := 2271) (by decide +kernel)⟩
theorem lw_p155 : lw_okq (⟨"TensorForgeModel", "placeAll", "()I"⟩, 69) := ⟨⟨by decide +kernel, by decide +kernel⟩, List.mem_of_getElem? (i := 1583) (by decide +kernel), List.mem_of_getElem? (i := 2278) (by decide +kernel), List.mem_of_getElem? (i := 2279) (by decide +kernel)⟩
theorem lw_p156 : lw_okq (⟨"TensorForgeModel", "meets", "(II)Z"⟩, 69) := ⟨⟨by decide +kernel, by decide +kernel⟩, List.mem_of_getElem? (i := 1583) (by decide +kernel), List.mem_of_getElem? (i := 2282) (by decide +kernel), List.mem_of_getElem? (i := 2283) (by decide +kernel)⟩
theorem lw_p157 : lw_okq (⟨"TensorForgeModel", "isNeeded", "(II)Z"⟩, 69) := ⟨⟨by decide +kernel, by decide +kernel⟩, List.mem_of_getElem? (i := 1583) (by decide +kernel), List.mem_of_getElem? (i := 2286) (by decide +kernel), List.mem_of_getElem? (i := 2287) (by decide +kernel)⟩
theorem lw_p158 : lw_okq (⟨"TensorForgeModel", "takes", "(II)Z"⟩, 69) := ⟨⟨by decide +kernel, by decide +kernel⟩, List.mem_of_getElem? (i := 1583) (by decide +kernel), List.mem_of_getElem? (i := 2290) (by decide +kernel), List.mem_of_getElem? (i := 2291) (by decide +kernel)⟩
theorem lw_p159 : lw_okq (⟨"TensorForgeModel", "isToldOfRun", "(II)Z"⟩, 69) := ⟨⟨by decide +kernel, by decide +kernel⟩, List.mem_of_getElem? (i := 1583) (by decide +kernel), List.mem_of_getElem? (i := 2298) (by decide +kernel), List.mem_of_getElem? (i := 2299) (by decide +kernel)⟩
def lw_privs_10 : List (MethodName × Nat) := [(⟨"TensorForgeModel", "named", "(J)I"⟩, 69), (⟨"TensorForgeModel", "takeParts", "(I)Z"⟩, 69), (⟨"TensorForgeModel", "partOf", "()I"⟩, 69), (⟨"TensorForgeModel", "takePart", "(I)Z"⟩, 69), (⟨"TensorForgeModel", "takeNet", "(I)Z"⟩, 69), (⟨"TensorForgeModel", "takeX", "()Z"⟩, 69), (⟨"TensorForgeModel", "isKeyword", "(J)Z"⟩, 69), (⟨"TensorForgeModel", "readInput", "()Z"⟩, 69), (⟨"TensorForgeModel", "sayCode", "(J)V"⟩, 69), (⟨"TensorForgeModel", "sayCount", "(I)V"⟩, 69), (⟨"TensorForgeModel", "sayLayer", "(I)V"⟩, 69), (⟨"TensorForgeModel", "placeAll", "()I"⟩, 69), (⟨"TensorForgeModel", "meets", "(II)Z"⟩, 69), (⟨"TensorForgeModel", "isNeeded", "(II)Z"⟩, 69), (⟨"TensorForgeModel", "takes", "(II)Z"⟩, 69), (⟨"TensorForgeModel", "isToldOfRun", "(II)Z"⟩, 69)]
theorem lw_r10 : ∀ q ∈ lw_privs_10, lw_okq q := List.forall_mem_cons.mpr ⟨lw_p144, List.forall_mem_cons.mpr ⟨lw_p145, List.forall_mem_cons.mpr ⟨lw_p146, List.forall_mem_cons.mpr ⟨lw_p147, List.forall_mem_cons.mpr ⟨lw_p148, List.forall_mem_cons.mpr ⟨lw_p149, List.forall_mem_cons.mpr ⟨lw_p150, List.forall_mem_cons.mpr ⟨lw_p151, List.forall_mem_cons.mpr ⟨lw_p152, List.forall_mem_cons.mpr ⟨lw_p153, List.forall_mem_cons.mpr ⟨lw_p154, List.forall_mem_cons.mpr ⟨lw_p155, List.forall_mem_cons.mpr ⟨lw_p156, List.forall_mem_cons.mpr ⟨lw_p157, List.forall_mem_cons.mpr ⟨lw_p158, List.forall_mem_cons.mpr ⟨lw_p159, fun _ h => absurd h List.not_mem_nil⟩⟩⟩⟩⟩⟩⟩⟩⟩⟩⟩⟩⟩⟩⟩⟩
theorem lw_p160 : lw_okq (⟨"TensorForgeModel", "underWay", "(II)I"⟩, 69) := ⟨⟨by decide +kernel, by decide +kernel⟩, List.mem_of_getElem? (i := 1583) (by decide +kernel), List.mem_of_getElem? (i := 2302) (by decide +kernel), List.mem_of_getElem? (i := 2303) (by decide +kernel)⟩
theorem lw_p161 : lw_okq (⟨"TensorForgeModel", "isTokenThere", "(IZI)Z"⟩, 69) := ⟨⟨by decide +kernel, by decide +kernel⟩, List.mem_of_getElem? (i := 1583) (by decide +kernel), List.mem_of_getElem? (i := 2310) (by decide +kernel), List.mem_of_getElem? (i := 2311) (by decide +kernel)⟩
def lw_privs_11 : List (MethodName × Nat) := [(⟨"TensorForgeModel", "underWay", "(II)I"⟩, 69), (⟨"TensorForgeModel", "isTokenThere", "(IZI)Z"⟩, 69)]
theorem lw_r11 : ∀ q ∈ lw_privs_11, lw_okq q := List.forall_mem_cons.mpr ⟨lw_p160, List.forall_mem_cons.mpr ⟨lw_p161, fun _ h => absurd h List.not_mem_nil⟩⟩
def lw_privs : List (MethodName × Nat) := lw_privs_1 ++ (lw_privs_2 ++ (lw_privs_3 ++ (lw_privs_4 ++ (lw_privs_5 ++ (lw_privs_6 ++ (lw_privs_7 ++ (lw_privs_8 ++ (lw_privs_9 ++ (lw_privs_10 ++ (lw_privs_11))))))))))
def lw_tbl : List Cond := k2_sels lw_privs ++ tables_1
theorem lw_privs_ok : ∀ q ∈ lw_privs, lw_okq q := by
  show ∀ q ∈ lw_privs_1 ++ (lw_privs_2 ++ (lw_privs_3 ++ (lw_privs_4 ++ (lw_privs_5 ++ (lw_privs_6 ++ (lw_privs_7 ++ (lw_privs_8 ++ (lw_privs_9 ++ (lw_privs_10 ++ (lw_privs_11)))))))))), lw_okq q
  exact List.forall_mem_append.mpr ⟨lw_r1, List.forall_mem_append.mpr ⟨lw_r2, List.forall_mem_append.mpr ⟨lw_r3, List.forall_mem_append.mpr ⟨lw_r4, List.forall_mem_append.mpr ⟨lw_r5, List.forall_mem_append.mpr ⟨lw_r6, List.forall_mem_append.mpr ⟨lw_r7, List.forall_mem_append.mpr ⟨lw_r8, List.forall_mem_append.mpr ⟨lw_r9, List.forall_mem_append.mpr ⟨lw_r10, lw_r11⟩⟩⟩⟩⟩⟩⟩⟩⟩⟩
/-- the words that hold at every later state too -/
def mm_tb : List Cond := lw_tbl.filter goodWord
theorem mm_tb_in (ws : List Cond) (ps : List Nat) (hp : ws = ps.filterMap (fun i => tables_1[i]?)) (h : ws.all goodWord = true) : ∀ w ∈ ws, w ∈ mm_tb := by
  intro w hw
  have h1 := List.all_eq_true.mp h w hw
  rw [hp] at hw
  obtain ⟨i, -, hi⟩ := List.mem_filterMap.mp hw
  exact List.mem_filter.mpr ⟨List.mem_append_right _ (List.mem_of_getElem? hi), h1⟩
theorem mm_tb_1 {w : Cond} (i : Nat) (hi : tables_1[i]? = some w) (h : goodWord w = true) : w ∈ mm_tb := List.mem_filter.mpr ⟨List.mem_append_right _ (List.mem_of_getElem? hi), h⟩
theorem mm_tb_s {w : Cond} (i : Nat) (hi : (k2_sels lw_privs)[i]? = some w) (h : goodWord w = true) : w ∈ mm_tb := List.mem_filter.mpr ⟨List.mem_append_left _ (List.mem_of_getElem? hi), h⟩
theorem mm_tb_good {s : State} {args : Array Value} (h : ∀ w ∈ mm_tb, w.before args s = true) {U : State} (hW : s.WarmedH U.vm) (a : Array Value) : ∀ w ∈ mm_tb, w.before a U = true :=
  fun w hw => word_at hW (good_of_word (List.mem_filter.mp hw).2) (h w hw)
end
section
/-! the classes: names, fields, types; by program out of the words (wip/names.py) -/
def R_TF : String := "TensorForge"
def F_TF : u_T := fun k => match k with
  | 0 => ("TensorForge", "machine", "LTensorForge$Machine;", true)
  | 1 => ("TensorForge", "latest", "LTensorForge$Run;", true)
  | 2 => ("TensorForge", "text", "LTensorForge$Text;", true)
  | 3 => ("TensorForge", "assembler", "LTensorForge$Assembler;", true)
  | 4 => ("TensorForge", "reader", "LTensorForge$NetworkReader;", true)
  | 5 => ("TensorForge", "compiler", "LTensorForge$Compiler;", true)
  | 6 => ("TensorForge", "printed", "LTensorForge$Line;", true)
  | 7 => ("TensorForge", "net", "LTensorForge$Network;", false)
  | 8 => ("TensorForge", "spareNet", "LTensorForge$Network;", false)
  | 9 => ("TensorForge", "words", "[J", false)
  | 10 => ("TensorForge", "spareWords", "[J", false)
  | _ => ("TensorForge", "count", "I", false)
def t_TF : Nat → FieldType := fun k => match k with
  | 0 => .object "TensorForge$Machine"
  | 1 => .object "TensorForge$Run"
  | 2 => .object "TensorForge$Text"
  | 3 => .object "TensorForge$Assembler"
  | 4 => .object "TensorForge$NetworkReader"
  | 5 => .object "TensorForge$Compiler"
  | 6 => .object "TensorForge$Line"
  | 7 => .object "TensorForge$Network"
  | 8 => .object "TensorForge$Network"
  | 9 => .array .long
  | 10 => .array .long
  | _ => .int
theorem n_TF : ∀ a, a < 12 → ∀ b, b < 12 → a ≠ b → (F_TF a).2.1 ≠ (F_TF b).2.1 := by decide +kernel
theorem t_TF_ok : ∀ k, k < 12 → parseFieldDescriptor (F_TF k).2.2.1 = some (t_TF k) := by decide +kernel
theorem i_TF : ∀ w ∈ u_ws R_TF F_TF 12, w ∈ mm_tb := mm_tb_in _ [452, 454, 456, 458, 460, 462, 464, 466, 468, 470, 472, 474] (by decide +kernel) (by decide +kernel)
def R_Network : String := "TensorForge$Network"
def F_Network : u_T := fun k => match k with
  | 0 => ("TensorForge$Network", "layers", "[LTensorForge$Layer;", true)
  | _ => ("TensorForge$Network", "tensors", "I", false)
def t_Network : Nat → FieldType := fun k => match k with
  | 0 => .array (.object "TensorForge$Layer")
  | _ => .int
theorem n_Network : ∀ a, a < 2 → ∀ b, b < 2 → a ≠ b → (F_Network a).2.1 ≠ (F_Network b).2.1 := by decide +kernel
theorem t_Network_ok : ∀ k, k < 2 → parseFieldDescriptor (F_Network k).2.2.1 = some (t_Network k) := by decide +kernel
theorem i_Network : ∀ w ∈ u_ws R_Network F_Network 2, w ∈ mm_tb := mm_tb_in _ [149, 151] (by decide +kernel) (by decide +kernel)
def R_Layer : String := "TensorForge$Layer"
def F_Layer : u_T := fun k => match k with
  | 0 => ("TensorForge$Layer", "kind", "I", false)
  | 1 => ("TensorForge$Layer", "one", "I", false)
  | 2 => ("TensorForge$Layer", "two", "I", false)
  | 3 => ("TensorForge$Layer", "kernelHeight", "I", false)
  | 4 => ("TensorForge$Layer", "kernelWidth", "I", false)
  | 5 => ("TensorForge$Layer", "step", "I", false)
  | 6 => ("TensorForge$Layer", "edge", "I", false)
  | 7 => ("TensorForge$Layer", "shift", "I", false)
  | 8 => ("TensorForge$Layer", "relu", "Z", false)
  | 9 => ("TensorForge$Layer", "address", "I", false)
  | 10 => ("TensorForge$Layer", "height", "I", false)
  | 11 => ("TensorForge$Layer", "width", "I", false)
  | 12 => ("TensorForge$Layer", "channels", "I", false)
  | 13 => ("TensorForge$Layer", "begin", "I", false)
  | _ => ("TensorForge$Layer", "spot", "I", false)
def t_Layer : Nat → FieldType := fun k => match k with
  | 0 => .int
  | 1 => .int
  | 2 => .int
  | 3 => .int
  | 4 => .int
  | 5 => .int
  | 6 => .int
  | 7 => .int
  | 8 => .boolean
  | 9 => .int
  | 10 => .int
  | 11 => .int
  | 12 => .int
  | 13 => .int
  | _ => .int
theorem n_Layer : ∀ a, a < 15 → ∀ b, b < 15 → a ≠ b → (F_Layer a).2.1 ≠ (F_Layer b).2.1 := by decide +kernel
theorem t_Layer_ok : ∀ k, k < 15 → parseFieldDescriptor (F_Layer k).2.2.1 = some (t_Layer k) := by decide +kernel
theorem i_Layer : ∀ w ∈ u_ws R_Layer F_Layer 15, w ∈ mm_tb := mm_tb_in _ [112, 114, 116, 118, 120, 122, 124, 126, 128, 130, 132, 134, 136, 138, 140] (by decide +kernel) (by decide +kernel)
def R_Machine : String := "TensorForge$Machine"
def F_Machine : u_T := fun k => match k with
  | 0 => ("TensorForge$Machine", "memory", "[B", true)
  | 1 => ("TensorForge$Machine", "cells", "[B", true)
  | 2 => ("TensorForge$Machine", "weights", "[B", true)
  | 3 => ("TensorForge$Machine", "sums", "[I", true)
  | 4 => ("TensorForge$Machine", "results", "[B", true)
  | 5 => ("TensorForge$Machine", "probe", "LTensorForge$Reaches;", true)
  | 6 => ("TensorForge$Machine", "side", "I", false)
  | 7 => ("TensorForge$Machine", "address", "I", false)
  | 8 => ("TensorForge$Machine", "rows", "I", false)
  | 9 => ("TensorForge$Machine", "columns", "I", false)
  | 10 => ("TensorForge$Machine", "a", "I", false)
  | 11 => ("TensorForge$Machine", "b", "I", false)
  | 12 => ("TensorForge$Machine", "stride", "I", false)
  | _ => ("TensorForge$Machine", "n", "I", false)
def t_Machine : Nat → FieldType := fun k => match k with
  | 0 => .array .byte
  | 1 => .array .byte
  | 2 => .array .byte
  | 3 => .array .int
  | 4 => .array .byte
  | 5 => .object "TensorForge$Reaches"
  | 6 => .int
  | 7 => .int
  | 8 => .int
  | 9 => .int
  | 10 => .int
  | 11 => .int
  | 12 => .int
  | _ => .int
theorem n_Machine : ∀ a, a < 14 → ∀ b, b < 14 → a ≠ b → (F_Machine a).2.1 ≠ (F_Machine b).2.1 := by decide +kernel
theorem t_Machine_ok : ∀ k, k < 14 → parseFieldDescriptor (F_Machine k).2.2.1 = some (t_Machine k) := by decide +kernel
theorem i_Machine : ∀ w ∈ u_ws R_Machine F_Machine 14, w ∈ mm_tb := mm_tb_in _ [201, 203, 205, 207, 209, 211, 213, 215, 217, 219, 221, 223, 225, 227] (by decide +kernel) (by decide +kernel)
def R_Reaches : String := "TensorForge$Reaches"
def F_Reaches : u_T := fun k => match k with
  | 0 => ("TensorForge$Reaches", "readFrom", "[I", true)
  | 1 => ("TensorForge$Reaches", "readTo", "[I", true)
  | 2 => ("TensorForge$Reaches", "writeFrom", "[I", true)
  | _ => ("TensorForge$Reaches", "writeTo", "[I", true)
def t_Reaches : Nat → FieldType := fun k => match k with
  | 0 => .array .int
  | 1 => .array .int
  | 2 => .array .int
  | _ => .array .int
theorem n_Reaches : ∀ a, a < 4 → ∀ b, b < 4 → a ≠ b → (F_Reaches a).2.1 ≠ (F_Reaches b).2.1 := by decide +kernel
theorem t_Reaches_ok : ∀ k, k < 4 → parseFieldDescriptor (F_Reaches k).2.2.1 = some (t_Reaches k) := by decide +kernel
theorem i_Reaches : ∀ w ∈ u_ws R_Reaches F_Reaches 4, w ∈ mm_tb := mm_tb_in _ [172, 174, 176, 178] (by decide +kernel) (by decide +kernel)
def R_Run : String := "TensorForge$Run"
def F_Run : u_T := fun k => match k with
  | 0 => ("TensorForge$Run", "machine", "LTensorForge$Machine;", true)
  | 1 => ("TensorForge$Run", "told", "[I", true)
  | 2 => ("TensorForge$Run", "words", "[J", true)
  | 3 => ("TensorForge$Run", "began", "[I", true)
  | 4 => ("TensorForge$Run", "ended", "[I", true)
  | 5 => ("TensorForge$Run", "next", "[I", true)
  | 6 => ("TensorForge$Run", "underWay", "[I", true)
  | 7 => ("TensorForge$Run", "reaches", "[LTensorForge$Reaches;", true)
  | 8 => ("TensorForge$Run", "candidate", "LTensorForge$Reaches;", false)
  | _ => ("TensorForge$Run", "count", "I", false)
def t_Run : Nat → FieldType := fun k => match k with
  | 0 => .object "TensorForge$Machine"
  | 1 => .array .int
  | 2 => .array .long
  | 3 => .array .int
  | 4 => .array .int
  | 5 => .array .int
  | 6 => .array .int
  | 7 => .array (.object "TensorForge$Reaches")
  | 8 => .object "TensorForge$Reaches"
  | _ => .int
theorem n_Run : ∀ a, a < 10 → ∀ b, b < 10 → a ≠ b → (F_Run a).2.1 ≠ (F_Run b).2.1 := by decide +kernel
theorem t_Run_ok : ∀ k, k < 10 → parseFieldDescriptor (F_Run k).2.2.1 = some (t_Run k) := by decide +kernel
theorem i_Run : ∀ w ∈ u_ws R_Run F_Run 10, w ∈ mm_tb := mm_tb_in _ [254, 256, 258, 260, 262, 264, 266, 268, 270, 272] (by decide +kernel) (by decide +kernel)
def R_Text : String := "TensorForge$Text"
def F_Text : u_T := fun k => match k with
  | 0 => ("TensorForge$Text", "signs", "[C", true)
  | 1 => ("TensorForge$Text", "count", "I", false)
  | 2 => ("TensorForge$Text", "lineEnd", "I", false)
  | 3 => ("TensorForge$Text", "at", "I", false)
  | 4 => ("TensorForge$Text", "sort", "I", false)
  | 5 => ("TensorForge$Text", "from", "I", false)
  | _ => ("TensorForge$Text", "number", "I", false)
def t_Text : Nat → FieldType := fun k => match k with
  | 0 => .array .char
  | 1 => .int
  | 2 => .int
  | 3 => .int
  | 4 => .int
  | 5 => .int
  | _ => .int
theorem n_Text : ∀ a, a < 7 → ∀ b, b < 7 → a ≠ b → (F_Text a).2.1 ≠ (F_Text b).2.1 := by decide +kernel
theorem t_Text_ok : ∀ k, k < 7 → parseFieldDescriptor (F_Text k).2.2.1 = some (t_Text k) := by decide +kernel
theorem i_Text : ∀ w ∈ u_ws R_Text F_Text 7, w ∈ mm_tb := mm_tb_in _ [298, 300, 302, 304, 306, 308, 310] (by decide +kernel) (by decide +kernel)
def R_Assembler : String := "TensorForge$Assembler"
def F_Assembler : u_T := fun k => match k with
  | 0 => ("TensorForge$Assembler", "text", "LTensorForge$Text;", true)
  | 1 => ("TensorForge$Assembler", "made", "I", false)
  | 2 => ("TensorForge$Assembler", "built", "J", false)
  | _ => ("TensorForge$Assembler", "seen", "I", false)
def t_Assembler : Nat → FieldType := fun k => match k with
  | 0 => .object "TensorForge$Text"
  | 1 => .int
  | 2 => .long
  | _ => .int
theorem n_Assembler : ∀ a, a < 4 → ∀ b, b < 4 → a ≠ b → (F_Assembler a).2.1 ≠ (F_Assembler b).2.1 := by decide +kernel
theorem t_Assembler_ok : ∀ k, k < 4 → parseFieldDescriptor (F_Assembler k).2.2.1 = some (t_Assembler k) := by decide +kernel
theorem i_Assembler : ∀ w ∈ u_ws R_Assembler F_Assembler 4, w ∈ mm_tb := mm_tb_in _ [325, 327, 329, 331] (by decide +kernel) (by decide +kernel)
def R_NetworkReader : String := "TensorForge$NetworkReader"
def F_NetworkReader : u_T := fun k => match k with
  | 0 => ("TensorForge$NetworkReader", "text", "LTensorForge$Text;", true)
  | 1 => ("TensorForge$NetworkReader", "net", "LTensorForge$Network;", false)
  | 2 => ("TensorForge$NetworkReader", "nameFrom", "[I", true)
  | 3 => ("TensorForge$NetworkReader", "nameSize", "[I", true)
  | 4 => ("TensorForge$NetworkReader", "lineNameFrom", "I", false)
  | 5 => ("TensorForge$NetworkReader", "lineNameSize", "I", false)
  | 6 => ("TensorForge$NetworkReader", "allowed", "I", false)
  | 7 => ("TensorForge$NetworkReader", "needed", "I", false)
  | _ => ("TensorForge$NetworkReader", "seen", "I", false)
def t_NetworkReader : Nat → FieldType := fun k => match k with
  | 0 => .object "TensorForge$Text"
  | 1 => .object "TensorForge$Network"
  | 2 => .array .int
  | 3 => .array .int
  | 4 => .int
  | 5 => .int
  | 6 => .int
  | 7 => .int
  | _ => .int
theorem n_NetworkReader : ∀ a, a < 9 → ∀ b, b < 9 → a ≠ b → (F_NetworkReader a).2.1 ≠ (F_NetworkReader b).2.1 := by decide +kernel
theorem t_NetworkReader_ok : ∀ k, k < 9 → parseFieldDescriptor (F_NetworkReader k).2.2.1 = some (t_NetworkReader k) := by decide +kernel
theorem i_NetworkReader : ∀ w ∈ u_ws R_NetworkReader F_NetworkReader 9, w ∈ mm_tb := mm_tb_in _ [349, 351, 353, 355, 357, 359, 361, 363, 365] (by decide +kernel) (by decide +kernel)
def R_Compiler : String := "TensorForge$Compiler"
def F_Compiler : u_T := fun k => match k with
  | 0 => ("TensorForge$Compiler", "words", "[J", false)
  | 1 => ("TensorForge$Compiler", "made", "I", false)
  | 2 => ("TensorForge$Compiler", "side", "I", false)
  | 3 => ("TensorForge$Compiler", "layer", "LTensorForge$Layer;", false)
  | 4 => ("TensorForge$Compiler", "first", "LTensorForge$Layer;", false)
  | 5 => ("TensorForge$Compiler", "second", "LTensorForge$Layer;", false)
  | 6 => ("TensorForge$Compiler", "tile", "I", false)
  | 7 => ("TensorForge$Compiler", "channel", "I", false)
  | 8 => ("TensorForge$Compiler", "columns", "I", false)
  | 9 => ("TensorForge$Compiler", "row", "I", false)
  | 10 => ("TensorForge$Compiler", "start", "I", false)
  | 11 => ("TensorForge$Compiler", "places", "I", false)
  | 12 => ("TensorForge$Compiler", "group", "I", false)
  | 13 => ("TensorForge$Compiler", "kernelRow", "I", false)
  | 14 => ("TensorForge$Compiler", "kernelColumn", "I", false)
  | 15 => ("TensorForge$Compiler", "block", "I", false)
  | _ => ("TensorForge$Compiler", "depth", "I", false)
def t_Compiler : Nat → FieldType := fun k => match k with
  | 0 => .array .long
  | 1 => .int
  | 2 => .int
  | 3 => .object "TensorForge$Layer"
  | 4 => .object "TensorForge$Layer"
  | 5 => .object "TensorForge$Layer"
  | 6 => .int
  | 7 => .int
  | 8 => .int
  | 9 => .int
  | 10 => .int
  | 11 => .int
  | 12 => .int
  | 13 => .int
  | 14 => .int
  | 15 => .int
  | _ => .int
theorem n_Compiler : ∀ a, a < 17 → ∀ b, b < 17 → a ≠ b → (F_Compiler a).2.1 ≠ (F_Compiler b).2.1 := by decide +kernel
theorem t_Compiler_ok : ∀ k, k < 17 → parseFieldDescriptor (F_Compiler k).2.2.1 = some (t_Compiler k) := by decide +kernel
theorem i_Compiler : ∀ w ∈ u_ws R_Compiler F_Compiler 17, w ∈ mm_tb := mm_tb_in _ [392, 394, 396, 398, 400, 402, 404, 406, 408, 410, 412, 414, 416, 418, 420, 422, 424] (by decide +kernel) (by decide +kernel)
def R_Line : String := "TensorForge$Line"
def F_Line : u_T := fun k => match k with
  | 0 => ("TensorForge$Line", "signs", "[C", true)
  | _ => ("TensorForge$Line", "count", "I", false)
def t_Line : Nat → FieldType := fun k => match k with
  | 0 => .array .char
  | _ => .int
theorem n_Line : ∀ a, a < 2 → ∀ b, b < 2 → a ≠ b → (F_Line a).2.1 ≠ (F_Line b).2.1 := by decide +kernel
theorem t_Line_ok : ∀ k, k < 2 → parseFieldDescriptor (F_Line k).2.2.1 = some (t_Line k) := by decide +kernel
theorem i_Line : ∀ w ∈ u_ws R_Line F_Line 2, w ∈ mm_tb := mm_tb_in _ [435, 437] (by decide +kernel) (by decide +kernel)
def R_Md : String := "TensorForgeModel"
def F_Md : u_T := fun k => match k with
  | 0 => ("TensorForgeModel", "thrown", "I", false)
  | 1 => ("TensorForgeModel", "side", "I", false)
  | 2 => ("TensorForgeModel", "memory", "[I", true)
  | 3 => ("TensorForgeModel", "cells", "[I", true)
  | 4 => ("TensorForgeModel", "weights", "[I", true)
  | 5 => ("TensorForgeModel", "sums", "[I", true)
  | 6 => ("TensorForgeModel", "results", "[I", true)
  | 7 => ("TensorForgeModel", "length", "I", false)
  | 8 => ("TensorForgeModel", "words", "[J", true)
  | 9 => ("TensorForgeModel", "made", "[J", true)
  | 10 => ("TensorForgeModel", "makes", "I", false)
  | 11 => ("TensorForgeModel", "field", "[I", true)
  | 12 => ("TensorForgeModel", "reads", "[I", true)
  | 13 => ("TensorForgeModel", "writes", "[I", true)
  | 14 => ("TensorForgeModel", "stopped", "I", false)
  | 15 => ("TensorForgeModel", "culprit", "I", false)
  | 16 => ("TensorForgeModel", "stopCycle", "I", false)
  | 17 => ("TensorForgeModel", "worked", "[I", true)
  | 18 => ("TensorForgeModel", "tokens", "[I", true)
  | 19 => ("TensorForgeModel", "ran", "I", false)
  | 20 => ("TensorForgeModel", "units", "[I", true)
  | 21 => ("TensorForgeModel", "begins", "[I", true)
  | 22 => ("TensorForgeModel", "ends", "[I", true)
  | 23 => ("TensorForgeModel", "pushed", "[Z", true)
  | 24 => ("TensorForgeModel", "flags", "[I", true)
  | 25 => ("TensorForgeModel", "under", "[I", true)
  | 26 => ("TensorForgeModel", "next", "[I", true)
  | 27 => ("TensorForgeModel", "signs", "[I", true)
  | 28 => ("TensorForgeModel", "size", "I", false)
  | 29 => ("TensorForgeModel", "names", "[J", true)
  | 30 => ("TensorForgeModel", "token", "I", false)
  | 31 => ("TensorForgeModel", "tokenValue", "I", false)
  | 32 => ("TensorForgeModel", "at", "I", false)
  | 33 => ("TensorForgeModel", "lineEnd", "I", false)
  | 34 => ("TensorForgeModel", "listed", "I", false)
  | 35 => ("TensorForgeModel", "list", "[I", true)
  | 36 => ("TensorForgeModel", "tensors", "I", false)
  | 37 => ("TensorForgeModel", "heights", "[I", true)
  | 38 => ("TensorForgeModel", "widths", "[I", true)
  | 39 => ("TensorForgeModel", "channels", "[I", true)
  | 40 => ("TensorForgeModel", "froms", "[I", true)
  | 41 => ("TensorForgeModel", "kinds", "[I", true)
  | 42 => ("TensorForgeModel", "ones", "[I", true)
  | 43 => ("TensorForgeModel", "twos", "[I", true)
  | 44 => ("TensorForgeModel", "kernelRows", "[I", true)
  | 45 => ("TensorForgeModel", "kernelColumns", "[I", true)
  | 46 => ("TensorForgeModel", "steps", "[I", true)
  | 47 => ("TensorForgeModel", "edges", "[I", true)
  | 48 => ("TensorForgeModel", "shifts", "[I", true)
  | 49 => ("TensorForgeModel", "parameters", "[I", true)
  | 50 => ("TensorForgeModel", "tiles", "I", false)
  | 51 => ("TensorForgeModel", "groups", "I", false)
  | 52 => ("TensorForgeModel", "places", "I", false)
  | 53 => ("TensorForgeModel", "wide", "I", false)
  | 54 => ("TensorForgeModel", "firstPlace", "I", false)
  | 55 => ("TensorForgeModel", "tileRow", "I", false)
  | 56 => ("TensorForgeModel", "firstChannel", "I", false)
  | 57 => ("TensorForgeModel", "loads", "I", false)
  | 58 => ("TensorForgeModel", "ownReads", "[I", true)
  | 59 => ("TensorForgeModel", "ownWrites", "[I", true)
  | 60 => ("TensorForgeModel", "loadsLeft", "I", false)
  | 61 => ("TensorForgeModel", "wordCode", "J", false)
  | 62 => ("TensorForgeModel", "tensorNames", "[J", true)
  | 63 => ("TensorForgeModel", "told", "[I", true)
  | 64 => ("TensorForgeModel", "toldName", "J", false)
  | 65 => ("TensorForgeModel", "toldBits", "I", false)
  | 66 => ("TensorForgeModel", "keptTensors", "I", false)
  | 67 => ("TensorForgeModel", "kept", "[I", true)
  | _ => ("TensorForgeModel", "placesBefore", "[I", true)
def t_Md : Nat → FieldType := fun k => match k with
  | 0 => .int
  | 1 => .int
  | 2 => .array .int
  | 3 => .array .int
  | 4 => .array .int
  | 5 => .array .int
  | 6 => .array .int
  | 7 => .int
  | 8 => .array .long
  | 9 => .array .long
  | 10 => .int
  | 11 => .array .int
  | 12 => .array .int
  | 13 => .array .int
  | 14 => .int
  | 15 => .int
  | 16 => .int
  | 17 => .array .int
  | 18 => .array .int
  | 19 => .int
  | 20 => .array .int
  | 21 => .array .int
  | 22 => .array .int
  | 23 => .array .boolean
  | 24 => .array .int
  | 25 => .array .int
  | 26 => .array .int
  | 27 => .array .int
  | 28 => .int
  | 29 => .array .long
  | 30 => .int
  | 31 => .int
  | 32 => .int
  | 33 => .int
  | 34 => .int
  | 35 => .array .int
  | 36 => .int
  | 37 => .array .int
  | 38 => .array .int
  | 39 => .array .int
  | 40 => .array .int
  | 41 => .array .int
  | 42 => .array .int
  | 43 => .array .int
  | 44 => .array .int
  | 45 => .array .int
  | 46 => .array .int
  | 47 => .array .int
  | 48 => .array .int
  | 49 => .array .int
  | 50 => .int
  | 51 => .int
  | 52 => .int
  | 53 => .int
  | 54 => .int
  | 55 => .int
  | 56 => .int
  | 57 => .int
  | 58 => .array .int
  | 59 => .array .int
  | 60 => .int
  | 61 => .long
  | 62 => .array .long
  | 63 => .array .int
  | 64 => .long
  | 65 => .int
  | 66 => .int
  | 67 => .array .int
  | _ => .array .int
theorem n_Md : ∀ a, a < 69 → ∀ b, b < 69 → a ≠ b → (F_Md a).2.1 ≠ (F_Md b).2.1 := by decide +kernel
theorem t_Md_ok : ∀ k, k < 69 → parseFieldDescriptor (F_Md k).2.2.1 = some (t_Md k) := by decide +kernel
theorem i_Md : ∀ w ∈ u_ws R_Md F_Md 69, w ∈ mm_tb := mm_tb_in _ [1680, 1682, 1684, 1686, 1688, 1690, 1692, 1694, 1696, 1698, 1700, 1702, 1704, 1706, 1708, 1710, 1712, 1714, 1716, 1718, 1720, 1722, 1724, 1726, 1728, 1730, 1732, 1734, 1736, 1738, 1740, 1742, 1744, 1746, 1748, 1750, 1752, 1754, 1756, 1758, 1760, 1762, 1764, 1766, 1768, 1770, 1772, 1774, 1776, 1778, 1780, 1782, 1784, 1786, 1788, 1790, 1792, 1794, 1796, 1798, 1800, 1802, 1804, 1806, 1808, 1810, 1812, 1814, 1816] (by decide +kernel) (by decide +kernel)
abbrev mm_cl : List vw_C := [(R_TF, F_TF, 12), (R_Network, F_Network, 2), (R_Layer, F_Layer, 15), (R_Machine, F_Machine, 14), (R_Reaches, F_Reaches, 4), (R_Run, F_Run, 10), (R_Text, F_Text, 7), (R_Assembler, F_Assembler, 4), (R_NetworkReader, F_NetworkReader, 9), (R_Compiler, F_Compiler, 17), (R_Line, F_Line, 2), (R_Md, F_Md, 69)]
-- class 0: TensorForge
-- class 1: TensorForge$Network
-- class 2: TensorForge$Layer
-- class 3: TensorForge$Machine
-- class 4: TensorForge$Reaches
-- class 5: TensorForge$Run
-- class 6: TensorForge$Text
-- class 7: TensorForge$Assembler
-- class 8: TensorForge$NetworkReader
-- class 9: TensorForge$Compiler
-- class 10: TensorForge$Line
-- class 11: TensorForgeModel
abbrev mm_ty : List FieldType := [.object "TensorForge$Layer", .long, .byte, .int, .object "TensorForge$Reaches", .char, .boolean]
/-! string constants: the texts; (class, entry, number of the text) -/
def mm_txt : List String := ["cells", "weights", "clear", "sums", "multiply", "combine", "narrow", "store", "wait", "?", "at", "by", "x", "a", "b", "step", "n", "pop", "before", "behind", "push", "conv", "pool", "add", "outputs", "edge", "shift", "relu", "as", "input", "a side is 2 to 8", "four bytes aren't there", "there is no such buffer", "there is no such place", "there is no such word", "a program has at most 600 words", "there are not so many words", "there is no such field", "a byte is no sign of a text", "a text has at most 1500 signs", "there are not so many signs", "there is no such word or sign", "pop before", "pop behind", "push before", "push behind", "nothing such is told of a run", "no program has run", "the program had no such word", "nothing such is told of an instruction", "an input can't have this form", "there is no such tensor", "a layer can't be so", "there is no room for the layer", "nothing such is told of a tensor", "the network has no room in a program", "there is no such line or sign", "a tensor would end beyond 2048", "there is no such unit or cycle"]
def mm_strs : List (String × Nat × Nat) := [("TensorForge$Words", 35, 0), ("TensorForge$Words", 37, 1), ("TensorForge$Words", 39, 2), ("TensorForge$Words", 41, 3), ("TensorForge$Words", 43, 4), ("TensorForge$Words", 45, 5), ("TensorForge$Words", 47, 6), ("TensorForge$Words", 49, 7), ("TensorForge$Words", 51, 8), ("TensorForge$Words", 53, 9), ("TensorForge$Assembler", 65, 10), ("TensorForge$Assembler", 71, 11), ("TensorForge$Assembler", 73, 12), ("TensorForge$Assembler", 78, 13), ("TensorForge$Assembler", 80, 14), ("TensorForge$Assembler", 82, 15), ("TensorForge$Assembler", 84, 16), ("TensorForge$Assembler", 86, 17), ("TensorForge$Assembler", 107, 18), ("TensorForge$Assembler", 109, 19), ("TensorForge$Assembler", 92, 20), ("TensorForge$NetworkReader", 110, 21), ("TensorForge$NetworkReader", 114, 22), ("TensorForge$NetworkReader", 116, 23), ("TensorForge$NetworkReader", 142, 11), ("TensorForge$NetworkReader", 144, 24), ("TensorForge$NetworkReader", 146, 10), ("TensorForge$NetworkReader", 148, 15), ("TensorForge$NetworkReader", 150, 25), ("TensorForge$NetworkReader", 152, 26), ("TensorForge$NetworkReader", 154, 27), ("TensorForge$NetworkReader", 156, 28), ("TensorForge$NetworkReader", 85, 29), ("TensorForge$NetworkReader", 97, 12), ("TensorForge", 89, 30), ("TensorForge", 103, 31), ("TensorForge", 112, 32), ("TensorForge", 118, 33), ("TensorForge", 124, 34), ("TensorForge", 128, 35), ("TensorForge", 131, 36), ("TensorForge", 135, 37), ("TensorForge", 149, 38), ("TensorForge", 154, 39), ("TensorForge", 160, 40), ("TensorForge", 172, 41), ("TensorForge$Line", 33, 10), ("TensorForge$Line", 43, 11), ("TensorForge$Line", 120, 12), ("TensorForge$Line", 49, 13), ("TensorForge$Line", 51, 14), ("TensorForge$Line", 53, 15), ("TensorForge$Line", 55, 16), ("TensorForge$Line", 57, 42), ("TensorForge$Line", 63, 43), ("TensorForge$Line", 65, 44), ("TensorForge$Line", 67, 45), ("TensorForge", 189, 46), ("TensorForge", 335, 47), ("TensorForge", 195, 48), ("TensorForge", 197, 49), ("TensorForge", 214, 50), ("TensorForge", 254, 51), ("TensorForge", 329, 52), ("TensorForge", 331, 53), ("TensorForge", 256, 54), ("TensorForge", 286, 55), ("TensorForge", 299, 56), ("TensorForge$Line", 78, 21), ("TensorForge$Line", 93, 24), ("TensorForge$Line", 101, 22), ("TensorForge$Line", 103, 23), ("TensorForge$Line", 112, 29), ("TensorForge$Line", 131, 25), ("TensorForge$Line", 135, 26), ("TensorForge$Line", 140, 27), ("TensorForge", 309, 57), ("TensorForge", 338, 58)]
def mm_byt : List (List Int32) := [[99, 101, 108, 108, 115], [119, 101, 105, 103, 104, 116, 115], [99, 108, 101, 97, 114], [115, 117, 109, 115], [109, 117, 108, 116, 105, 112, 108, 121], [99, 111, 109, 98, 105, 110, 101], [110, 97, 114, 114, 111, 119], [115, 116, 111, 114, 101], [119, 97, 105, 116], [63], [97, 116], [98, 121], [120], [97], [98], [115, 116, 101, 112], [110], [112, 111, 112], [98, 101, 102, 111, 114, 101], [98, 101, 104, 105, 110, 100], [112, 117, 115, 104], [99, 111, 110, 118], [112, 111, 111, 108], [97, 100, 100], [111, 117, 116, 112, 117, 116, 115], [101, 100, 103, 101], [115, 104, 105, 102, 116], [114, 101, 108, 117], [97, 115], [105, 110, 112, 117, 116], [97, 32, 115, 105, 100, 101, 32, 105, 115, 32, 50, 32, 116, 111, 32, 56], [102, 111, 117, 114, 32, 98, 121, 116, 101, 115, 32, 97, 114, 101, 110, 39, 116, 32, 116, 104, 101, 114, 101], [116, 104, 101, 114, 101, 32, 105, 115, 32, 110, 111, 32, 115, 117, 99, 104, 32, 98, 117, 102, 102, 101, 114], [116, 104, 101, 114, 101, 32, 105, 115, 32, 110, 111, 32, 115, 117, 99, 104, 32, 112, 108, 97, 99, 101], [116, 104, 101, 114, 101, 32, 105, 115, 32, 110, 111, 32, 115, 117, 99, 104, 32, 119, 111, 114, 100], [97, 32, 112, 114, 111, 103, 114, 97, 109, 32, 104, 97, 115, 32, 97, 116, 32, 109, 111, 115, 116, 32, 54, 48, 48, 32, 119, 111, 114, 100, 115], [116, 104, 101, 114, 101, 32, 97, 114, 101, 32, 110, 111, 116, 32, 115, 111, 32, 109, 97, 110, 121, 32, 119, 111, 114, 100, 115], [116, 104, 101, 114, 101, 32, 105, 115, 32, 110, 111, 32, 115, 117, 99, 104, 32, 102, 105, 101, 108, 100], [97, 32, 98, 121, 116, 101, 32, 105, 115, 32, 110, 111, 32, 115, 105, 103, 110, 32, 111, 102, 32, 97, 32, 116, 101, 120, 116], [97, 32, 116, 101, 120, 116, 32, 104, 97, 115, 32, 97, 116, 32, 109, 111, 115, 116, 32, 49, 53, 48, 48, 32, 115, 105, 103, 110, 115], [116, 104, 101, 114, 101, 32, 97, 114, 101, 32, 110, 111, 116, 32, 115, 111, 32, 109, 97, 110, 121, 32, 115, 105, 103, 110, 115], [116, 104, 101, 114, 101, 32, 105, 115, 32, 110, 111, 32, 115, 117, 99, 104, 32, 119, 111, 114, 100, 32, 111, 114, 32, 115, 105, 103, 110], [112, 111, 112, 32, 98, 101, 102, 111, 114, 101], [112, 111, 112, 32, 98, 101, 104, 105, 110, 100], [112, 117, 115, 104, 32, 98, 101, 102, 111, 114, 101], [112, 117, 115, 104, 32, 98, 101, 104, 105, 110, 100], [110, 111, 116, 104, 105, 110, 103, 32, 115, 117, 99, 104, 32, 105, 115, 32, 116, 111, 108, 100, 32, 111, 102, 32, 97, 32, 114, 117, 110], [110, 111, 32, 112, 114, 111, 103, 114, 97, 109, 32, 104, 97, 115, 32, 114, 117, 110], [116, 104, 101, 32, 112, 114, 111, 103, 114, 97, 109, 32, 104, 97, 100, 32, 110, 111, 32, 115, 117, 99, 104, 32, 119, 111, 114, 100], [110, 111, 116, 104, 105, 110, 103, 32, 115, 117, 99, 104, 32, 105, 115, 32, 116, 111, 108, 100, 32, 111, 102, 32, 97, 110, 32, 105, 110, 115, 116, 114, 117, 99, 116, 105, 111, 110], [97, 110, 32, 105, 110, 112, 117, 116, 32, 99, 97, 110, 39, 116, 32, 104, 97, 118, 101, 32, 116, 104, 105, 115, 32, 102, 111, 114, 109], [116, 104, 101, 114, 101, 32, 105, 115, 32, 110, 111, 32, 115, 117, 99, 104, 32, 116, 101, 110, 115, 111, 114], [97, 32, 108, 97, 121, 101, 114, 32, 99, 97, 110, 39, 116, 32, 98, 101, 32, 115, 111], [116, 104, 101, 114, 101, 32, 105, 115, 32, 110, 111, 32, 114, 111, 111, 109, 32, 102, 111, 114, 32, 116, 104, 101, 32, 108, 97, 121, 101, 114], [110, 111, 116, 104, 105, 110, 103, 32, 115, 117, 99, 104, 32, 105, 115, 32, 116, 111, 108, 100, 32, 111, 102, 32, 97, 32, 116, 101, 110, 115, 111, 114], [116, 104, 101, 32, 110, 101, 116, 119, 111, 114, 107, 32, 104, 97, 115, 32, 110, 111, 32, 114, 111, 111, 109, 32, 105, 110, 32, 97, 32, 112, 114, 111, 103, 114, 97, 109], [116, 104, 101, 114, 101, 32, 105, 115, 32, 110, 111, 32, 115, 117, 99, 104, 32, 108, 105, 110, 101, 32, 111, 114, 32, 115, 105, 103, 110], [97, 32, 116, 101, 110, 115, 111, 114, 32, 119, 111, 117, 108, 100, 32, 101, 110, 100, 32, 98, 101, 121, 111, 110, 100, 32, 50, 48, 52, 56], [116, 104, 101, 114, 101, 32, 105, 115, 32, 110, 111, 32, 115, 117, 99, 104, 32, 117, 110, 105, 116, 32, 111, 114, 32, 99, 121, 99, 108, 101]]
def mm_len : List Nat := [5, 7, 5, 4, 8, 7, 6, 5, 4, 1, 2, 2, 1, 1, 1, 4, 1, 3, 6, 6, 4, 4, 4, 3, 7, 4, 5, 4, 2, 5, 16, 23, 23, 22, 21, 31, 27, 22, 27, 29, 27, 29, 10, 10, 11, 11, 29, 18, 28, 38, 29, 23, 19, 30, 32, 36, 29, 30, 30]
def mm_nw : List Cond := [(Cond.castable "java/lang/IllegalArgumentException" "java/lang/IllegalArgumentException"),
  (Cond.declares ({ cls := "java/lang/RuntimeException", name := "<init>", desc := "()V" } : MethodName)),
  (Cond.declares ({ cls := "java/lang/RuntimeException", name := "<init>", desc := "(Ljava/lang/String;)V" } : MethodName)),
  (Cond.declares ({ cls := "java/lang/Exception", name := "<init>", desc := "()V" } : MethodName)),
  (Cond.declares ({ cls := "java/lang/Exception", name := "<init>", desc := "(Ljava/lang/String;)V" } : MethodName)),
  (Cond.declares ({ cls := "java/lang/Throwable", name := "<init>", desc := "()V" } : MethodName)),
  (Cond.declares ({ cls := "java/lang/Throwable", name := "<init>", desc := "(Ljava/lang/String;)V" } : MethodName)),
  (Cond.castable "java/lang/IndexOutOfBoundsException" "java/lang/IndexOutOfBoundsException"),
  (Cond.castable "java/lang/UnsupportedOperationException" "java/lang/UnsupportedOperationException"),
  (Cond.castable "java/lang/IllegalStateException" "java/lang/IllegalStateException")]
theorem mm_nw_ok : ∀ w ∈ mm_nw, (∃ C T, w = Cond.castable C T) ∨ ∃ x, w = Cond.declares x := by
  intro w hw
  simp only [mm_nw, List.mem_cons, List.not_mem_nil, or_false] at hw
  rcases hw with rfl | rfl | rfl | rfl | rfl | rfl | rfl | rfl | rfl | rfl <;> first | exact Or.inl ⟨_, _, rfl⟩ | exact Or.inr ⟨_, rfl⟩
end
section
/-! A heap of places: our own cells are numbered from 1000 on in the order in which they are made, cells that were there before have numbers below 1000; a cell's references are such numbers. -/
abbrev mm_E : Type := (Nat × vp_A) ⊕ (Nat × List Value)
abbrev mm_M : Type := Nat → Option mm_E
/-- classes and slots; array classes by the number of their type; where our cells begin; the addresses of the old cells -/
abbrev mm_G : Type := va_G × (Nat → ClassId) × Nat × (Nat → Nat)
def mm_ad (g : mm_G) (a : Nat) : Nat := if a < 1000 then g.2.2.2 a else g.2.2.1 + (a - 1000)
def mm_tr (g : mm_G) (v : Value) : Value := match v with
  | .ref a => .ref (mm_ad g a)
  | v => v
def mm_trA (g : mm_G) (x : vp_A) : vp_A := match x with
  | (n, .inr (.inr (.inr (.inr f)))) => (n, .inr (.inr (.inr (.inr (fun i => (f i).map (mm_ad g))))))
  | x => x
def mm_trE (g : mm_G) (e : mm_E) : va_E := match e with
  | .inl (t, x) => .inl (g.2.1 t, mm_trA g x)
  | .inr (ci, fs) => .inr (ci, fs.map (mm_tr g))
def mm_up (M : mm_M) (a : Nat) (e : mm_E) : mm_M := fun b => if b = a then some e else M b
theorem mm_up_s {M : mm_M} {a : Nat} {e : mm_E} : mm_up M a e a = some e := by simp [mm_up]
theorem mm_up_n {M : mm_M} {a b : Nat} {e : mm_E} (h : b ≠ a) : mm_up M a e b = M b := by simp [mm_up, h]
theorem mm_ad_lt {g : mm_G} {a b : Nat} (ha : 1000 ≤ a) (h : a < b) : mm_ad g a < mm_ad g b := by
  unfold mm_ad
  rw [if_neg (by omega), if_neg (by omega)]
  omega
theorem mm_ad_inj {g : mm_G} {a b : Nat} (ha : 1000 ≤ a) (hb : 1000 ≤ b) (h : mm_ad g a = mm_ad g b) : a = b := by
  rcases Nat.lt_trichotomy a b with q | q | q
  · have := mm_ad_lt (g := g) ha q
    omega
  · exact q
  · have := mm_ad_lt (g := g) hb q
    omega
/-- the heap holds the cells: all that were made so far, in their order (some of them of no interest) -/
def mm_H (g : mm_G) (M : mm_M) (n : Nat) (H : Heap) : Prop := 1000 ≤ n ∧ H.size + 1000 = g.2.2.1 + n ∧ ∀ (a : Nat) (e : mm_E), M a = some e → 1000 ≤ a ∧ a < n ∧ va_at g.1 mm_cl (mm_ad g a, mm_trE g e) H
def mm_A (g : mm_G) : Nat → Prop := fun q => g.2.2.1 ≤ q
theorem mm_ad_A {g : mm_G} {a : Nat} (h : 1000 ≤ a) : mm_A g (mm_ad g a) := by
  unfold mm_A mm_ad
  rw [if_neg (by omega)]
  omega
theorem mm_one {D : va_G} {cl : List vw_C} {q : Nat × va_E} {H : Heap} (h : va_at D cl q H) : va_P D cl [q] H := by
  intro k r hk
  cases k with
  | zero => cases hk; exact h
  | succ k => simp at hk
theorem mm_H.P {g : mm_G} {M : mm_M} {n : Nat} {H : Heap} (h : mm_H g M n H) {a : Nat} {e : mm_E} (hm : M a = some e) : va_P g.1 mm_cl [(mm_ad g a, mm_trE g e)] H := mm_one (h.2.2 a e hm).2.2
/-- behind a write of one cell -/
theorem mm_H.set {g : mm_G} {M : mm_M} {n : Nat} {H H1 : Heap} (h : mm_H g M n H) {a : Nat} {e e1 : mm_E} (hm : M a = some e) (hz : H1.size = H.size) (ho : ∀ q : Nat, q ≠ mm_ad g a → H1[q]? = H[q]?) (hP : va_at g.1 mm_cl (mm_ad g a, mm_trE g e1) H1) : mm_H g (mm_up M a e1) n H1 := by
  refine ⟨h.1, by rw [hz]; exact h.2.1, fun b f hb => ?_⟩
  by_cases q : b = a
  · subst q
    rw [mm_up_s] at hb
    cases hb
    exact ⟨(h.2.2 b e hm).1, (h.2.2 b e hm).2.1, hP⟩
  · rw [mm_up_n q] at hb
    obtain ⟨h1, h2, h3⟩ := h.2.2 b f hb
    exact ⟨h1, h2, h3.kept (ho _ (fun z => q (mm_ad_inj h1 (h.2.2 a e hm).1 z)))⟩
theorem mm_H.end {g : mm_G} {M : mm_M} {n : Nat} {H : Heap} (h : mm_H g M n H) : mm_ad g n = H.size := by
  unfold mm_ad
  have h1 := h.1
  have h2 := h.2.1
  rw [if_neg (by omega)]
  omega
/-- behind a new cell -/
theorem mm_H.push {g : mm_G} {M : mm_M} {n : Nat} {H H1 : Heap} (h : mm_H g M n H) {e1 : mm_E} (hz : H1.size = H.size + 1) (ho : ∀ q : Nat, q < H.size → H1[q]? = H[q]?) (hP : va_at g.1 mm_cl (mm_ad g n, mm_trE g e1) H1) : mm_H g (mm_up M n e1) (n + 1) H1 := by
  have h1 := h.1
  have h2 := h.2.1
  refine ⟨by omega, by omega, fun b f hb => ?_⟩
  by_cases z : b = n
  · subst z
    rw [mm_up_s] at hb
    cases hb
    exact ⟨h1, by omega, hP⟩
  · rw [mm_up_n z] at hb
    obtain ⟨q1, q2, q3⟩ := h.2.2 b f hb
    exact ⟨q1, by omega, q3.kept (ho _ q3.lt)⟩
/-- cells of no interest come -/
theorem mm_H.more {g : mm_G} {M : mm_M} {n k : Nat} {H H1 : Heap} (h : mm_H g M n H) (hz : H1.size = H.size + k) (ho : ∀ q : Nat, q < H.size → H1[q]? = H[q]?) : mm_H g M (n + k) H1 := by
  have h1 := h.1
  have h2 := h.2.1
  refine ⟨by omega, by omega, fun b f hb => ?_⟩
  obtain ⟨q1, q2, q3⟩ := h.2.2 b f hb
  exact ⟨q1, by omega, q3.kept (ho _ q3.lt)⟩
/-- the locals: what is known of them -/
def mm_lg : List (Option Value) → Nat → Option Value
  | [], _ => none
  | a :: _, 0 => a
  | _ :: l, i + 1 => mm_lg l i
def mm_lset : List (Option Value) → Nat → Option Value → List (Option Value)
  | [], 0, v => [v]
  | [], i + 1, v => none :: mm_lset [] i v
  | _ :: l, 0, v => v :: l
  | a :: l, i + 1, v => a :: mm_lset l i v
theorem mm_lg_set : ∀ (l : List (Option Value)) (i : Nat) (v : Option Value) (j : Nat), mm_lg (mm_lset l i v) j = if j = i then v else mm_lg l j
  | [], 0, v, 0 => rfl
  | [], 0, v, j + 1 => rfl
  | [], i + 1, v, 0 => rfl
  | [], i + 1, v, j + 1 => by
    show mm_lg (mm_lset [] i v) j = _
    rw [mm_lg_set [] i v j]
    by_cases h : j = i
    · rw [if_pos h, if_pos (by omega)]
    · rw [if_neg h, if_neg (by omega)]; rfl
  | a :: l, 0, v, 0 => rfl
  | a :: l, 0, v, j + 1 => rfl
  | a :: l, i + 1, v, 0 => rfl
  | a :: l, i + 1, v, j + 1 => by
    show mm_lg (mm_lset l i v) j = _
    rw [mm_lg_set l i v j]
    by_cases h : j = i
    · rw [if_pos h, if_pos (by omega)]
    · rw [if_neg h, if_neg (by omega)]; rfl
/-- a value of two words is lost when its second word is written -/
def mm_c2 (o : Option Value) : Option Value := match o with
  | some (.long _) => none
  | some (.double _) => none
  | o => o
theorem mm_c2_of {o : Option Value} {v : Value} (h : mm_c2 o = some v) : o = some v ∧ ¬ v.category = 2 := by
  cases o with
  | none => cases h
  | some w => cases w <;> first | (cases h; done) | (cases h; exact ⟨rfl, by simp [Value.category]⟩)
def mm_st1 (ls : List (Option Value)) (i : Nat) (v : Value) : List (Option Value) := match i with
  | 0 => mm_lset ls 0 (some v)
  | i + 1 => mm_lset (mm_lset ls i (mm_c2 (mm_lg ls i))) (i + 1) (some v)
def mm_st2 (ls : List (Option Value)) (i : Nat) (v : Value) : List (Option Value) := mm_lset (mm_st1 ls i v) (i + 1) none
theorem mm_st1_of {ls : List (Option Value)} {i j : Nat} {v w : Value} (h : mm_lg (mm_st1 ls i v) j = some w) : (j = i ∧ w = v) ∨ (j ≠ i ∧ mm_lg ls j = some w ∧ ¬ (j + 1 = i ∧ w.category = 2)) := by
  cases i with
  | zero =>
    simp only [mm_st1, mm_lg_set] at h
    by_cases q : j = 0
    · rw [if_pos q] at h
      exact Or.inl ⟨q, (Option.some.inj h).symm⟩
    · rw [if_neg q] at h
      exact Or.inr ⟨q, h, fun z => by omega⟩
  | succ i =>
    simp only [mm_st1, mm_lg_set] at h
    by_cases q : j = i + 1
    · rw [if_pos q] at h
      exact Or.inl ⟨q, (Option.some.inj h).symm⟩
    · rw [if_neg q] at h
      by_cases q2 : j = i
      · rw [if_pos q2] at h
        obtain ⟨h1, h2⟩ := mm_c2_of h
        subst q2
        exact Or.inr ⟨q, h1, fun z => h2 z.2⟩
      · rw [if_neg q2] at h
        exact Or.inr ⟨q, h, fun z => by omega⟩
theorem mm_st2_of {ls : List (Option Value)} {i j : Nat} {v w : Value} (h : mm_lg (mm_st2 ls i v) j = some w) : (j = i ∧ w = v) ∨ (j ≠ i ∧ j ≠ i + 1 ∧ mm_lg ls j = some w ∧ ¬ (j + 1 = i ∧ w.category = 2)) := by
  simp only [mm_st2, mm_lg_set] at h
  by_cases q : j = i + 1
  · rw [if_pos q] at h; cases h
  · rw [if_neg q] at h
    rcases mm_st1_of h with h | ⟨h1, h2, h3⟩
    · exact Or.inl h
    · exact Or.inr ⟨h1, q, h2, h3⟩
theorem mm_tr_cat (g : mm_G) (v : Value) : (mm_tr g v).category = v.category := by cases v <;> rfl
def mm_L (g : mm_G) (nL : Nat) (ls : List (Option Value)) (lsM : Array Slot) : Prop := lsM.size = nL ∧ lv_wf lsM ∧ ∀ (i : Nat) (v : Value), mm_lg ls i = some v → lsM[i]? = some (.val (mm_tr g v))
def mm_kn (g : mm_G) (nL : Nat) (ls : List (Option Value)) : List (Nat × Value) := (List.range nL).filterMap (fun i => (mm_lg ls i).map (fun v => (i, mm_tr g v)))
theorem mm_kn_mem {g : mm_G} {nL : Nat} {ls : List (Option Value)} {q : Nat × Value} : q ∈ mm_kn g nL ls ↔ ∃ i v, i < nL ∧ mm_lg ls i = some v ∧ q = (i, mm_tr g v) := by
  unfold mm_kn
  rw [List.mem_filterMap]
  constructor
  · rintro ⟨a, ha, h⟩
    cases hm : mm_lg ls a with
    | none => rw [hm] at h; cases h
    | some e => rw [hm] at h; exact ⟨a, e, List.mem_range.mp ha, hm, (Option.some.inj h).symm⟩
  · rintro ⟨a, e, ha, hm, rfl⟩
    exact ⟨a, List.mem_range.mpr ha, by rw [hm]; rfl⟩
theorem mm_L.has {g : mm_G} {nL : Nat} {ls : List (Option Value)} {lsM : Array Slot} (h : mm_L g nL ls lsM) : lv_has lsM nL (mm_kn g nL ls) := by
  refine ⟨h.1, h.2.1, fun q hq => ?_⟩
  obtain ⟨i, v, -, hv, rfl⟩ := mm_kn_mem.mp hq
  exact h.2.2 i v hv
theorem mm_L.lt {g : mm_G} {nL : Nat} {ls : List (Option Value)} {lsM : Array Slot} (h : mm_L g nL ls lsM) {i : Nat} {v : Value} (hv : mm_lg ls i = some v) : i < nL := by
  have := lv_lt (h.2.2 i v hv)
  rw [h.1] at this
  exact this
theorem mm_L.st1 {g : mm_G} {nL i : Nat} {ls : List (Option Value)} {lsM ls1 : Array Slot} {v : Value} (h : mm_L g nL ls lsM) (h1 : lv_has ls1 nL ((i, mm_tr g v) :: (mm_kn g nL ls).filter (fun q => !(q.1 == i) && !(q.1 + 1 == i && q.2.category == 2)))) : mm_L g nL (mm_st1 ls i v) ls1 := by
  refine ⟨h1.1, h1.2.1, fun j w hw => ?_⟩
  rcases mm_st1_of hw with ⟨rfl, rfl⟩ | ⟨q1, q2, q3⟩
  · exact h1.2.2 (j, mm_tr g w) List.mem_cons_self
  · refine h1.2.2 (j, mm_tr g w) (List.mem_cons_of_mem _ (List.mem_filter.mpr ⟨mm_kn_mem.mpr ⟨j, w, h.lt q2, q2, rfl⟩, ?_⟩))
    simp only [Bool.and_eq_true, Bool.not_eq_true', beq_eq_false_iff_ne, ne_eq, Bool.and_eq_false_iff, mm_tr_cat]
    refine ⟨q1, ?_⟩
    by_cases z : j + 1 = i
    · exact Or.inr (fun z2 => q3 ⟨z, z2⟩)
    · exact Or.inl z
theorem mm_L.st2 {g : mm_G} {nL i : Nat} {ls : List (Option Value)} {lsM ls1 : Array Slot} {v : Value} (h : mm_L g nL ls lsM) (h1 : lv_has ls1 nL ((i, mm_tr g v) :: (mm_kn g nL ls).filter (fun q => !(q.1 == i) && (!(q.1 == i + 1) && !(q.1 + 1 == i && q.2.category == 2))))) : mm_L g nL (mm_st2 ls i v) ls1 := by
  refine ⟨h1.1, h1.2.1, fun j w hw => ?_⟩
  rcases mm_st2_of hw with ⟨rfl, rfl⟩ | ⟨q1, q2, q3, q4⟩
  · exact h1.2.2 (j, mm_tr g w) List.mem_cons_self
  · refine h1.2.2 (j, mm_tr g w) (List.mem_cons_of_mem _ (List.mem_filter.mpr ⟨mm_kn_mem.mpr ⟨j, w, h.lt q3, q3, rfl⟩, ?_⟩))
    simp only [Bool.and_eq_true, Bool.not_eq_true', beq_eq_false_iff_ne, ne_eq, Bool.and_eq_false_iff, mm_tr_cat]
    refine ⟨q1, q2, ?_⟩
    by_cases z : j + 1 = i
    · exact Or.inr (fun z2 => q4 ⟨z, z2⟩)
    · exact Or.inl z
theorem mm_L.less {g : mm_G} {nL : Nat} {ls ls1 : List (Option Value)} {lsM : Array Slot} (h : mm_L g nL ls lsM) (hs : ∀ (i : Nat) (v : Value), mm_lg ls1 i = some v → mm_lg ls i = some v) : mm_L g nL ls1 lsM := ⟨h.1, h.2.1, fun i v hv => h.2.2 i v (hs i v hv)⟩
end
section
/-! The judgement: from this place of the method, with these locals, this stack and these cells, the method comes to an end with Q. -/
abbrev mm_Y : Type := MethodName × ByteArray × Nat × Option FieldType
/-- an end: an answer, or the number of an exception's class; the cells; how many -/
abbrev mm_O : Type := (Option Value ⊕ Nat) × mm_M × Nat
def mm_xn (k : Nat) : String := match k with
  | 0 => "java/lang/IllegalArgumentException"
  | 1 => "java/lang/IndexOutOfBoundsException"
  | 2 => "java/lang/UnsupportedOperationException"
  | _ => "java/lang/IllegalStateException"
def mm_Xc (k : Nat) (x : Addr) (t : State) : Prop := ∃ cell : Cell, t.heap[x]? = some cell ∧ cell.vm.isStatics = false ∧ t.vm.findClass (mm_xn k) = some cell.cls
def mm_tys (g : mm_G) : List (ClassId × FieldType) := mm_ty.mapIdx (fun i t => (g.2.1 i, t))
theorem mm_tys_at {g : mm_G} {t : Nat} {ty : FieldType} (h : mm_ty[t]? = some ty) : (mm_tys g)[t]? = some (g.2.1 t, ty) := by
  unfold mm_tys
  rw [List.getElem?_mapIdx, h]
  rfl
/-- what holds all the time: classes and array classes; the static tables -/
def mm_sta : List (String × String × List Int32) := [("TensorForge$Reaches", "SIZES", [4096, 512, 512, 256, 256]), ("TensorForge$Words", "LOWEST_BIT", [0, 4, 5, 6, 7, 8, 20, 26, 31, 40, 49, 59]), ("TensorForge$Words", "MOST", [15, 1, 1, 1, 1, 4095, 63, 31, 511, 511, 1023, 31]), ("TensorForge$Words", "NAMED", [0, 0x5E0, 0x5E0, 0x1C0, 0x5E0, 0xFC0, 0xBC0, 0xBC0, 0x5E0, 0x800])]
def mm_Ist (g : mm_G) (U : State) (H : Heap) : Prop := ∀ (i : Nat) (q : String × String × List Int32), mm_sta[i]? = some q → va_Z q.1 q.2.1 "[I" (.ref (g.2.2.2 i)) (mm_A g) U H ∧ va_T .int (g.2.2.2 i) q.2.2.length (fun j => .int (q.2.2.getD j 0)) (mm_A g) U H
/-- what a throw needs beside the good words -/
def mm_Iex (g : mm_G) (U : State) (H : Heap) : Prop := (∀ w ∈ mm_nw, va_Nw w U) ∧ va_Zq "java/lang/Throwable" "UNASSIGNED_STACK" "[Ljava/lang/StackTraceElement;" (mm_A g) U H ∧ va_Zq "java/lang/Throwable" "SUPPRESSED_SENTINEL" "Ljava/util/List;" (mm_A g) U H ∧ ∀ a b : Nat, a < 4 → b < 4 → a ≠ b → va_Nc (mm_xn a) (mm_xn b) U
/-- the texts -/
def mm_Itx (g : mm_G) (U : State) (H : Heap) : Prop := (∀ q ∈ mm_strs, vk_R q.1 q.2.1 (mm_txt.getD q.2.2 "") (g.2.2.2 (100 + q.2.2)) U) ∧ vk_S mm_txt.length mm_len mm_byt (fun i => g.2.2.2 (100 + i)) (fun i => g.2.2.2 (500 + i)) (mm_A g) U H
def mm_I (g : mm_G) (U : State) (H : Heap) : Prop := va_K g.1 mm_cl (mm_tys g) U ∧ mm_Ist g U H ∧ mm_Iex g U H ∧ mm_Itx g U H
theorem mm_I.moved {g : mm_G} {u U : State} {H : Heap} (hW : u.WarmedH U.vm) (h : mm_I g u H) : mm_I g U H := by
  have hvm := hW.alike
  refine ⟨va_K.moved hvm h.1, fun i q hq => ⟨va_Z.moved hvm (h.2.1 i q hq).1, va_T.moved hvm (h.2.1 i q hq).2⟩, ⟨fun w hw => ?_, va_Zq.moved hvm h.2.2.1.2.1, va_Zq.moved hvm h.2.2.1.2.2.1, fun a b ha hb hab => (h.2.2.1.2.2.2 a b ha hb hab).moved hvm⟩, fun q hq => (h.2.2.2.1 q hq).warm hW, h.2.2.2.2.moved hvm⟩
  have h1 := h.2.2.1.1 w hw
  rcases mm_nw_ok w hw with ⟨C, T, rfl⟩ | ⟨x, rfl⟩
  · exact va_Nw.warmC hW h1
  · exact va_Nw.warmD hW h1
theorem mm_I.kept {g : mm_G} {U : State} {H H1 : Heap} (h : mm_I g U H) (hq : ∀ a : Nat, a < H.size → ¬ mm_A g a → H1[a]? = H[a]?) : mm_I g U H1 := ⟨h.1, fun i q hi => ⟨(h.2.1 i q hi).1.kept hq, (h.2.1 i q hi).2.kept hq⟩, ⟨h.2.2.1.1, h.2.2.1.2.1.kept hq, h.2.2.1.2.2.1.kept hq, h.2.2.1.2.2.2⟩, h.2.2.2.1, h.2.2.2.2.kept hq⟩
def mm_Cx (g : mm_G) (Y : mm_Y) (p : Program) (s : State) (m : MethodId) (args : Array Value) (meth : Method) (c : Code) : Prop :=
  p.tables.exec = Jvm.exec ∧ c.code = Y.2.1 ∧ c.maxLocals = Y.2.2.1 ∧ meth.sig.returnType = Y.2.2.2 ∧ s.vm.findClass Y.1.cls = some m.cls ∧ (∀ w ∈ mm_tb, w.before args s = true) ∧ meth.locks = false ∧ (meth.name = Y.1.name ∧ s.methodNamed? Y.1 = some m) ∧ mm_I g s s.heap ∧ g.2.2.1 ≤ s.heap.size
/-- how a method ends -/
def mm_Po (g : mm_G) (mc ms : Nat) (s : State) (Q : mm_O → Prop) (o : Outcome) (t : State) : Prop := ∃ (u : mm_O) (L : List Loc), Q u ∧ mm_H g u.2.1 u.2.2 t.heap ∧ (∀ q : Nat, q < g.2.2.1 → t.heap[q]? = s.heap[q]?) ∧ (∀ q ∈ L, mm_A g q.base) ∧ s.WarmedH t.vm ∧ s.sameButNew ({ t with vm := s.vm } : State) L mc ms ∧ (match u.1 with
  | .inl v => o = .returned (v.map (mm_tr g))
  | .inr k => ∃ x : Addr, o = .threw x ∧ mm_Xc k x t)
def mm_Fin (g : mm_G) (mc ms : Nat) (below : List Frame) (s : State) (Q : mm_O → Prop) (t : State) : Prop := ∃ o, t.status = .running ∧ Ended t below o ∧ mm_Po g mc ms s Q o t
def mm_Ev (g : mm_G) (l : Launch) (Y : mm_Y) (rm : Room) (Q : mm_O → Prop) (pc : Nat) (ls : List (Option Value)) (st : List Value) (M : mm_M) (n k j : Nat) : Prop :=
  ∀ (p : Program) (e : Env) (s : State) (m : MethodId) (args : Array Value) (below : List Frame) (meth : Method) (c : Code) (H : Heap) (locs : List Loc) (lsM : Array Slot),
    mm_Cx g Y p s m args meth c → mm_H g M n H → va_S (mm_A g) s.heap H locs → mm_L g Y.2.2.1 ls lsM → W p l e rm s m args below meth c H locs k j (mm_Fin g rm.cells rm.slots below s Q) (F0 m pc lsM (st.map (mm_tr g)))
section MMEV
variable {g : mm_G} {l : Launch} {Y : mm_Y} {rm : Room} {Q : mm_O → Prop} {pc : Nat} {ls : List (Option Value)} {st : List Value} {M : mm_M} {n k j : Nat}

theorem mm_iconst {z : Int} {v : Int32} (hv : Int32.ofInt z = v) (hd : decode Y.2.1 pc = .ok (.iconst z, 1)) (kk : mm_Ev g l Y rm Q (pc + 1) ls (.int v :: st) M n k j) : mm_Ev g l Y rm Q pc ls (st) M n k j := by
  intro p e s m args below meth c H locs lsM hC hH hS hL
  exact lv_iconst hC.1 hC.2.1 hd hv (kk p e s m args below meth c H locs lsM hC hH hS hL)
theorem mm_bipush {z : Int} {v : Int32} (hv : (Int8.ofInt z).toInt32 = v) (hd : decode Y.2.1 pc = .ok (.bipush z, 2)) (kk : mm_Ev g l Y rm Q (pc + 2) ls (.int v :: st) M n k j) : mm_Ev g l Y rm Q pc ls (st) M n k j := by
  intro p e s m args below meth c H locs lsM hC hH hS hL
  exact lv_bipush hC.1 hC.2.1 hd hv (kk p e s m args below meth c H locs lsM hC hH hS hL)
theorem mm_sipush {z : Int} {v : Int32} (hv : (Int16.ofInt z).toInt32 = v) (hd : decode Y.2.1 pc = .ok (.sipush z, 3)) (kk : mm_Ev g l Y rm Q (pc + 3) ls (.int v :: st) M n k j) : mm_Ev g l Y rm Q pc ls (st) M n k j := by
  intro p e s m args below meth c H locs lsM hC hH hS hL
  exact lv_sipush hC.1 hC.2.1 hd hv (kk p e s m args below meth c H locs lsM hC hH hS hL)
theorem mm_lconst {z : Fin 2} {v : Int64} (hv : Int64.ofNat (z : Nat) = v) (hd : decode Y.2.1 pc = .ok (.lconst z, 1)) (kk : mm_Ev g l Y rm Q (pc + 1) ls (.long v :: st) M n k j) : mm_Ev g l Y rm Q pc ls (st) M n k j := by
  intro p e s m args below meth c H locs lsM hC hH hS hL
  exact lv_lconst hC.1 hC.2.1 hd hv (kk p e s m args below meth c H locs lsM hC hH hS hL)
theorem mm_iload_n {q : Fin 4} {x : Int32} (hv : mm_lg ls (q : Nat) = some (.int x)) (hd : decode Y.2.1 pc = .ok (.iload_n q, 1)) (kk : mm_Ev g l Y rm Q (pc + 1) ls (.int x :: st) M n k j) : mm_Ev g l Y rm Q pc ls (st) M n k j := by
  intro p e s m args below meth c H locs lsM hC hH hS hL
  exact lv_iload_n hC.1 hC.2.1 hd rfl (hL.2.2 _ _ hv) (kk p e s m args below meth c H locs lsM hC hH hS hL)
theorem mm_iload {i : Nat} {x : Int32} (hv : mm_lg ls i = some (.int x)) (hd : decode Y.2.1 pc = .ok (.iload i, 2)) (kk : mm_Ev g l Y rm Q (pc + 2) ls (.int x :: st) M n k j) : mm_Ev g l Y rm Q pc ls (st) M n k j := by
  intro p e s m args below meth c H locs lsM hC hH hS hL
  exact lv_iload hC.1 hC.2.1 hd (hL.2.2 _ _ hv) (kk p e s m args below meth c H locs lsM hC hH hS hL)
theorem mm_lload_n {q : Fin 4} {x : Int64} (hv : mm_lg ls (q : Nat) = some (.long x)) (hd : decode Y.2.1 pc = .ok (.lload_n q, 1)) (kk : mm_Ev g l Y rm Q (pc + 1) ls (.long x :: st) M n k j) : mm_Ev g l Y rm Q pc ls (st) M n k j := by
  intro p e s m args below meth c H locs lsM hC hH hS hL
  exact lv_lload_n hC.1 hC.2.1 hd rfl (hL.2.2 _ _ hv) (kk p e s m args below meth c H locs lsM hC hH hS hL)
theorem mm_lload {i : Nat} {x : Int64} (hv : mm_lg ls i = some (.long x)) (hd : decode Y.2.1 pc = .ok (.lload i, 2)) (kk : mm_Ev g l Y rm Q (pc + 2) ls (.long x :: st) M n k j) : mm_Ev g l Y rm Q pc ls (st) M n k j := by
  intro p e s m args below meth c H locs lsM hC hH hS hL
  exact lv_lload hC.1 hC.2.1 hd (hL.2.2 _ _ hv) (kk p e s m args below meth c H locs lsM hC hH hS hL)
theorem mm_aload_n {q : Fin 4} {x : Nat} (hv : mm_lg ls (q : Nat) = some (.ref x)) (hd : decode Y.2.1 pc = .ok (.aload_n q, 1)) (kk : mm_Ev g l Y rm Q (pc + 1) ls (.ref x :: st) M n k j) : mm_Ev g l Y rm Q pc ls (st) M n k j := by
  intro p e s m args below meth c H locs lsM hC hH hS hL
  exact lv_aload_n hC.1 hC.2.1 hd rfl (hL.2.2 _ _ hv) (kk p e s m args below meth c H locs lsM hC hH hS hL)
theorem mm_aload {i : Nat} {x : Nat} (hv : mm_lg ls i = some (.ref x)) (hd : decode Y.2.1 pc = .ok (.aload i, 2)) (kk : mm_Ev g l Y rm Q (pc + 2) ls (.ref x :: st) M n k j) : mm_Ev g l Y rm Q pc ls (st) M n k j := by
  intro p e s m args below meth c H locs lsM hC hH hS hL
  exact lv_aload hC.1 hC.2.1 hd (hL.2.2 _ _ hv) (kk p e s m args below meth c H locs lsM hC hH hS hL)
theorem mm_istore_n {q : Fin 4} {x : Int32} {ls1 : List (Option Value)} (hd : decode Y.2.1 pc = .ok (.istore_n q, 1)) (hn : ((q : Nat) < Y.2.2.1)) (hl : mm_st1 ls (q : Nat) (.int x) = ls1) (kk : mm_Ev g l Y rm Q (pc + 1) ls1 st M n k j) : mm_Ev g l Y rm Q pc ls (.int x :: st) M n k j := by
  intro p e s m args below meth c H locs lsM hC hH hS hL
  subst hl
  exact lv_istore_n hC.1 hC.2.1 hd rfl hL.has hn rfl (fun ls2 h2 => kk p e s m args below meth c H locs ls2 hC hH hS (hL.st1 (v := .int x) h2))
theorem mm_istore {i : Nat} {x : Int32} {ls1 : List (Option Value)} (hd : decode Y.2.1 pc = .ok (.istore i, 2)) (hn : (i < Y.2.2.1)) (hl : mm_st1 ls i (.int x) = ls1) (kk : mm_Ev g l Y rm Q (pc + 2) ls1 st M n k j) : mm_Ev g l Y rm Q pc ls (.int x :: st) M n k j := by
  intro p e s m args below meth c H locs lsM hC hH hS hL
  subst hl
  exact lv_istore hC.1 hC.2.1 hd hL.has hn rfl (fun ls2 h2 => kk p e s m args below meth c H locs ls2 hC hH hS (hL.st1 (v := .int x) h2))
theorem mm_lstore_n {q : Fin 4} {x : Int64} {ls1 : List (Option Value)} (hd : decode Y.2.1 pc = .ok (.lstore_n q, 1)) (hn : ((q : Nat) + 1 < Y.2.2.1)) (hl : mm_st2 ls (q : Nat) (.long x) = ls1) (kk : mm_Ev g l Y rm Q (pc + 1) ls1 st M n k j) : mm_Ev g l Y rm Q pc ls (.long x :: st) M n k j := by
  intro p e s m args below meth c H locs lsM hC hH hS hL
  subst hl
  exact lv_lstore_n hC.1 hC.2.1 hd rfl hL.has hn rfl (fun ls2 h2 => kk p e s m args below meth c H locs ls2 hC hH hS (hL.st2 (v := .long x) h2))
theorem mm_lstore {i : Nat} {x : Int64} {ls1 : List (Option Value)} (hd : decode Y.2.1 pc = .ok (.lstore i, 2)) (hn : (i + 1 < Y.2.2.1)) (hl : mm_st2 ls i (.long x) = ls1) (kk : mm_Ev g l Y rm Q (pc + 2) ls1 st M n k j) : mm_Ev g l Y rm Q pc ls (.long x :: st) M n k j := by
  intro p e s m args below meth c H locs lsM hC hH hS hL
  subst hl
  exact lv_lstore hC.1 hC.2.1 hd hL.has hn rfl (fun ls2 h2 => kk p e s m args below meth c H locs ls2 hC hH hS (hL.st2 (v := .long x) h2))
theorem mm_astore_n {q : Fin 4} {x : Nat} {ls1 : List (Option Value)} (hd : decode Y.2.1 pc = .ok (.astore_n q, 1)) (hn : ((q : Nat) < Y.2.2.1)) (hl : mm_st1 ls (q : Nat) (.ref x) = ls1) (kk : mm_Ev g l Y rm Q (pc + 1) ls1 st M n k j) : mm_Ev g l Y rm Q pc ls (.ref x :: st) M n k j := by
  intro p e s m args below meth c H locs lsM hC hH hS hL
  subst hl
  exact lv_astore_n hC.1 hC.2.1 hd rfl hL.has hn rfl (fun ls2 h2 => kk p e s m args below meth c H locs ls2 hC hH hS (hL.st1 (v := .ref x) h2))
theorem mm_astore {i : Nat} {x : Nat} {ls1 : List (Option Value)} (hd : decode Y.2.1 pc = .ok (.astore i, 2)) (hn : (i < Y.2.2.1)) (hl : mm_st1 ls i (.ref x) = ls1) (kk : mm_Ev g l Y rm Q (pc + 2) ls1 st M n k j) : mm_Ev g l Y rm Q pc ls (.ref x :: st) M n k j := by
  intro p e s m args below meth c H locs lsM hC hH hS hL
  subst hl
  exact lv_astore hC.1 hC.2.1 hd hL.has hn rfl (fun ls2 h2 => kk p e s m args below meth c H locs ls2 hC hH hS (hL.st1 (v := .ref x) h2))
theorem mm_iinc {i : Nat} {z : Int} {x v : Int32} {ls1 : List (Option Value)} (hd : decode Y.2.1 pc = .ok (.iinc i z, 3)) (hg : mm_lg ls i = some (.int x)) (hv : x + Int32.ofInt z = v) (hl : mm_st1 ls i (.int v) = ls1) (kk : mm_Ev g l Y rm Q (pc + 3) ls1 st M n k j) : mm_Ev g l Y rm Q pc ls st M n k j := by
  intro p e s m args below meth c H locs lsM hC hH hS hL
  subst hl
  obtain ⟨q, hq⟩ := List.getElem?_of_mem (mm_kn_mem.mpr ⟨i, .int x, hL.lt hg, hg, rfl⟩)
  exact lv_iinc hC.1 hC.2.1 hd hL.has hq hv (hL.lt hg) rfl (fun ls2 h2 => kk p e s m args below meth c H locs ls2 hC hH hS (hL.st1 (v := .int v) h2))
theorem mm_iadd {x y : Int32} (hd : decode Y.2.1 pc = .ok (.iadd, 1)) (kk : mm_Ev g l Y rm Q (pc + 1) ls (.int (x + y) :: st) M n k j) : mm_Ev g l Y rm Q pc ls (.int y :: .int x :: st) M n k j := by
  intro p e s m args below meth c H locs lsM hC hH hS hL
  exact lv_iadd hC.1 hC.2.1 hd (kk p e s m args below meth c H locs lsM hC hH hS hL)
theorem mm_isub {x y : Int32} (hd : decode Y.2.1 pc = .ok (.isub, 1)) (kk : mm_Ev g l Y rm Q (pc + 1) ls (.int (x - y) :: st) M n k j) : mm_Ev g l Y rm Q pc ls (.int y :: .int x :: st) M n k j := by
  intro p e s m args below meth c H locs lsM hC hH hS hL
  exact lv_isub hC.1 hC.2.1 hd (kk p e s m args below meth c H locs lsM hC hH hS hL)
theorem mm_imul {x y : Int32} (hd : decode Y.2.1 pc = .ok (.imul, 1)) (kk : mm_Ev g l Y rm Q (pc + 1) ls (.int (x * y) :: st) M n k j) : mm_Ev g l Y rm Q pc ls (.int y :: .int x :: st) M n k j := by
  intro p e s m args below meth c H locs lsM hC hH hS hL
  exact lv_imul hC.1 hC.2.1 hd (kk p e s m args below meth c H locs lsM hC hH hS hL)
theorem mm_iand {x y : Int32} (hd : decode Y.2.1 pc = .ok (.iand, 1)) (kk : mm_Ev g l Y rm Q (pc + 1) ls (.int (x &&& y) :: st) M n k j) : mm_Ev g l Y rm Q pc ls (.int y :: .int x :: st) M n k j := by
  intro p e s m args below meth c H locs lsM hC hH hS hL
  exact lv_iand hC.1 hC.2.1 hd (kk p e s m args below meth c H locs lsM hC hH hS hL)
theorem mm_ior {x y : Int32} (hd : decode Y.2.1 pc = .ok (.ior, 1)) (kk : mm_Ev g l Y rm Q (pc + 1) ls (.int (x ||| y) :: st) M n k j) : mm_Ev g l Y rm Q pc ls (.int y :: .int x :: st) M n k j := by
  intro p e s m args below meth c H locs lsM hC hH hS hL
  exact lv_ior hC.1 hC.2.1 hd (kk p e s m args below meth c H locs lsM hC hH hS hL)
theorem mm_ixor {x y : Int32} (hd : decode Y.2.1 pc = .ok (.ixor, 1)) (kk : mm_Ev g l Y rm Q (pc + 1) ls (.int (x ^^^ y) :: st) M n k j) : mm_Ev g l Y rm Q pc ls (.int y :: .int x :: st) M n k j := by
  intro p e s m args below meth c H locs lsM hC hH hS hL
  exact lv_ixor hC.1 hC.2.1 hd (kk p e s m args below meth c H locs lsM hC hH hS hL)
theorem mm_ladd {x y : Int64} (hd : decode Y.2.1 pc = .ok (.ladd, 1)) (kk : mm_Ev g l Y rm Q (pc + 1) ls (.long (x + y) :: st) M n k j) : mm_Ev g l Y rm Q pc ls (.long y :: .long x :: st) M n k j := by
  intro p e s m args below meth c H locs lsM hC hH hS hL
  exact lv_ladd hC.1 hC.2.1 hd (kk p e s m args below meth c H locs lsM hC hH hS hL)
theorem mm_lsub {x y : Int64} (hd : decode Y.2.1 pc = .ok (.lsub, 1)) (kk : mm_Ev g l Y rm Q (pc + 1) ls (.long (x - y) :: st) M n k j) : mm_Ev g l Y rm Q pc ls (.long y :: .long x :: st) M n k j := by
  intro p e s m args below meth c H locs lsM hC hH hS hL
  exact lv_lsub hC.1 hC.2.1 hd (kk p e s m args below meth c H locs lsM hC hH hS hL)
theorem mm_lmul {x y : Int64} (hd : decode Y.2.1 pc = .ok (.lmul, 1)) (kk : mm_Ev g l Y rm Q (pc + 1) ls (.long (x * y) :: st) M n k j) : mm_Ev g l Y rm Q pc ls (.long y :: .long x :: st) M n k j := by
  intro p e s m args below meth c H locs lsM hC hH hS hL
  exact lv_lmul hC.1 hC.2.1 hd (kk p e s m args below meth c H locs lsM hC hH hS hL)
theorem mm_land {x y : Int64} (hd : decode Y.2.1 pc = .ok (.land, 1)) (kk : mm_Ev g l Y rm Q (pc + 1) ls (.long (x &&& y) :: st) M n k j) : mm_Ev g l Y rm Q pc ls (.long y :: .long x :: st) M n k j := by
  intro p e s m args below meth c H locs lsM hC hH hS hL
  exact lv_land hC.1 hC.2.1 hd (kk p e s m args below meth c H locs lsM hC hH hS hL)
theorem mm_lor {x y : Int64} (hd : decode Y.2.1 pc = .ok (.lor, 1)) (kk : mm_Ev g l Y rm Q (pc + 1) ls (.long (x ||| y) :: st) M n k j) : mm_Ev g l Y rm Q pc ls (.long y :: .long x :: st) M n k j := by
  intro p e s m args below meth c H locs lsM hC hH hS hL
  exact lv_lor hC.1 hC.2.1 hd (kk p e s m args below meth c H locs lsM hC hH hS hL)
theorem mm_lxor {x y : Int64} (hd : decode Y.2.1 pc = .ok (.lxor, 1)) (kk : mm_Ev g l Y rm Q (pc + 1) ls (.long (x ^^^ y) :: st) M n k j) : mm_Ev g l Y rm Q pc ls (.long y :: .long x :: st) M n k j := by
  intro p e s m args below meth c H locs lsM hC hH hS hL
  exact lv_lxor hC.1 hC.2.1 hd (kk p e s m args below meth c H locs lsM hC hH hS hL)
theorem mm_idiv {x y : Int32} (hne : ¬ y = 0) (hd : decode Y.2.1 pc = .ok (.idiv, 1)) (kk : mm_Ev g l Y rm Q (pc + 1) ls (.int (x / y) :: st) M n k j) : mm_Ev g l Y rm Q pc ls (.int y :: .int x :: st) M n k j := by
  intro p e s m args below meth c H locs lsM hC hH hS hL
  exact lv_idiv hC.1 hC.2.1 hd hne (kk p e s m args below meth c H locs lsM hC hH hS hL)
theorem mm_irem {x y : Int32} (hne : ¬ y = 0) (hd : decode Y.2.1 pc = .ok (.irem, 1)) (kk : mm_Ev g l Y rm Q (pc + 1) ls (.int (x - x / y * y) :: st) M n k j) : mm_Ev g l Y rm Q pc ls (.int y :: .int x :: st) M n k j := by
  intro p e s m args below meth c H locs lsM hC hH hS hL
  exact lv_irem hC.1 hC.2.1 hd hne (kk p e s m args below meth c H locs lsM hC hH hS hL)
theorem mm_ineg {x : Int32} (hd : decode Y.2.1 pc = .ok (.ineg, 1)) (kk : mm_Ev g l Y rm Q (pc + 1) ls (.int (-x) :: st) M n k j) : mm_Ev g l Y rm Q pc ls (.int x :: st) M n k j := by
  intro p e s m args below meth c H locs lsM hC hH hS hL
  exact lv_ineg hC.1 hC.2.1 hd (kk p e s m args below meth c H locs lsM hC hH hS hL)
theorem mm_ishl {x y : Int32} (hd : decode Y.2.1 pc = .ok (.ishl, 1)) (kk : mm_Ev g l Y rm Q (pc + 1) ls (.int (x <<< (y &&& 31)) :: st) M n k j) : mm_Ev g l Y rm Q pc ls (.int y :: .int x :: st) M n k j := by
  intro p e s m args below meth c H locs lsM hC hH hS hL
  exact lv_ishl hC.1 hC.2.1 hd (kk p e s m args below meth c H locs lsM hC hH hS hL)
theorem mm_ishr {x y : Int32} (hd : decode Y.2.1 pc = .ok (.ishr, 1)) (kk : mm_Ev g l Y rm Q (pc + 1) ls (.int (x >>> (y &&& 31)) :: st) M n k j) : mm_Ev g l Y rm Q pc ls (.int y :: .int x :: st) M n k j := by
  intro p e s m args below meth c H locs lsM hC hH hS hL
  exact lv_ishr hC.1 hC.2.1 hd (kk p e s m args below meth c H locs lsM hC hH hS hL)
theorem mm_iushr {x y v : Int32} (hv : (x.toUInt32 >>> (y.toUInt32 &&& Int32.toUInt32 31)).toInt32 = v) (hd : decode Y.2.1 pc = .ok (.iushr, 1)) (kk : mm_Ev g l Y rm Q (pc + 1) ls (.int v :: st) M n k j) : mm_Ev g l Y rm Q pc ls (.int y :: .int x :: st) M n k j := by
  intro p e s m args below meth c H locs lsM hC hH hS hL
  exact lv_iushr hC.1 hC.2.1 hd hv (kk p e s m args below meth c H locs lsM hC hH hS hL)
theorem mm_lushr {x v : Int64} {y : Int32} (hv : (x.toUInt64 >>> (y.toInt64.toUInt64 &&& Int64.toUInt64 63)).toInt64 = v) (hd : decode Y.2.1 pc = .ok (.lushr, 1)) (kk : mm_Ev g l Y rm Q (pc + 1) ls (.long v :: st) M n k j) : mm_Ev g l Y rm Q pc ls (.int y :: .long x :: st) M n k j := by
  intro p e s m args below meth c H locs lsM hC hH hS hL
  exact lv_lushr hC.1 hC.2.1 hd hv (kk p e s m args below meth c H locs lsM hC hH hS hL)
theorem mm_lshl {x v : Int64} {y : Int32} (hv : x <<< (y.toInt64 &&& 63) = v) (hd : decode Y.2.1 pc = .ok (.lshl, 1)) (kk : mm_Ev g l Y rm Q (pc + 1) ls (.long v :: st) M n k j) : mm_Ev g l Y rm Q pc ls (.int y :: .long x :: st) M n k j := by
  intro p e s m args below meth c H locs lsM hC hH hS hL
  exact lv_lshl hC.1 hC.2.1 hd hv (kk p e s m args below meth c H locs lsM hC hH hS hL)
theorem mm_lshr {x v : Int64} {y : Int32} (hv : x >>> (y.toInt64 &&& 63) = v) (hd : decode Y.2.1 pc = .ok (.lshr, 1)) (kk : mm_Ev g l Y rm Q (pc + 1) ls (.long v :: st) M n k j) : mm_Ev g l Y rm Q pc ls (.int y :: .long x :: st) M n k j := by
  intro p e s m args below meth c H locs lsM hC hH hS hL
  exact lv_lshr hC.1 hC.2.1 hd hv (kk p e s m args below meth c H locs lsM hC hH hS hL)
theorem mm_i2l {x : Int32} {v : Int64} (hv : x.toInt64 = v) (hd : decode Y.2.1 pc = .ok (.i2l, 1)) (kk : mm_Ev g l Y rm Q (pc + 1) ls (.long v :: st) M n k j) : mm_Ev g l Y rm Q pc ls (.int x :: st) M n k j := by
  intro p e s m args below meth c H locs lsM hC hH hS hL
  exact lv_i2l hC.1 hC.2.1 hd hv (kk p e s m args below meth c H locs lsM hC hH hS hL)
theorem mm_l2i {x : Int64} {v : Int32} (hv : x.toInt32 = v) (hd : decode Y.2.1 pc = .ok (.l2i, 1)) (kk : mm_Ev g l Y rm Q (pc + 1) ls (.int v :: st) M n k j) : mm_Ev g l Y rm Q pc ls (.long x :: st) M n k j := by
  intro p e s m args below meth c H locs lsM hC hH hS hL
  exact lv_l2i hC.1 hC.2.1 hd hv (kk p e s m args below meth c H locs lsM hC hH hS hL)
theorem mm_i2b {x v : Int32} (hv : x.toInt8.toInt32 = v) (hd : decode Y.2.1 pc = .ok (.i2b, 1)) (kk : mm_Ev g l Y rm Q (pc + 1) ls (.int v :: st) M n k j) : mm_Ev g l Y rm Q pc ls (.int x :: st) M n k j := by
  intro p e s m args below meth c H locs lsM hC hH hS hL
  exact lv_i2b hC.1 hC.2.1 hd hv (kk p e s m args below meth c H locs lsM hC hH hS hL)
theorem mm_i2c {x v : Int32} (hv : (x.toUInt32 % 65536).toInt32 = v) (hd : decode Y.2.1 pc = .ok (.i2c, 1)) (kk : mm_Ev g l Y rm Q (pc + 1) ls (.int v :: st) M n k j) : mm_Ev g l Y rm Q pc ls (.int x :: st) M n k j := by
  intro p e s m args below meth c H locs lsM hC hH hS hL
  exact lv_i2c hC.1 hC.2.1 hd hv (kk p e s m args below meth c H locs lsM hC hH hS hL)
theorem mm_dup {v : Value} (hv : v.category = 1) (hd : decode Y.2.1 pc = .ok (.dup, 1)) (kk : mm_Ev g l Y rm Q (pc + 1) ls (v :: v :: st) M n k j) : mm_Ev g l Y rm Q pc ls (v :: st) M n k j := by
  intro p e s m args below meth c H locs lsM hC hH hS hL
  exact lv_dup hC.1 hC.2.1 hd (by rw [mm_tr_cat]; exact hv) (kk p e s m args below meth c H locs lsM hC hH hS hL)
theorem mm_pop {v : Value} (hv : v.category = 1) (hd : decode Y.2.1 pc = .ok (.pop, 1)) (kk : mm_Ev g l Y rm Q (pc + 1) ls (st) M n k j) : mm_Ev g l Y rm Q pc ls (v :: st) M n k j := by
  intro p e s m args below meth c H locs lsM hC hH hS hL
  exact lv_pop hC.1 hC.2.1 hd (by rw [mm_tr_cat]; exact hv) (kk p e s m args below meth c H locs lsM hC hH hS hL)
theorem mm_dup_x1 {v w : Value} (hv : v.category = 1) (hw : w.category = 1) (hd : decode Y.2.1 pc = .ok (.dup_x1, 1)) (kk : mm_Ev g l Y rm Q (pc + 1) ls (v :: w :: v :: st) M n k j) : mm_Ev g l Y rm Q pc ls (v :: w :: st) M n k j := by
  intro p e s m args below meth c H locs lsM hC hH hS hL
  exact lv_dup_x1 hC.1 hC.2.1 hd (by rw [mm_tr_cat]; exact hv) (by rw [mm_tr_cat]; exact hw) (kk p e s m args below meth c H locs lsM hC hH hS hL)
theorem mm_dup_x2 {v w u : Value} (hv : v.category = 1) (hw : w.category = 1) (hu : u.category = 1) (hd : decode Y.2.1 pc = .ok (.dup_x2, 1)) (kk : mm_Ev g l Y rm Q (pc + 1) ls (v :: w :: u :: v :: st) M n k j) : mm_Ev g l Y rm Q pc ls (v :: w :: u :: st) M n k j := by
  intro p e s m args below meth c H locs lsM hC hH hS hL
  exact lv_dup_x2 hC.1 hC.2.1 hd (by rw [mm_tr_cat]; exact hv) (by rw [mm_tr_cat]; exact hw) (by rw [mm_tr_cat]; exact hu) (kk p e s m args below meth c H locs lsM hC hH hS hL)
theorem mm_dup2_11 {v w : Value} (hv : v.category = 1) (hw : w.category = 1) (hd : decode Y.2.1 pc = .ok (.dup2, 1)) (kk : mm_Ev g l Y rm Q (pc + 1) ls (v :: w :: v :: w :: st) M n k j) : mm_Ev g l Y rm Q pc ls (v :: w :: st) M n k j := by
  intro p e s m args below meth c H locs lsM hC hH hS hL
  exact lv_dup2_11 hC.1 hC.2.1 hd (by rw [mm_tr_cat]; exact hv) (by rw [mm_tr_cat]; exact hw) (kk p e s m args below meth c H locs lsM hC hH hS hL)
theorem mm_dup2_2 {v : Value} (hv : v.category = 2) (hd : decode Y.2.1 pc = .ok (.dup2, 1)) (kk : mm_Ev g l Y rm Q (pc + 1) ls (v :: v :: st) M n k j) : mm_Ev g l Y rm Q pc ls (v :: st) M n k j := by
  intro p e s m args below meth c H locs lsM hC hH hS hL
  exact lv_dup2_2 hC.1 hC.2.1 hd (by rw [mm_tr_cat]; exact hv) (kk p e s m args below meth c H locs lsM hC hH hS hL)
theorem mm_pop2_2 {v : Value} (hv : v.category = 2) (hd : decode Y.2.1 pc = .ok (.pop2, 1)) (kk : mm_Ev g l Y rm Q (pc + 1) ls (st) M n k j) : mm_Ev g l Y rm Q pc ls (v :: st) M n k j := by
  intro p e s m args below meth c H locs lsM hC hH hS hL
  exact lv_pop2_2 hC.1 hC.2.1 hd (by rw [mm_tr_cat]; exact hv) (kk p e s m args below meth c H locs lsM hC hH hS hL)
theorem mm_dup2_x1_2 {v w : Value} (hv : v.category = 2) (hw : w.category = 1) (hd : decode Y.2.1 pc = .ok (.dup2_x1, 1)) (kk : mm_Ev g l Y rm Q (pc + 1) ls (v :: w :: v :: st) M n k j) : mm_Ev g l Y rm Q pc ls (v :: w :: st) M n k j := by
  intro p e s m args below meth c H locs lsM hC hH hS hL
  exact lv_dup2_x1_2 hC.1 hC.2.1 hd (by rw [mm_tr_cat]; exact hv) (by rw [mm_tr_cat]; exact hw) (kk p e s m args below meth c H locs lsM hC hH hS hL)
theorem mm_dup2_x2_2 {v w u : Value} (hv : v.category = 2) (hw : w.category = 1) (hu : u.category = 1) (hd : decode Y.2.1 pc = .ok (.dup2_x2, 1)) (kk : mm_Ev g l Y rm Q (pc + 1) ls (v :: w :: u :: v :: st) M n k j) : mm_Ev g l Y rm Q pc ls (v :: w :: u :: st) M n k j := by
  intro p e s m args below meth c H locs lsM hC hH hS hL
  exact lv_dup2_x2_2 hC.1 hC.2.1 hd (by rw [mm_tr_cat]; exact hv) (by rw [mm_tr_cat]; exact hw) (by rw [mm_tr_cat]; exact hu) (kk p e s m args below meth c H locs lsM hC hH hS hL)
theorem mm_lcmp {x y : Int64} (hd : decode Y.2.1 pc = .ok (.lcmp, 1)) (kk : mm_Ev g l Y rm Q (pc + 1) ls (.int (lg_cmp x y) :: st) M n k j) : mm_Ev g l Y rm Q pc ls (.long y :: .long x :: st) M n k j := by
  intro p e s m args below meth c H locs lsM hC hH hS hL
  exact W.lcmp hC.1 hC.2.1 hd (kk p e s m args below meth c H locs lsM hC hH hS hL)
theorem mm_icmp_eq {x y : Int32} {off : Int} {tgt : Nat} (hd : decode Y.2.1 pc = .ok (.if_icmp .eq off, 3)) (ht : (pc : Int) + off = (tgt : Int)) (kt : (x = y) → mm_Ev g l Y rm Q tgt ls st M n k j) (kf : ¬ (x = y) → mm_Ev g l Y rm Q (pc + 3) ls st M n k j) : mm_Ev g l Y rm Q pc ls (.int y :: .int x :: st) M n k j := by
  intro p e s m args below meth c H locs lsM hC hH hS hL
  exact lv_icmp_eq hC.1 hC.2.1 hd ht (fun h => kt h p e s m args below meth c H locs lsM hC hH hS hL) (fun h => kf h p e s m args below meth c H locs lsM hC hH hS hL)
theorem mm_if_eq {x : Int32} {off : Int} {tgt : Nat} (hd : decode Y.2.1 pc = .ok (.ifCond .eq off, 3)) (ht : (pc : Int) + off = (tgt : Int)) (kt : (x = 0) → mm_Ev g l Y rm Q tgt ls st M n k j) (kf : ¬ (x = 0) → mm_Ev g l Y rm Q (pc + 3) ls st M n k j) : mm_Ev g l Y rm Q pc ls (.int x :: st) M n k j := by
  intro p e s m args below meth c H locs lsM hC hH hS hL
  exact lv_if_eq hC.1 hC.2.1 hd ht (fun h => kt h p e s m args below meth c H locs lsM hC hH hS hL) (fun h => kf h p e s m args below meth c H locs lsM hC hH hS hL)
theorem mm_icmp_ne {x y : Int32} {off : Int} {tgt : Nat} (hd : decode Y.2.1 pc = .ok (.if_icmp .ne off, 3)) (ht : (pc : Int) + off = (tgt : Int)) (kt : ¬ (x = y) → mm_Ev g l Y rm Q tgt ls st M n k j) (kf : (x = y) → mm_Ev g l Y rm Q (pc + 3) ls st M n k j) : mm_Ev g l Y rm Q pc ls (.int y :: .int x :: st) M n k j := by
  intro p e s m args below meth c H locs lsM hC hH hS hL
  exact lv_icmp_ne hC.1 hC.2.1 hd ht (fun h => kt h p e s m args below meth c H locs lsM hC hH hS hL) (fun h => kf h p e s m args below meth c H locs lsM hC hH hS hL)
theorem mm_if_ne {x : Int32} {off : Int} {tgt : Nat} (hd : decode Y.2.1 pc = .ok (.ifCond .ne off, 3)) (ht : (pc : Int) + off = (tgt : Int)) (kt : ¬ (x = 0) → mm_Ev g l Y rm Q tgt ls st M n k j) (kf : (x = 0) → mm_Ev g l Y rm Q (pc + 3) ls st M n k j) : mm_Ev g l Y rm Q pc ls (.int x :: st) M n k j := by
  intro p e s m args below meth c H locs lsM hC hH hS hL
  exact lv_if_ne hC.1 hC.2.1 hd ht (fun h => kt h p e s m args below meth c H locs lsM hC hH hS hL) (fun h => kf h p e s m args below meth c H locs lsM hC hH hS hL)
theorem mm_icmp_lt {x y : Int32} {off : Int} {tgt : Nat} (hd : decode Y.2.1 pc = .ok (.if_icmp .lt off, 3)) (ht : (pc : Int) + off = (tgt : Int)) (kt : (x < y) → mm_Ev g l Y rm Q tgt ls st M n k j) (kf : ¬ (x < y) → mm_Ev g l Y rm Q (pc + 3) ls st M n k j) : mm_Ev g l Y rm Q pc ls (.int y :: .int x :: st) M n k j := by
  intro p e s m args below meth c H locs lsM hC hH hS hL
  exact lv_icmp_lt hC.1 hC.2.1 hd ht (fun h => kt h p e s m args below meth c H locs lsM hC hH hS hL) (fun h => kf h p e s m args below meth c H locs lsM hC hH hS hL)
theorem mm_if_lt {x : Int32} {off : Int} {tgt : Nat} (hd : decode Y.2.1 pc = .ok (.ifCond .lt off, 3)) (ht : (pc : Int) + off = (tgt : Int)) (kt : (x < 0) → mm_Ev g l Y rm Q tgt ls st M n k j) (kf : ¬ (x < 0) → mm_Ev g l Y rm Q (pc + 3) ls st M n k j) : mm_Ev g l Y rm Q pc ls (.int x :: st) M n k j := by
  intro p e s m args below meth c H locs lsM hC hH hS hL
  exact lv_if_lt hC.1 hC.2.1 hd ht (fun h => kt h p e s m args below meth c H locs lsM hC hH hS hL) (fun h => kf h p e s m args below meth c H locs lsM hC hH hS hL)
theorem mm_icmp_ge {x y : Int32} {off : Int} {tgt : Nat} (hd : decode Y.2.1 pc = .ok (.if_icmp .ge off, 3)) (ht : (pc : Int) + off = (tgt : Int)) (kt : (y ≤ x) → mm_Ev g l Y rm Q tgt ls st M n k j) (kf : ¬ (y ≤ x) → mm_Ev g l Y rm Q (pc + 3) ls st M n k j) : mm_Ev g l Y rm Q pc ls (.int y :: .int x :: st) M n k j := by
  intro p e s m args below meth c H locs lsM hC hH hS hL
  exact lv_icmp_ge hC.1 hC.2.1 hd ht (fun h => kt h p e s m args below meth c H locs lsM hC hH hS hL) (fun h => kf h p e s m args below meth c H locs lsM hC hH hS hL)
theorem mm_if_ge {x : Int32} {off : Int} {tgt : Nat} (hd : decode Y.2.1 pc = .ok (.ifCond .ge off, 3)) (ht : (pc : Int) + off = (tgt : Int)) (kt : (0 ≤ x) → mm_Ev g l Y rm Q tgt ls st M n k j) (kf : ¬ (0 ≤ x) → mm_Ev g l Y rm Q (pc + 3) ls st M n k j) : mm_Ev g l Y rm Q pc ls (.int x :: st) M n k j := by
  intro p e s m args below meth c H locs lsM hC hH hS hL
  exact lv_if_ge hC.1 hC.2.1 hd ht (fun h => kt h p e s m args below meth c H locs lsM hC hH hS hL) (fun h => kf h p e s m args below meth c H locs lsM hC hH hS hL)
theorem mm_icmp_gt {x y : Int32} {off : Int} {tgt : Nat} (hd : decode Y.2.1 pc = .ok (.if_icmp .gt off, 3)) (ht : (pc : Int) + off = (tgt : Int)) (kt : (y < x) → mm_Ev g l Y rm Q tgt ls st M n k j) (kf : ¬ (y < x) → mm_Ev g l Y rm Q (pc + 3) ls st M n k j) : mm_Ev g l Y rm Q pc ls (.int y :: .int x :: st) M n k j := by
  intro p e s m args below meth c H locs lsM hC hH hS hL
  exact lv_icmp_gt hC.1 hC.2.1 hd ht (fun h => kt h p e s m args below meth c H locs lsM hC hH hS hL) (fun h => kf h p e s m args below meth c H locs lsM hC hH hS hL)
theorem mm_if_gt {x : Int32} {off : Int} {tgt : Nat} (hd : decode Y.2.1 pc = .ok (.ifCond .gt off, 3)) (ht : (pc : Int) + off = (tgt : Int)) (kt : (0 < x) → mm_Ev g l Y rm Q tgt ls st M n k j) (kf : ¬ (0 < x) → mm_Ev g l Y rm Q (pc + 3) ls st M n k j) : mm_Ev g l Y rm Q pc ls (.int x :: st) M n k j := by
  intro p e s m args below meth c H locs lsM hC hH hS hL
  exact lv_if_gt hC.1 hC.2.1 hd ht (fun h => kt h p e s m args below meth c H locs lsM hC hH hS hL) (fun h => kf h p e s m args below meth c H locs lsM hC hH hS hL)
theorem mm_icmp_le {x y : Int32} {off : Int} {tgt : Nat} (hd : decode Y.2.1 pc = .ok (.if_icmp .le off, 3)) (ht : (pc : Int) + off = (tgt : Int)) (kt : (x ≤ y) → mm_Ev g l Y rm Q tgt ls st M n k j) (kf : ¬ (x ≤ y) → mm_Ev g l Y rm Q (pc + 3) ls st M n k j) : mm_Ev g l Y rm Q pc ls (.int y :: .int x :: st) M n k j := by
  intro p e s m args below meth c H locs lsM hC hH hS hL
  exact lv_icmp_le hC.1 hC.2.1 hd ht (fun h => kt h p e s m args below meth c H locs lsM hC hH hS hL) (fun h => kf h p e s m args below meth c H locs lsM hC hH hS hL)
theorem mm_if_le {x : Int32} {off : Int} {tgt : Nat} (hd : decode Y.2.1 pc = .ok (.ifCond .le off, 3)) (ht : (pc : Int) + off = (tgt : Int)) (kt : (x ≤ 0) → mm_Ev g l Y rm Q tgt ls st M n k j) (kf : ¬ (x ≤ 0) → mm_Ev g l Y rm Q (pc + 3) ls st M n k j) : mm_Ev g l Y rm Q pc ls (.int x :: st) M n k j := by
  intro p e s m args below meth c H locs lsM hC hH hS hL
  exact lv_if_le hC.1 hC.2.1 hd ht (fun h => kt h p e s m args below meth c H locs lsM hC hH hS hL) (fun h => kf h p e s m args below meth c H locs lsM hC hH hS hL)
theorem mm_goto {off : Int} {tgt : Nat} (hd : decode Y.2.1 pc = .ok (.goto off, 3)) (ht : (pc : Int) + off = (tgt : Int)) (kk : mm_Ev g l Y rm Q tgt ls st M n k j) : mm_Ev g l Y rm Q pc ls st M n k j := by
  intro p e s m args below meth c H locs lsM hC hH hS hL
  exact lv_goto hC.1 hC.2.1 hd ht (kk p e s m args below meth c H locs lsM hC hH hS hL)
end MMEV
end
section
/-! Calls that return or throw: the callee's free theorem at a call site. -/
def mm_Lk (p : Program) (l : Launch) (e : Env) (R : Room) (s : State) (m : MethodId) (args : Array Value) (below : List Frame) (meth : Method) (c : Code) (H : Heap) (locs : List Loc) (cells slots : Nat) (fr : JFrame) (rest : List Value) (y : MethodName) (a : Array Value) : Prop :=
  ∀ T : State, T.heap = H → Stand p l e R s m args below meth c T locs cells slots → ∃ (vm₁ : Vm) (mk : MethodId), Stand p l e R s m args below meth c (T.setVm vm₁) locs cells slots ∧ s.methodNamed? y = some mk ∧
    ∀ tg, Steps p.tables e below (doInvoke e ((T.setVm vm₁).setTop { fr with stack := rest }) [] mk a).1 tg → Steps p.tables e below (T.setTop fr) tg
section MMCA
variable {p : Program} {l : Launch} {e : Env} {R : Room} {s : State} {m : MethodId} {args : Array Value} {below : List Frame} {meth : Method} {c : Code} {H : Heap} {locs : List Loc} {cells slots : Nat} {Q : State → Prop}
theorem mm_lkV (hexec : p.tables.exec = Jvm.exec) {own C : String} {index : Nat} {y : MethodName} {sig0 : MethodDescriptor}
    (hown : s.vm.findClass own = some m.cls) (hlink : (Cond.methodLink own index y).before args s = true) (hinst : (Cond.instanceMethod y).before args s = true) (hsel : (Cond.selects C y y).before args s = true)
    (hsg : ∀ mk methM, s.methodNamed? y = some mk → s.vm.method? mk = some methM → methM.sig = sig0) (hy : y.cls ≠ "java/lang/invoke/MethodHandle" ∧ y.cls ≠ "java/lang/invoke/VarHandle")
    {b : Addr} {cellB : Cell} (hcell : H[b]? = some cellB) (hobj : cellB.vm.isStatics = false) (hcls : s.vm.findClass C = some cellB.cls)
    {fr : JFrame} (hg : fr.method = m) {argsL rest : List Value} (hlen : argsL.length = sig0.parameters.length)
    (hstack : fr.stack = argsL.reverse ++ .ref b :: rest) (hdg : decode c.code fr.pc = .ok (.invokevirtual index, 3)) : mm_Lk p l e R s m args below meth c H locs cells slots fr rest y (Value.ref b :: argsL).toArray := by
  intro T hT X
  obtain ⟨mk, methM, hnamed, hmethM, hstM, habM⟩ := Cond.instanceMethod_spec hinst
  obtain ⟨c2, r2, m2, q1, q2, q3, q4, kP, hkP, hkPi⟩ := Cond.selects_spec hsel
  cases hcls.symm.trans q1
  cases (State.methodFound?_of_named hnamed hy).symm.trans q2
  cases hnamed.symm.trans q3
  have hselP : selectMethod e.platform s.vm cellB.cls mk = .method mk := by rw [Launch.admits_selectMethod X.admits]; exact q4
  obtain ⟨vm₁, X₁, hstep₁⟩ := X.invokevirtual hexec hown hlink hnamed hmethM hstM hkP hkPi hy (a := b) (cell := cellB) (by rw [hT]; exact hcell)
    (fun z h => by rw [h] at hobj; cases hobj) hselP hmethM habM hkP hkPi (g := fr) hg (argsL := argsL) (rest := rest) (by rw [hsg mk methM hnamed hmethM]; exact hlen) hstack hdg
  exact ⟨vm₁, mk, X₁, hnamed, fun tg h => hstep₁ _ fun acts => by rw [doInvoke_state]; exact h⟩
theorem mm_lkVN (hexec : p.tables.exec = Jvm.exec) {own C host : String} {index : Nat} {y : MethodName} {sig0 : MethodDescriptor}
    (hown : s.vm.findClass own = some m.cls) (hlink : (Cond.methodLinkNest own index y host).before args s = true) (hinst : (Cond.instanceMethod y).before args s = true) (hsel : (Cond.selects C y y).before args s = true)
    (hsg : ∀ mk methM, s.methodNamed? y = some mk → s.vm.method? mk = some methM → methM.sig = sig0) (hy : y.cls ≠ "java/lang/invoke/MethodHandle" ∧ y.cls ≠ "java/lang/invoke/VarHandle")
    {b : Addr} {cellB : Cell} (hcell : H[b]? = some cellB) (hobj : cellB.vm.isStatics = false) (hcls : s.vm.findClass C = some cellB.cls)
    {fr : JFrame} (hg : fr.method = m) {argsL rest : List Value} (hlen : argsL.length = sig0.parameters.length)
    (hstack : fr.stack = argsL.reverse ++ .ref b :: rest) (hdg : decode c.code fr.pc = .ok (.invokevirtual index, 3)) : mm_Lk p l e R s m args below meth c H locs cells slots fr rest y (Value.ref b :: argsL).toArray := by
  intro T hT X
  obtain ⟨mk, methM, hnamed, hmethM, hstM, habM⟩ := Cond.instanceMethod_spec hinst
  obtain ⟨c2, r2, m2, q1, q2, q3, q4, kP, hkP, hkPi⟩ := Cond.selects_spec hsel
  cases hcls.symm.trans q1
  cases (State.methodFound?_of_named hnamed hy).symm.trans q2
  cases hnamed.symm.trans q3
  have hselP : selectMethod e.platform s.vm cellB.cls mk = .method mk := by rw [Launch.admits_selectMethod X.admits]; exact q4
  obtain ⟨vm₁, X₁, hstep₁⟩ := X.invokevirtualNest hexec hown hlink hnamed hmethM hstM hkP hkPi hy (a := b) (cell := cellB) (by rw [hT]; exact hcell)
    (fun z h => by rw [h] at hobj; cases hobj) hselP hmethM habM hkP hkPi (g := fr) hg (argsL := argsL) (rest := rest) (by rw [hsg mk methM hnamed hmethM]; exact hlen) hstack hdg
  exact ⟨vm₁, mk, X₁, hnamed, fun tg h => hstep₁ _ fun acts => by rw [doInvoke_state]; exact h⟩
theorem mm_lkS (hexec : p.tables.exec = Jvm.exec) {own : String} {index : Nat} {y : MethodName} {sig0 : MethodDescriptor} {mk : MethodId} {methM : Method}
    (hown : s.vm.findClass own = some m.cls) (hlink : (Cond.methodLink own index y).before args s = true) (hstat : (Cond.static y).before args s = true) (hinit : (Cond.initialized y.cls).before args s = true)
    (hnamed : s.methodNamed? y = some mk) (hmethM : s.vm.method? mk = some methM) (hsg : methM.sig = sig0) (hy : y.cls ≠ "java/lang/invoke/MethodHandle" ∧ y.cls ≠ "java/lang/invoke/VarHandle")
    {fr : JFrame} (hg : fr.method = m) {argsL rest : List Value} (hlen : argsL.length = sig0.parameters.length)
    (hstack : fr.stack = argsL.reverse ++ rest) (hdg : decode c.code fr.pc = .ok (.invokestatic index, 3)) : mm_Lk p l e R s m args below meth c H locs cells slots fr rest y argsL.toArray := by
  intro T hT X
  have hstatic : methM.isStatic = true := Cond.static_spec hnamed hmethM hstat
  obtain ⟨kP, hkP, -⟩ := className_of_methodNamed hnamed
  have hinitP : kP.init = .initialized := Cond.initialized_spec (findClass_of_methodNamed hnamed) hkP hinit
  obtain ⟨vm₁, X₁, hstep₁⟩ := X.invokestatic hexec hown hlink hnamed hmethM hstatic hkP hinitP hy (g := fr) hg (argsL := argsL) (rest := rest) (by rw [hsg]; exact hlen) hstack hdg
  exact ⟨vm₁, mk, X₁, hnamed, fun tg h => hstep₁ _ fun acts => by rw [doInvoke_state]; exact h⟩
theorem mm_lkSN (hexec : p.tables.exec = Jvm.exec) {own host : String} {index : Nat} {y : MethodName} {sig0 : MethodDescriptor} {mk : MethodId} {methM : Method}
    (hown : s.vm.findClass own = some m.cls) (hlink : (Cond.methodLinkNest own index y host).before args s = true) (hstat : (Cond.static y).before args s = true) (hinit : (Cond.initialized y.cls).before args s = true)
    (hnamed : s.methodNamed? y = some mk) (hmethM : s.vm.method? mk = some methM) (hsg : methM.sig = sig0) (hy : y.cls ≠ "java/lang/invoke/MethodHandle" ∧ y.cls ≠ "java/lang/invoke/VarHandle")
    {fr : JFrame} (hg : fr.method = m) {argsL rest : List Value} (hlen : argsL.length = sig0.parameters.length)
    (hstack : fr.stack = argsL.reverse ++ rest) (hdg : decode c.code fr.pc = .ok (.invokestatic index, 3)) : mm_Lk p l e R s m args below meth c H locs cells slots fr rest y argsL.toArray := by
  intro T hT X
  have hstatic : methM.isStatic = true := Cond.static_spec hnamed hmethM hstat
  obtain ⟨kP, hkP, -⟩ := className_of_methodNamed hnamed
  have hinitP : kP.init = .initialized := Cond.initialized_spec (findClass_of_methodNamed hnamed) hkP hinit
  obtain ⟨vm₁, X₁, hstep₁⟩ := X.invokestaticNest hexec hown hlink hnamed hmethM hstatic hkP hinitP hy (g := fr) hg (argsL := argsL) (rest := rest) (by rw [hsg]; exact hlen) hstack hdg
  exact ⟨vm₁, mk, X₁, hnamed, fun tg h => hstep₁ _ fun acts => by rw [doInvoke_state]; exact h⟩
theorem mm_lkI (hexec : p.tables.exec = Jvm.exec) {own : String} {index : Nat} {y : MethodName} {bytes : ByteArray} {maxL : Nat}
    (hown : s.vm.findClass own = some m.cls) (hy1 : y.name = "<init>") (hlink : (Cond.methodLink own index y).before args s = true) (hinst : (Cond.instanceMethod y).before args s = true)
    (hcode : (Cond.code y bytes maxL none).before args s = true) (hy : y.cls ≠ "java/lang/invoke/MethodHandle" ∧ y.cls ≠ "java/lang/invoke/VarHandle")
    {fr : JFrame} (hg : fr.method = m) {a : Addr} {argsL rest : List Value} (hlen : ∀ sig, parseMethodDescriptor y.desc = some sig → argsL.length = sig.parameters.length)
    (hstack : fr.stack = argsL.reverse ++ .ref a :: rest) (hdg : decode c.code fr.pc = .ok (.invokespecial index, 3)) : mm_Lk p l e R s m args below meth c H locs cells slots fr rest y (Value.ref a :: argsL).toArray := by
  intro T hT X
  subst hg
  have hpl : e.platform.magicAccessors = ({} : Platform).magicAccessors := by rw [X.admits.platform]
  obtain ⟨mk, methM, cM, kP, vm₁, hnamed, hmethM, hcodeM, -, hlocalsM, -, hkP, -, hW₁, hstep₁⟩ := Steps.initColdArgs (e := e) X.here hexec X.warmed hpl hown hy1 hy hlink hinst hcode (f := fr) rfl hlen hstack hdg
  exact ⟨vm₁, mk, X.noted hW₁, hnamed, fun tg h => hstep₁ _ fun acts => by rw [doInvoke_state]; exact h⟩
theorem mm_lkIN (hexec : p.tables.exec = Jvm.exec) {own host : String} {index : Nat} {y : MethodName} {bytes : ByteArray} {maxL : Nat}
    (hown : s.vm.findClass own = some m.cls) (hy1 : y.name = "<init>") (hlink : (Cond.methodLinkNest own index y host).before args s = true) (hinst : (Cond.instanceMethod y).before args s = true)
    (hcode : (Cond.code y bytes maxL none).before args s = true) (hy : y.cls ≠ "java/lang/invoke/MethodHandle" ∧ y.cls ≠ "java/lang/invoke/VarHandle")
    {fr : JFrame} (hg : fr.method = m) {a : Addr} {argsL rest : List Value} (hlen : ∀ sig, parseMethodDescriptor y.desc = some sig → argsL.length = sig.parameters.length)
    (hstack : fr.stack = argsL.reverse ++ .ref a :: rest) (hdg : decode c.code fr.pc = .ok (.invokespecial index, 3)) : mm_Lk p l e R s m args below meth c H locs cells slots fr rest y (Value.ref a :: argsL).toArray := by
  intro T hT X
  subst hg
  have hpl : e.platform.magicAccessors = ({} : Platform).magicAccessors := by rw [X.admits.platform]
  obtain ⟨mk, methM, cM, kP, vm₁, hnamed, hmethM, hcodeM, -, hlocalsM, -, hkP, -, hW₁, hstep₁⟩ := Steps.initColdArgsNest (e := e) X.here hexec X.warmed hpl hown hy1 hy hlink hinst hcode (f := fr) rfl hlen hstack hdg
  exact ⟨vm₁, mk, X.noted hW₁, hnamed, fun tg h => hstep₁ _ fun acts => by rw [doInvoke_state]; exact h⟩
/-- what is behind a throw that came out of a call in the frame fr -/
def mm_Th (p : Program) (l : Launch) (e : Env) (R : Room) (s : State) (m : MethodId) (args : Array Value) (below : List Frame) (meth : Method) (c : Code) (H : Heap) (locs : List Loc) (cells slots : Nat) (Q : State → Prop) (fr : JFrame) (x : Addr) : Prop :=
  ∀ T : State, T.heap = H → Stand p l e R s m args below meth c T locs cells slots → ∃ t, Steps p.tables e below ((T.setTop fr).pushFrame (.throwing x)) t ∧ Q t
theorem mm_callAny {g : mm_G} {Q' : mm_O → Prop} {fr : JFrame} {rest : List Value} {y : MethodName} {a : Array Value} {S : Spec} {P : Array Value → State → Prop} {maxL Wd : Nat} {ig : Instr}
    (hLk : mm_Lk p l e R s m args below meth c H locs cells slots fr rest y a) (hM : MetFree l y S P (fun _ _ _ _ _ => True) (fun _ st o t => mm_Po g S.room.cells S.room.slots st Q' o t)) (hg : fr.method = m) (hsize : fr.locals.size = c.maxLocals)
    (hframes : S.room.frames + 1 ≤ R.frames) (hlocals : Wd + (maxL + 11) + S.room.locals ≤ R.locals) (hW : 2 * fr.monitorRoom + (rest.map fun v => v.category).sum ≤ Wd) (hdg : decode c.code fr.pc = .ok (ig, 3))
    (hpre : ∀ (U : State) (mk : MethodId), s.WarmedH U.vm → U.methodNamed? y = some mk → S.pre.before a U = true ∧ (Cond.initialized y.cls).before a U = true ∧ ∃ methY cY, U.vm.method? mk = some methY ∧ methY.code = some cY ∧ cY.maxLocals = maxL)
    (hcells : cells + S.room.cells ≤ R.cells) (hslots : slots + S.room.slots ≤ R.slots)
    (hP : ∀ U : State, s.WarmedH U.vm → U.heap = H → P a U) (hS : va_S (mm_A g) s.heap H locs) (hb : g.2.2.1 ≤ s.heap.size)
    (kr : ∀ (v : Option Value) (M1 : mm_M) (n1 : Nat) (H1 : Heap) (locs1 : List Loc), Q' (.inl v, M1, n1) → mm_H g M1 n1 H1 → va_S (mm_A g) s.heap H1 locs1 → W p l e R s m args below meth c H1 locs1 (cells + S.room.cells) (slots + S.room.slots) Q { fr with pc := fr.pc + 3, stack := (v.map (mm_tr g)).toList ++ rest })
    (kt : ∀ (i : Nat) (x : Addr) (M1 : mm_M) (n1 : Nat) (H1 : Heap) (locs1 : List Loc), Q' (.inr i, M1, n1) → mm_H g M1 n1 H1 → va_S (mm_A g) s.heap H1 locs1 → (∃ t : State, t.heap = H1 ∧ s.WarmedH t.vm ∧ mm_Xc i x t) → mm_Th p l e R s m args below meth c H1 locs1 (cells + S.room.cells) (slots + S.room.slots) Q { fr with stack := rest } x) : W p l e R s m args below meth c H locs cells slots Q fr := by
  intro T hT X0
  obtain ⟨vm₁, mk, X, hnm, hstep⟩ := hLk T hT X0
  generalize hU : T.setVm vm₁ = U at X hstep
  have hUh : U.heap = H := by rw [← hU]; exact hT
  generalize hfr1 : ({ fr with stack := rest } : JFrame) = f1 at hstep kt
  have e1 : f1.pc = fr.pc := by rw [← hfr1]
  have hg1 : f1.method = m := by rw [← hfr1]; exact hg
  have hn : U.methodNamed? y = some mk := X.named hnm
  obtain ⟨h1, h3, methY, cY, hmY, hcY, hlY⟩ := hpre U mk X.warmed hn
  obtain ⟨kY, hkY, -⟩ := className_of_methodNamed hn
  have hinitY : kY.init = .initialized := Cond.initialized_spec (findClass_of_methodNamed hn) hkY h3
  have h : At U f1.method c below := by rw [hg1]; exact X.here
  have hdg1 : decode c.code f1.pc = .ok (ig, 3) := by rw [e1]; exact hdg
  have happ : S.appliesLoose y e.platform (U.calling f1 mk a) = true :=
    Spec.appliesLoose_calling (g := f1) h hdg1 hn hkY hinitY
      (X.room_calling (g := f1) (R' := S.room) (by rw [← hfr1]; exact hsize) hmY hcY hframes (by rw [hlY, ← hfr1]; show 2 * fr.monitorRoom + (rest.map fun v => v.category).sum + _ + _ ≤ _; omega) hcells hslots) h1
  obtain ⟨mid, hmid⟩ := h.above
  have hfrm : (U.setTop f1).frames = (.java f1 :: mid) ++ below := by rw [State.frames_setTop' f1 h.top, hmid]; rfl
  obtain ⟨o, s₂, hsteps, -, hend, hq⟩ := Steps.callFree hM p X.admits X.cas X.clock (acts := []) hfrm happ (hP _ X.warmed hUh) trivial
  have hq' : mm_Po g S.room.cells S.room.slots (U.calling f1 mk a) Q' o s₂ := hq
  rw [State.frames_setTop' f1 h.top] at hend
  obtain ⟨u, L, hQu, hH1, hlow, hL, hW₂, hsame0, hout⟩ := hq'
  have hcb : ∀ q : Nat, q < g.2.2.1 → s₂.heap[q]? = H[q]? := fun q hq => by rw [hlow q hq]; show U.heap[q]? = _; rw [hUh]
  have hS1 : va_S (mm_A g) s.heap s₂.heap (locs ++ L) := by
    refine ⟨?_, fun q h1 h2 => ?_, fun q hq => ?_⟩
    · exact Nat.le_trans hS.1 (by rw [← hUh]; exact hsame0.2.1)
    · rw [hcb q (Nat.not_le.mp h2)]
      exact hS.2.1 q h1 h2
    · rcases List.mem_append.mp hq with z | z
      · exact hS.2.2 q z
      · exact hL q z
  obtain ⟨u1, M1, n1⟩ := u
  cases u1 with
  | inl v =>
    have hout : o = .returned (v.map (mm_tr g)) := hout
    subst hout
    obtain ⟨e2, q2, q3, q4, q5, q6⟩ := hsame0
    have e3 : s₂ = ({ (U.calling f1 mk a).setFrames s₂.frames with heap := s₂.heap, slotsUsed := s₂.slotsUsed } : State).setVm s₂.vm := by
      have : s₂ = ({ s₂ with vm := (U.calling f1 mk a).vm } : State).setVm s₂.vm := rfl
      rw [e2] at this
      exact this
    obtain ⟨c₂, i₂, len₂, hc₂, hd₂, hf₂⟩ := hend
    have hW' : U.WarmedH s₂.vm := hW₂
    have hcc : c₂ = c := by
      have h1 : s₂.code? f1.method = U.code? f1.method := by
        rw [State.code?_eq, State.code?_eq, hW'.alike.method?]
      exact Option.some.inj (hc₂.symm.trans (h1.trans h.code))
    subst hcc
    have hlen : len₂ = 3 := by rw [hdg1] at hd₂; cases hd₂; rfl
    subst hlen
    obtain ⟨g₀, hg0⟩ := Option.isSome_iff_exists.mp h.top
    obtain ⟨r, hr⟩ := State.topJava?_eq_some.mp hg0
    have hs₂ : s₂ = (({ U with heap := s₂.heap, slotsUsed := s₂.slotsUsed } : State).setVm s₂.vm).setTop { f1 with pc := f1.pc + 3, stack := (v.map (mm_tr g)).toList ++ f1.stack } := by
      have hr' : (({ U with heap := s₂.heap, slotsUsed := s₂.slotsUsed } : State).setVm s₂.vm).frames = .java g₀ :: r := hr
      refine e3.trans ?_
      rw [hf₂, State.calling_eq h.top, State.setFrames_setFrames, State.setTop_of_frames _ hr', hr]
      rfl
    have hsame : U.sameButNew ({ U with heap := s₂.heap, slotsUsed := s₂.slotsUsed } : State) L S.room.cells S.room.slots := by
      refine ⟨?_, q2, q3, q4, q5, q6⟩
      obtain ⟨t, ht, -⟩ := State.frames_cons hr
      show ({ U with heap := s₂.heap, slotsUsed := s₂.slotsUsed } : State) = { U.setFrames U.frames with heap := s₂.heap, slotsUsed := s₂.slotsUsed }
      rw [State.setFrames_self ht]
    have X' : Stand p l e R s m args below meth c₂ (({ U with heap := s₂.heap, slotsUsed := s₂.slotsUsed } : State).setVm s₂.vm) (locs ++ L) (cells + S.room.cells) (slots + S.room.slots) :=
      ⟨X.admits, X.cas, X.clock, X.frames, X.room, X.hears, X.method, X.code, (X.here.setHeapUsed s₂.heap s₂.slotsUsed).setVm hW'.alike, X.tail, State.WarmedH.trans X.warmed hW', X.limits, X.bytes, X.same.trans (hsame.setVm s.vm)⟩
    obtain ⟨t, a1, b1⟩ := kr v M1 n1 s₂.heap (locs ++ L) hQu hH1 hS1 (({ U with heap := s₂.heap, slotsUsed := s₂.slotsUsed } : State).setVm s₂.vm) rfl X'
    refine ⟨t, hstep t (hsteps.trans ?_), b1⟩
    rw [hs₂, ← hfr1]
    exact a1
  | inr i =>
    obtain ⟨x, hox, hXc⟩ := hout
    subst hox
    rw [X.tail] at hend
    obtain ⟨T', X', hWT, -, ht⟩ := X.outOfThrown (g := f1) hg1 hend hW₂ hsame0
    have hh : T'.heap = s₂.heap := by rw [ht]; rfl
    obtain ⟨t, a1, b1⟩ := kt i x M1 n1 s₂.heap (locs ++ L) hQu hH1 hS1 ⟨s₂, rfl, State.WarmedH.trans X.warmed hW₂, hXc⟩ T' hh X'
    exact ⟨t, hstep t (hsteps.trans (by rw [ht]; exact a1)), b1⟩
end MMCA
end
section
/-! Rows over cells: fields, arrays, new cells; the ends; entering a method; calls. -/
/-- a field's link: entry index of class own's pool is field kf (of type ty, final or not) of class ci -/
def mm_Fl (own : String) (index ci kf : Nat) (ty : FieldType) (fin : Bool) : Prop := ∃ (C : String) (T : u_T) (N : Nat) (t : Nat → FieldType), mm_cl[ci]? = some (C, T, N) ∧ (∀ w ∈ u_ws C T N, w ∈ mm_tb) ∧ kf < N ∧ Cond.fieldLink own index C (T kf).2.1 (T kf).2.2.1 ∈ mm_tb ∧ (T kf).1 = C ∧ (∀ k, k < N → parseFieldDescriptor (T k).2.2.1 = some (t k)) ∧ (∀ a, a < N → ∀ b, b < N → a ≠ b → (T a).2.1 ≠ (T b).2.1) ∧ (T kf).2.2.2 = fin ∧ parseFieldDescriptor (T kf).2.2.1 = some ty
/-- a class's link for new: N fields with the default values fs -/
def mm_Nl (own : String) (index ci N : Nat) (fs : List Value) : Prop := ∃ (C : String) (T : u_T) (t : Nat → FieldType), mm_cl[ci]? = some (C, T, N) ∧ (∀ w ∈ u_ws C T N, w ∈ mm_tb) ∧ (∀ k, k < N → parseFieldDescriptor (T k).2.2.1 = some (t k)) ∧ Cond.classLink own index C ∈ mm_tb ∧ Cond.instantiable C N ∈ mm_tb ∧ Cond.initialized C ∈ mm_tb ∧ (∀ q, q < N → defaultValue (t q) = vp_V fs q) ∧ ∀ g : mm_G, fs.map (mm_tr g) = fs
theorem mm_W_mono {p : Program} {l : Launch} {e : Env} {R : Room} {s : State} {m : MethodId} {args : Array Value} {below : List Frame} {meth : Method} {c : Code} {H : Heap} {locs : List Loc} {cells slots : Nat} {Q1 Q2 : State → Prop} {fr : JFrame} (h : ∀ t, Q1 t → Q2 t) (w : W p l e R s m args below meth c H locs cells slots Q1 fr) : W p l e R s m args below meth c H locs cells slots Q2 fr := by
  intro T hT X
  obtain ⟨t, a, b⟩ := w T hT X
  exact ⟨t, a, h t b⟩
section MMHP
variable {g : mm_G} {l : Launch} {Y : mm_Y} {rm : Room} {Q : mm_O → Prop} {pc : Nat} {ls : List (Option Value)} {st : List Value} {M : mm_M} {n k j : Nat}

theorem mm_get {a ci kf index : Nat} {ty : FieldType} {fin : Bool} {fs : List Value} {v : Value} (hd : decode Y.2.1 pc = .ok (.getfield index, 3)) (hF : mm_Fl Y.1.cls index ci kf ty fin) (hm : M a = some (.inr (ci, fs))) (hv : fs[kf]? = some v) (kk : mm_Ev g l Y rm Q (pc + 3) ls (v :: st) M n k j) : mm_Ev g l Y rm Q pc ls (.ref a :: st) M n k j := by
  intro p e s m args below meth c H locs lsM hC hH hS hL
  obtain ⟨C, T, N, t, hc, hw, hk, hl, hT, -, -, -, -⟩ := hF
  exact va_get (D := g.1) (ci := ci) (ref := C) (v := mm_tr g v) hC.1 hC.2.1 hC.2.2.2.2.2.1 hw hC.2.2.2.2.1 hC.2.2.2.2.2.2.2.2.1.1 (hH.P hm) 0 rfl hc kf hk (hC.2.2.2.2.2.1 _ hl) (fun x hx => by rw [hT] at hx; exact hx) (by rw [List.getElem?_map, hv]; rfl) hd (kk p e s m args below meth c H locs lsM hC hH hS hL)
theorem mm_put {a ci kf index : Nat} {ty : FieldType} {fs : List Value} {v : Value} (hd : decode Y.2.1 pc = .ok (.putfield index, 3)) (hF : mm_Fl Y.1.cls index ci kf ty false) (hm : M a = some (.inr (ci, fs))) (hlen : kf < fs.length) (hn : narrow ty (mm_tr g v) = mm_tr g v) (hfit : fits ty (mm_tr g v) = true) (kk : ∀ M1 : mm_M, M1 = mm_up M a (.inr (ci, fs.set kf v)) → mm_Ev g l Y rm Q (pc + 3) ls st M1 n k j) : mm_Ev g l Y rm Q pc ls (v :: .ref a :: st) M n k j := by
  intro p e s m args below meth c H locs lsM hC hH hS hL
  obtain ⟨C, T, N, t, hc, hw, hk, hl, hT, hty, hnm, hfin, hd0⟩ := hF
  obtain ⟨hx, hb, -, -, hown, hts, -, hname, hI, -⟩ := id hC
  have hK := hI.1
  have hap := va_apart (own := Y.1.cls) hts hw t hty hnm hK hc
  obtain ⟨h1000, -, r, h1, cell, q1, q2, q3, q4⟩ := hH.2.2 a _ hm
  have hr : r = (C, T, N) := Option.some.inj (h1.symm.trans hc)
  subst hr
  obtain ⟨hSl, hfc, kC, hkC, hkind⟩ := hK.1 ci _ hc
  obtain ⟨cf, kf', fi, f, hi, hsl⟩ := hSl kf hk
  have hlay := hts _ (hw _ (u_in_lay hk))
  unfold u_lay at hlay
  rw [if_neg (by rw [hfin]; decide)] at hlay
  have hst := (u_facts hfc hkC (u_lays hts hw hk) hi).1
  have h6 := u_store hfc hkC hkind hlay hi hd0 hn hfit
  refine W.putK hx hb (f := f) ⟨hown, hts _ hl, ⟨_, _, _, by rw [hT] at hi; exact hi⟩, hst⟩ (by rw [q2]; exact h6) q1 q3 (by rw [hsl]; exact k2_hasslot (q4 kf hk)) rfl rfl hd fun H' e1 e2 e3 => ?_
  rw [hsl] at e1 ⊢
  refine kk _ rfl p e s m args below meth c H' _ lsM hC (hH.set hm e2 e3 ⟨_, hc, t_OB.to (V := updV (vp_V (fs.map (mm_tr g))) kf (mm_tr g v)) ⟨_, e1, q2, q3, t_set q4 hap hk _⟩ (fun q _ => ?_)⟩) (hS.put e2 e3 (mm_ad_A h1000)) hL
  rw [List.map_set]
  exact vp_updV_set (by rw [List.length_map]; exact hlen) _ q
theorem mm_putF {a ci kf index : Nat} {ty : FieldType} {fs : List Value} {v : Value} (hd : decode Y.2.1 pc = .ok (.putfield index, 3)) (hF : mm_Fl Y.1.cls index ci kf ty true) (hm : M a = some (.inr (ci, fs))) (hlen : kf < fs.length) (hn : narrow ty (mm_tr g v) = mm_tr g v) (hfit : fits ty (mm_tr g v) = true) (hin : Y.1.name = "<init>") (hcl : ∀ q : vw_C, mm_cl[ci]? = some q → q.1 = Y.1.cls) (kk : ∀ M1 : mm_M, M1 = mm_up M a (.inr (ci, fs.set kf v)) → mm_Ev g l Y rm Q (pc + 3) ls st M1 n k j) : mm_Ev g l Y rm Q pc ls (v :: .ref a :: st) M n k j := by
  intro p e s m args below meth c H locs lsM hC hH hS hL
  obtain ⟨C, T, N, t, hc, hw, hk, hl, hT, hty, hnm, hfin, hd0⟩ := hF
  obtain ⟨hx, hb, -, -, hown, hts, -, hname, hI, -⟩ := id hC
  have hK := hI.1
  have hap := va_apart (own := Y.1.cls) hts hw t hty hnm hK hc
  obtain ⟨h1000, -, r, h1, cell, q1, q2, q3, q4⟩ := hH.2.2 a _ hm
  have hr : r = (C, T, N) := Option.some.inj (h1.symm.trans hc)
  subst hr
  obtain ⟨hSl, hfc, kC, hkC, hkind⟩ := hK.1 ci _ hc
  obtain ⟨cf, kf', fi, f, hi, hsl⟩ := hSl kf hk
  have hlay := hts _ (hw _ (u_in_lay hk))
  unfold u_lay at hlay
  rw [if_pos hfin] at hlay
  have hst := (u_facts hfc hkC (u_lays hts hw hk) hi).1
  have hdecl : (T kf).1 = Y.1.cls := hT.trans (hcl _ hc)
  have hcf : m.cls = cf := by
    obtain ⟨_, _, c', _, _, _, -, -, hf', -, -, -, hown2, -⟩ := Cond.laysFinal_spec hlay
    have e1 : c' = cf := by have := hi.symm.trans hf'; simp at this; exact this.1.symm
    rw [hdecl] at hown2
    rw [← e1]; exact Option.some.inj (hown.symm.trans hown2)
  have h6 := u_fits hfc hkC hkind (Or.inr hlay) hi hd0 hn hfit
  refine W.putFinK hx hb hown (hts _ hl) (by rw [hT] at hi; exact hi) hst hcf (hname.1.trans hin) (by rw [q2]; exact h6) q1 q3 (by rw [hsl]; exact k2_hasslot (q4 kf hk)) rfl rfl hd fun H' e1 e2 e3 => ?_
  rw [hsl] at e1 ⊢
  refine kk _ rfl p e s m args below meth c H' _ lsM hC (hH.set hm e2 e3 ⟨_, hc, t_OB.to (V := updV (vp_V (fs.map (mm_tr g))) kf (mm_tr g v)) ⟨_, e1, q2, q3, t_set q4 hap hk _⟩ (fun q _ => ?_)⟩) (hS.put e2 e3 (mm_ad_A h1000)) hL
  rw [List.map_set]
  exact vp_updV_set (by rw [List.length_map]; exact hlen) _ q
theorem mm_iald {a t N : Nat} {f : Nat → Int32} {i : Int32} (hd : decode Y.2.1 pc = .ok (.iaload, 1)) (hm : M a = some (.inl (t, N, .inl f))) (ht : mm_ty[t]? = some .int) (hin : vp_in i N) (kk : mm_Ev g l Y rm Q (pc + 1) ls (.int (f i.toNatClampNeg) :: st) M n k j) : mm_Ev g l Y rm Q pc ls (.int i :: .ref a :: st) M n k j := by
  intro p e s m args below meth c H locs lsM hC hH hS hL
  exact va_iald hC.1 hC.2.1 hC.2.2.2.2.2.2.2.2.1.1 (hH.P hm) 0 t rfl (mm_tys_at ht) hin hd (kk p e s m args below meth c H locs lsM hC hH hS hL)
theorem mm_bald {a t N : Nat} {f : Nat → Int32} {i : Int32} (hd : decode Y.2.1 pc = .ok (.baload, 1)) (hm : M a = some (.inl (t, N, .inl f))) (ht : mm_ty[t]? = some .byte) (hin : vp_in i N) (kk : mm_Ev g l Y rm Q (pc + 1) ls (.int (f i.toNatClampNeg) :: st) M n k j) : mm_Ev g l Y rm Q pc ls (.int i :: .ref a :: st) M n k j := by
  intro p e s m args below meth c H locs lsM hC hH hS hL
  exact va_bald hC.1 hC.2.1 hC.2.2.2.2.2.2.2.2.1.1 (hH.P hm) 0 t rfl (mm_tys_at ht) hin hd (kk p e s m args below meth c H locs lsM hC hH hS hL)
theorem mm_zald {a t N : Nat} {f : Nat → Int32} {i : Int32} (hd : decode Y.2.1 pc = .ok (.baload, 1)) (hm : M a = some (.inl (t, N, .inl f))) (ht : mm_ty[t]? = some .boolean) (hin : vp_in i N) (kk : mm_Ev g l Y rm Q (pc + 1) ls (.int (f i.toNatClampNeg) :: st) M n k j) : mm_Ev g l Y rm Q pc ls (.int i :: .ref a :: st) M n k j := by
  intro p e s m args below meth c H locs lsM hC hH hS hL
  exact va_zald hC.1 hC.2.1 hC.2.2.2.2.2.2.2.2.1.1 (hH.P hm) 0 t rfl (mm_tys_at ht) hin hd (kk p e s m args below meth c H locs lsM hC hH hS hL)
theorem mm_cald {a t N : Nat} {f : Nat → Int32} {i : Int32} (hd : decode Y.2.1 pc = .ok (.caload, 1)) (hm : M a = some (.inl (t, N, .inl f))) (ht : mm_ty[t]? = some .char) (hin : vp_in i N) (kk : mm_Ev g l Y rm Q (pc + 1) ls (.int (f i.toNatClampNeg) :: st) M n k j) : mm_Ev g l Y rm Q pc ls (.int i :: .ref a :: st) M n k j := by
  intro p e s m args below meth c H locs lsM hC hH hS hL
  exact va_cald hC.1 hC.2.1 hC.2.2.2.2.2.2.2.2.1.1 (hH.P hm) 0 t rfl (mm_tys_at ht) hin hd (kk p e s m args below meth c H locs lsM hC hH hS hL)
theorem mm_lald {a t N : Nat} {f : Nat → Int64} {i : Int32} (hd : decode Y.2.1 pc = .ok (.laload, 1)) (hm : M a = some (.inl (t, N, .inr (.inl f)))) (ht : mm_ty[t]? = some .long) (hin : vp_in i N) (kk : mm_Ev g l Y rm Q (pc + 1) ls (.long (f i.toNatClampNeg) :: st) M n k j) : mm_Ev g l Y rm Q pc ls (.int i :: .ref a :: st) M n k j := by
  intro p e s m args below meth c H locs lsM hC hH hS hL
  exact va_lald hC.1 hC.2.1 hC.2.2.2.2.2.2.2.2.1.1 (hH.P hm) 0 t rfl (mm_tys_at ht) hin hd (kk p e s m args below meth c H locs lsM hC hH hS hL)
theorem mm_aald {a t N : Nat} {C : String} {f : Nat → Option Nat} {i : Int32} {x : Nat} (hd : decode Y.2.1 pc = .ok (.aaload, 1)) (hm : M a = some (.inl (t, N, .inr (.inr (.inr (.inr f)))))) (ht : mm_ty[t]? = some (.object C)) (hin : vp_in i N) (hf : f i.toNatClampNeg = some x) (kk : mm_Ev g l Y rm Q (pc + 1) ls (.ref x :: st) M n k j) : mm_Ev g l Y rm Q pc ls (.int i :: .ref a :: st) M n k j := by
  intro p e s m args below meth c H locs lsM hC hH hS hL
  refine va_aldq hC.1 hC.2.1 hC.2.2.2.2.2.2.2.2.1.1 (hH.P hm) 0 t rfl (mm_tys_at ht) hin hd ?_
  rw [hf]
  exact kk p e s m args below meth c H locs lsM hC hH hS hL
theorem mm_alen {a t : Nat} {x : vp_A} {ty : FieldType} {v : Int32} (hd : decode Y.2.1 pc = .ok (.arraylength, 1)) (hm : M a = some (.inl (t, x))) (ht : mm_ty[t]? = some ty) (hv : Int32.ofNat x.1 = v) (kk : mm_Ev g l Y rm Q (pc + 1) ls (.int v :: st) M n k j) : mm_Ev g l Y rm Q pc ls (.ref a :: st) M n k j := by
  intro p e s m args below meth c H locs lsM hC hH hS hL
  refine va_alen hC.1 hC.2.1 hC.2.2.2.2.2.2.2.2.1.1 (hH.P hm) 0 t rfl (mm_tys_at ht) ?_ hd (kk p e s m args below meth c H locs lsM hC hH hS hL)
  rw [← hv]
  obtain ⟨N, y⟩ := x
  rcases y with y | y | y | y | y <;> rfl
theorem mm_tiald {q0 : Nat} {q : String × String × List Int32} {i : Int32} (hd : decode Y.2.1 pc = .ok (.iaload, 1)) (hq : mm_sta[q0]? = some q) (h0 : q0 < 1000) (hin : vp_in i q.2.2.length) (kk : mm_Ev g l Y rm Q (pc + 1) ls (.int (q.2.2.getD i.toNatClampNeg 0) :: st) M n k j) : mm_Ev g l Y rm Q pc ls (.int i :: .ref q0 :: st) M n k j := by
  intro p e s m args below meth c H locs lsM hC hH hS hL
  have ha : mm_ad g q0 = g.2.2.2 q0 := by unfold mm_ad; rw [if_pos h0]
  show W p l e rm s m args below meth c H locs k j _ (F0 m pc lsM (.int i :: .ref (mm_ad g q0) :: st.map (mm_tr g)))
  rw [ha]
  exact va_ti hC.1 hC.2.1 (hC.2.2.2.2.2.2.2.2.1.2.1 q0 q hq).2 hS hin rfl hd (kk p e s m args below meth c H locs lsM hC hH hS hL)
theorem mm_gets {q0 index : Nat} {q : String × String × List Int32} (hd : decode Y.2.1 pc = .ok (.getstatic index, 3)) (hq : mm_sta[q0]? = some q) (h0 : q0 < 1000) (hl : Cond.fieldLink Y.1.cls index q.1 q.2.1 "[I" ∈ mm_tb) (kk : mm_Ev g l Y rm Q (pc + 3) ls (.ref q0 :: st) M n k j) : mm_Ev g l Y rm Q pc ls st M n k j := by
  intro p e s m args below meth c H locs lsM hC hH hS hL
  have ha : mm_ad g q0 = g.2.2.2 q0 := by unfold mm_ad; rw [if_pos h0]
  refine va_gets hC.1 hC.2.1 (hC.2.2.2.2.2.2.2.2.1.2.1 q0 q hq).1 hS hC.2.2.2.2.1 (hC.2.2.2.2.2.1 _ hl) (fun _ h => h) hd ?_
  rw [← ha]
  exact kk p e s m args below meth c H locs lsM hC hH hS hL
theorem mm_iast {a t N : Nat} {f : Nat → Int32} {i : Int32} {x : Int32} (hd : decode Y.2.1 pc = .ok (.iastore, 1)) (hm : M a = some (.inl (t, N, .inl f))) (ht : mm_ty[t]? = some .int) (hin : vp_in i N) (kk : ∀ M1 : mm_M, M1 = mm_up M a (.inl (t, N, .inl (upd f i.toNatClampNeg x))) → mm_Ev g l Y rm Q (pc + 1) ls st M1 n k j) : mm_Ev g l Y rm Q pc ls (.int x :: .int i :: .ref a :: st) M n k j := by
  intro p e s m args below meth c H locs lsM hC hH hS hL
  obtain ⟨h1000, -, hat⟩ := hH.2.2 a _ hm
  refine W.iast hC.1 hC.2.1 hat ((hC.2.2.2.2.2.2.2.2.1.1.2 t _ (mm_tys_at ht)).1 N (fun q => .int (f q))) (fun q => by cases q) (by show ¬ (i < 0 ∨ (arrV _ _ _).slots.size ≤ _); rw [arrV_size]; exact hin) rfl rfl hd fun H1 e1 z oq => ?_
  refine kk _ rfl p e s m args below meth c H1 _ lsM hC (hH.set hm z oq ?_) (hS.put z oq (mm_ad_A h1000)) hL
  show H1[_]? = some (vp_cell _ _)
  rw [e1]
  show some ((vp_cell _ (N, .inl f)).setSlot _ _) = some (vp_cell _ (N, .inl (upd f i.toNatClampNeg x)))
  rw [vp_cell_i, vp_cell_i, arrV_store]
  congr 2
  funext q
  by_cases hq : q = i.toNatClampNeg
  · subst hq
    simp [updV, upd, vp_updL, vp_nar]
    try rfl
  · simp [updV, upd, vp_updL, hq]
theorem mm_bast {a t N : Nat} {f : Nat → Int32} {i : Int32} {x : Int32} (hd : decode Y.2.1 pc = .ok (.bastore, 1)) (hm : M a = some (.inl (t, N, .inl f))) (ht : mm_ty[t]? = some .byte) (hin : vp_in i N) (kk : ∀ M1 : mm_M, M1 = mm_up M a (.inl (t, N, .inl (upd f i.toNatClampNeg (vp_nar .byte x)))) → mm_Ev g l Y rm Q (pc + 1) ls st M1 n k j) : mm_Ev g l Y rm Q pc ls (.int x :: .int i :: .ref a :: st) M n k j := by
  intro p e s m args below meth c H locs lsM hC hH hS hL
  obtain ⟨h1000, -, hat⟩ := hH.2.2 a _ hm
  refine W.bast hC.1 hC.2.1 hat ((hC.2.2.2.2.2.2.2.2.1.1.2 t _ (mm_tys_at ht)).1 N (fun q => .int (f q))) (fun q => by cases q) (by show ¬ (i < 0 ∨ (arrV _ _ _).slots.size ≤ _); rw [arrV_size]; exact hin) rfl rfl hd fun H1 e1 z oq => ?_
  refine kk _ rfl p e s m args below meth c H1 _ lsM hC (hH.set hm z oq ?_) (hS.put z oq (mm_ad_A h1000)) hL
  show H1[_]? = some (vp_cell _ _)
  rw [e1]
  show some ((vp_cell _ (N, .inl f)).setSlot _ _) = some (vp_cell _ (N, .inl (upd f i.toNatClampNeg (vp_nar .byte x))))
  rw [vp_cell_i, vp_cell_i, arrV_store]
  congr 2
  funext q
  by_cases hq : q = i.toNatClampNeg
  · subst hq
    simp [updV, upd, vp_updL, vp_nar]
    try rfl
  · simp [updV, upd, vp_updL, hq]
theorem mm_zast {a t N : Nat} {f : Nat → Int32} {i : Int32} {x : Int32} (hd : decode Y.2.1 pc = .ok (.bastore, 1)) (hm : M a = some (.inl (t, N, .inl f))) (ht : mm_ty[t]? = some .boolean) (hin : vp_in i N) (kk : ∀ M1 : mm_M, M1 = mm_up M a (.inl (t, N, .inl (upd f i.toNatClampNeg (vp_nar .boolean x)))) → mm_Ev g l Y rm Q (pc + 1) ls st M1 n k j) : mm_Ev g l Y rm Q pc ls (.int x :: .int i :: .ref a :: st) M n k j := by
  intro p e s m args below meth c H locs lsM hC hH hS hL
  obtain ⟨h1000, -, hat⟩ := hH.2.2 a _ hm
  refine W.zast hC.1 hC.2.1 hat ((hC.2.2.2.2.2.2.2.2.1.1.2 t _ (mm_tys_at ht)).1 N (fun q => .int (f q))) (fun q => by cases q) (by show ¬ (i < 0 ∨ (arrV _ _ _).slots.size ≤ _); rw [arrV_size]; exact hin) rfl rfl hd fun H1 e1 z oq => ?_
  refine kk _ rfl p e s m args below meth c H1 _ lsM hC (hH.set hm z oq ?_) (hS.put z oq (mm_ad_A h1000)) hL
  show H1[_]? = some (vp_cell _ _)
  rw [e1]
  show some ((vp_cell _ (N, .inl f)).setSlot _ _) = some (vp_cell _ (N, .inl (upd f i.toNatClampNeg (vp_nar .boolean x))))
  rw [vp_cell_i, vp_cell_i, arrV_store]
  congr 2
  funext q
  by_cases hq : q = i.toNatClampNeg
  · subst hq
    simp [updV, upd, vp_updL, vp_nar]
    try rfl
  · simp [updV, upd, vp_updL, hq]
theorem mm_cast {a t N : Nat} {f : Nat → Int32} {i : Int32} {x : Int32} (hd : decode Y.2.1 pc = .ok (.castore, 1)) (hm : M a = some (.inl (t, N, .inl f))) (ht : mm_ty[t]? = some .char) (hin : vp_in i N) (kk : ∀ M1 : mm_M, M1 = mm_up M a (.inl (t, N, .inl (upd f i.toNatClampNeg (vp_nar .char x)))) → mm_Ev g l Y rm Q (pc + 1) ls st M1 n k j) : mm_Ev g l Y rm Q pc ls (.int x :: .int i :: .ref a :: st) M n k j := by
  intro p e s m args below meth c H locs lsM hC hH hS hL
  obtain ⟨h1000, -, hat⟩ := hH.2.2 a _ hm
  refine W.cast hC.1 hC.2.1 hat ((hC.2.2.2.2.2.2.2.2.1.1.2 t _ (mm_tys_at ht)).1 N (fun q => .int (f q))) (fun q => by cases q) (by show ¬ (i < 0 ∨ (arrV _ _ _).slots.size ≤ _); rw [arrV_size]; exact hin) rfl rfl hd fun H1 e1 z oq => ?_
  refine kk _ rfl p e s m args below meth c H1 _ lsM hC (hH.set hm z oq ?_) (hS.put z oq (mm_ad_A h1000)) hL
  show H1[_]? = some (vp_cell _ _)
  rw [e1]
  show some ((vp_cell _ (N, .inl f)).setSlot _ _) = some (vp_cell _ (N, .inl (upd f i.toNatClampNeg (vp_nar .char x))))
  rw [vp_cell_i, vp_cell_i, arrV_store]
  congr 2
  funext q
  by_cases hq : q = i.toNatClampNeg
  · subst hq
    simp [updV, upd, vp_updL, vp_nar]
    try rfl
  · simp [updV, upd, vp_updL, hq]
theorem mm_last {a t N : Nat} {f : Nat → Int64} {i : Int32} {x : Int64} (hd : decode Y.2.1 pc = .ok (.lastore, 1)) (hm : M a = some (.inl (t, N, .inr (.inl f)))) (ht : mm_ty[t]? = some .long) (hin : vp_in i N) (kk : ∀ M1 : mm_M, M1 = mm_up M a (.inl (t, N, .inr (.inl (vp_updL f i.toNatClampNeg x)))) → mm_Ev g l Y rm Q (pc + 1) ls st M1 n k j) : mm_Ev g l Y rm Q pc ls (.long x :: .int i :: .ref a :: st) M n k j := by
  intro p e s m args below meth c H locs lsM hC hH hS hL
  obtain ⟨h1000, -, hat⟩ := hH.2.2 a _ hm
  refine W.last hC.1 hC.2.1 hat ((hC.2.2.2.2.2.2.2.2.1.1.2 t _ (mm_tys_at ht)).1 N (fun q => .long (f q))) (fun q => by cases q) (by show ¬ (i < 0 ∨ (arrV _ _ _).slots.size ≤ _); rw [arrV_size]; exact hin) rfl rfl hd fun H1 e1 z oq => ?_
  refine kk _ rfl p e s m args below meth c H1 _ lsM hC (hH.set hm z oq ?_) (hS.put z oq (mm_ad_A h1000)) hL
  show H1[_]? = some (vp_cell _ _)
  rw [e1]
  show some ((vp_cell _ (N, .inr (.inl f))).setSlot _ _) = some (vp_cell _ (N, .inr (.inl (vp_updL f i.toNatClampNeg x))))
  rw [vp_cell_l, vp_cell_l, arrV_store]
  congr 2
  funext q
  by_cases hq : q = i.toNatClampNeg
  · subst hq
    simp [updV, upd, vp_updL, vp_nar]
    try rfl
  · simp [updV, upd, vp_updL, hq]
theorem mm_new {index ci N : Nat} {fs : List Value} (hd : decode Y.2.1 pc = .ok (.new index, 3)) (hN : mm_Nl Y.1.cls index ci N fs) (hcells : k + 1 ≤ rm.cells) (hslots : j + N ≤ rm.slots) (kk : ∀ M1 : mm_M, M1 = mm_up M n (.inr (ci, fs)) → mm_Ev g l Y rm Q (pc + 3) ls (.ref n :: st) M1 (n + 1) (k + 1) (j + N)) : mm_Ev g l Y rm Q pc ls st M n k j := by
  intro p e s m args below meth c H locs lsM hC hH hS hL
  obtain ⟨C, T, t, hc, hw, hty, w1, w2, w3, hfs, hmap⟩ := hN
  obtain ⟨hx, hb, -, -, hown, hts, -, -, hI, hbs⟩ := id hC
  have hKn := hI.1.1 ci _ hc
  refine W.newcK hx hb hown (hts _ w1) (hts _ w2) (hts _ w3) rfl hd hcells hslots hKn.2.1 rfl fun H1 kC hkC e1 z1 o1 => ?_
  have hend := hH.end
  have h9 := kk _ rfl p e s m args below meth c H1 locs lsM hC (hH.push z1 o1 (by
    rw [hend]
    show va_at _ _ (H.size, .inr (ci, fs.map (mm_tr g))) H1
    rw [hmap g]
    exact ⟨_, hc, (u_born t hts hw hKn hkC e1 hty).to hfs⟩)) ⟨Nat.le_trans hS.1 (by omega), fun q h1 h2 => (o1 q (Nat.lt_of_lt_of_le h1 hS.1)).trans (hS.2.1 q h1 h2), hS.2.2⟩ hL
  have e9 : mm_tr g (.ref n) = .ref H.size := by show Value.ref (mm_ad g n) = _; rw [hend]
  rw [List.map_cons, e9] at h9
  exact h9
end MMHP
end
section
/-! Ends, entering, calls. -/
theorem mm_fin_of {g : mm_G} {mc ms n : Nat} {below : List Frame} {args : Array Value} {s t : State} {Q : mm_O → Prop} {v : Option Value} {M : mm_M} {H : Heap} (hQ : Q (.inl v, M, n)) (hH : mm_H g M n H) (hlow : ∀ q : Nat, q < g.2.2.1 → H[q]? = s.heap[q]?) (h : MQ below (fun _ _ o t => o = .returned (v.map (mm_tr g)) ∧ t.heap = H) args s mc ms (mm_A g) t) : mm_Fin g mc ms below s Q t := by
  obtain ⟨o, h1, h2, ⟨h3, h4⟩, L, ⟨-, h5, h6⟩, h7⟩ := h
  exact ⟨o, h1, h2, (.inl v, M, n), L, hQ, by rw [h4]; exact hH, fun q hq => by rw [h4]; exact hlow q hq, h7, h5, h6, h3⟩
theorem mm_low {g : mm_G} {s : State} {H : Heap} {locs : List Loc} (hS : va_S (mm_A g) s.heap H locs) (hb : g.2.2.1 ≤ s.heap.size) : ∀ q : Nat, q < g.2.2.1 → H[q]? = s.heap[q]? := fun q hq => hS.2.1 q (Nat.lt_of_lt_of_le hq hb) (fun z => absurd hq (Nat.not_lt.mpr z))
theorem mm_H.base {g : mm_G} {M : mm_M} {n : Nat} {H : Heap} (h : mm_H g M n H) : g.2.2.1 ≤ H.size := by
  have h1 := h.1
  have h2 := h.2.1
  omega
section MMRT
variable {g : mm_G} {l : Launch} {Y : mm_Y} {rm : Room} {Q : mm_O → Prop} {pc : Nat} {ls : List (Option Value)} {st : List Value} {M : mm_M} {n k j : Nat}
theorem mm_iret {v : Int32} (hd : decode Y.2.1 pc = .ok (.ireturn, 1)) (hr : Y.2.2.2 = some .int) (hk : k ≤ rm.cells) (hj : j ≤ rm.slots) (hQ : Q (.inl (some (.int v)), M, n)) : mm_Ev g l Y rm Q pc ls [.int v] M n k j := by
  intro p e s m args below meth c H locs lsM hC hH hS hL
  obtain ⟨hx, hb, -, hrt, -, -, hlk, -, -, hbs⟩ := id hC
  refine W.widen hk hj (mm_W_mono (fun t ht => mm_fin_of (args := args) hQ hH (mm_low hS hbs) ht) ?_)
  exact W.iret (v := v) hx hb (hrt.trans hr) (fun t ht hW => ⟨rfl, ht⟩) hS.2.2 hd hlk
theorem mm_zret {v : Int32} {ty : FieldType} (hd : decode Y.2.1 pc = .ok (.ireturn, 1)) (hr : Y.2.2.2 = some ty) (hn : narrow ty (.int v) = .int v) (hk : k ≤ rm.cells) (hj : j ≤ rm.slots) (hQ : Q (.inl (some (.int v)), M, n)) : mm_Ev g l Y rm Q pc ls [.int v] M n k j := by
  intro p e s m args below meth c H locs lsM hC hH hS hL
  obtain ⟨hx, hb, -, hrt, -, -, hlk, -, -, hbs⟩ := id hC
  refine W.widen hk hj (mm_W_mono (fun t ht => mm_fin_of (args := args) hQ hH (mm_low hS hbs) ht) ?_)
  exact W.zret (v := v) hx hb (hrt.trans hr) hn (fun t ht hW => ⟨rfl, ht⟩) hS.2.2 hd hlk
theorem mm_lret {v : Int64} (hd : decode Y.2.1 pc = .ok (.lreturn, 1)) (hr : Y.2.2.2 = some .long) (hk : k ≤ rm.cells) (hj : j ≤ rm.slots) (hQ : Q (.inl (some (.long v)), M, n)) : mm_Ev g l Y rm Q pc ls [.long v] M n k j := by
  intro p e s m args below meth c H locs lsM hC hH hS hL
  obtain ⟨hx, hb, -, hrt, -, -, hlk, -, -, hbs⟩ := id hC
  refine W.widen hk hj (mm_W_mono (fun t ht => mm_fin_of (args := args) hQ hH (mm_low hS hbs) ht) ?_)
  exact W.lret (v := v) hx hb (hrt.trans hr) (fun t ht hW => ⟨rfl, ht⟩) hS.2.2 hd hlk
theorem mm_vret (hd : decode Y.2.1 pc = .ok (.return_, 1)) (hr : Y.2.2.2 = none) (hk : k ≤ rm.cells) (hj : j ≤ rm.slots) (hQ : Q (.inl none, M, n)) : mm_Ev g l Y rm Q pc ls [] M n k j := by
  intro p e s m args below meth c H locs lsM hC hH hS hL
  obtain ⟨hx, hb, -, hrt, -, -, hlk, -, -, hbs⟩ := id hC
  refine W.widen hk hj (mm_W_mono (fun t ht => mm_fin_of (args := args) hQ hH (mm_low hS hbs) ht) ?_)
  exact W.vret hx hb (hrt.trans hr) (fun t ht hW => ⟨rfl, ht⟩) hS.2.2 hd hlk
theorem mm_aret {a : Nat} {C : String} (hd : decode Y.2.1 pc = .ok (.areturn, 1)) (hr : Y.2.2.2 = some (.object C)) (hk : k ≤ rm.cells) (hj : j ≤ rm.slots) (hQ : Q (.inl (some (.ref a)), M, n)) : mm_Ev g l Y rm Q pc ls [.ref a] M n k j := by
  intro p e s m args below meth c H locs lsM hC hH hS hL
  obtain ⟨hx, hb, -, hrt, -, -, hlk, -, -, hbs⟩ := id hC
  refine W.widen hk hj (mm_W_mono (fun t ht => mm_fin_of (args := args) hQ hH (mm_low hS hbs) ht) ?_)
  exact W.aret (v := .ref (mm_ad g a)) hx hb (hrt.trans hr) (Or.inl ⟨_, rfl⟩) (Or.inr ⟨_, rfl⟩) (fun t ht hW => ⟨rfl, ht⟩) hS.2.2 hd hlk
end MMRT
def mm_wd (Y : mm_Y) : List Cond := Cond.code Y.1 Y.2.1 Y.2.2.1 Y.2.2.2 :: mm_tb
def mm_Met (g : mm_G) (l : Launch) (Y : mm_Y) (rm : Room) (as : List Value) (M : mm_M) (n : Nat) (Q : mm_O → Prop) : Prop :=
  MetFree l Y.1 (headSpec (mm_wd Y) rm) (fun a U => a = (as.map (mm_tr g)).toArray ∧ mm_I g U U.heap ∧ mm_H g M n U.heap) (fun _ _ _ _ _ => True) (fun _ st o t => mm_Po g rm.cells rm.slots st Q o t)
def mm_ent : List Value → List (Option Value)
  | [] => []
  | v :: vs => match v with
    | .long x => some (.long x) :: none :: mm_ent vs
    | .double x => some (.double x) :: none :: mm_ent vs
    | v => some v :: mm_ent vs
theorem mm_ent_in {g : mm_G} : ∀ (as : List Value) (b i : Nat) (v : Value), mm_lg (mm_ent as) i = some v → (b + i, mm_tr g v) ∈ lv_args b (as.map (mm_tr g)) := by
  intro as
  induction as with
  | nil => intro b i v h; cases h
  | cons w as ih =>
    intro b i v h
    have one : (mm_ent (w :: as) = some w :: mm_ent as ∧ (mm_tr g w).category = 1) ∨ (mm_ent (w :: as) = some w :: none :: mm_ent as ∧ (mm_tr g w).category = 2) := by
      cases w <;> first | exact Or.inl ⟨rfl, rfl⟩ | exact Or.inr ⟨rfl, rfl⟩
    rw [List.map_cons, lv_args]
    rcases one with ⟨h1, h2⟩ | ⟨h1, h2⟩
    · rw [h1] at h
      rw [if_neg (by omega)]
      cases i with
      | zero => cases h; exact List.mem_cons_self
      | succ i =>
        have := ih (b + 1) i v h
        rw [show b + 1 + i = b + (i + 1) by omega] at this
        exact List.mem_cons_of_mem _ this
    · rw [h1] at h
      rw [if_pos h2]
      cases i with
      | zero => cases h; exact List.mem_cons_self
      | succ i =>
        cases i with
        | zero => cases h
        | succ i =>
          have := ih (b + 2) i v h
          rw [show b + 2 + i = b + (i + 1 + 1) by omega] at this
          exact List.mem_cons_of_mem _ this
theorem mm_enter {g : mm_G} {l : Launch} {Y : mm_Y} {rm : Room} {as : List Value} {M : mm_M} {n : Nat} {Q : mm_O → Prop} (hy : plainName Y.1.cls = true) (hfit : (lg_sl (as.map (mm_tr g))).length ≤ Y.2.2.1) (h : mm_Ev g l Y rm Q 0 (mm_ent as) [] M n 0 0) : mm_Met g l Y rm as M n Q := by
  refine MetFree.of_bodyS (code := Y.2.1) (maxLocals := Y.2.2.1) (ret := Y.2.2.2) hy ?_ ?_
  · intro args s m h hn
    obtain ⟨meth, c, h1, h2, h3, h4, h5, h6, -, -⟩ := Cond.code_spec hn (atoms_spec (ws := mm_wd Y) h _ List.mem_cons_self)
    exact ⟨meth, c, h1, h2, h3, h4, h5, h6⟩
  · intro p e s m args below meth c s₁ B hml hP _
    obtain ⟨rfl, hI, hH⟩ := hP
    have hh0 : s₁.heap = s.heap := by rw [B.state]; rfl
    have hts0 := atoms_spec (ws := mm_wd Y) B.pre
    have hC : mm_Cx g Y p s m (as.map (mm_tr g)).toArray meth c := ⟨B.exec, B.bytes, hml, B.returns, findClass_of_methodNamed B.named, fun w hw => hts0 w (List.mem_cons_of_mem _ hw), B.notSynchronized, ⟨(name_of_methodNamed B.named B.method).1, B.named⟩, hI, hH.base⟩
    have hl := lv_entry (as.map (mm_tr g)) (n := Y.2.2.1) hfit
    have hL : mm_L g Y.2.2.1 (mm_ent as) ((lg_sl (as.map (mm_tr g)) ++ List.replicate (Y.2.2.1 - (lg_sl (as.map (mm_tr g))).length) Slot.unset).toArray) := by
      refine ⟨hl.1, hl.2.1, fun i v hv => ?_⟩
      have h9 := mm_ent_in (g := g) as 0 i v hv
      rw [Nat.zero_add] at h9
      exact hl.2.2 _ h9
    obtain ⟨t, a1, o, b1, b2, b3⟩ := h p e s m _ below meth c s.heap [] _ hC hH va_S.rf hL s₁ hh0 (Stand.of_body B)
    refine ⟨t, o, ?_, b1, b2, b3⟩
    rw [lg_entry_eq]
    exact a1
end
section
/-! Calls in the judgement: the callee returns, or throws. -/
/-- what is behind an exception of class i that a call at pc has thrown -/
def mm_Tv (g : mm_G) (l : Launch) (Y : mm_Y) (rm : Room) (Q : mm_O → Prop) (pc : Nat) (ls : List (Option Value)) (st : List Value) (M : mm_M) (n k j i : Nat) : Prop :=
  ∀ (p : Program) (e : Env) (s : State) (m : MethodId) (args : Array Value) (below : List Frame) (meth : Method) (c : Code) (H : Heap) (locs : List Loc) (lsM : Array Slot) (x : Addr),
    mm_Cx g Y p s m args meth c → mm_H g M n H → va_S (mm_A g) s.heap H locs → mm_L g Y.2.2.1 ls lsM → (∃ t : State, t.heap = H ∧ s.WarmedH t.vm ∧ mm_Xc i x t) → mm_Th p l e rm s m args below meth c H locs k j (mm_Fin g rm.cells rm.slots below s Q) (F0 m pc lsM (st.map (mm_tr g))) x
/-- a method's own words -/
def mm_Yw (Y : mm_Y) (np : Nat) : Prop := Cond.code Y.1 Y.2.1 Y.2.2.1 Y.2.2.2 ∈ mm_tb ∧ Cond.initialized Y.1.cls ∈ mm_tb ∧ (Y.1.cls ≠ "java/lang/invoke/MethodHandle" ∧ Y.1.cls ≠ "java/lang/invoke/VarHandle") ∧ (parseMethodDescriptor Y.1.desc).map (fun d => d.parameters.length) = some np
theorem mm_Yw.len {Y : mm_Y} {np : Nat} (h : mm_Yw Y np) : ∀ sig, parseMethodDescriptor Y.1.desc = some sig → np = sig.parameters.length := fun sig hs => by
  have h2 := h.2.2.2
  rw [hs] at h2
  exact (Option.some.inj h2).symm
def mm_Vl (own : String) (index ci np : Nat) (Y : mm_Y) : Prop := mm_Yw Y np ∧ ∃ q : vw_C, mm_cl[ci]? = some q ∧ Cond.methodLink own index Y.1 ∈ mm_tb ∧ Cond.instanceMethod Y.1 ∈ mm_tb ∧ Cond.selects q.1 Y.1 Y.1 ∈ mm_tb
def mm_Sl (own : String) (index np : Nat) (Y : mm_Y) : Prop := mm_Yw Y np ∧ Cond.methodLink own index Y.1 ∈ mm_tb ∧ Cond.static Y.1 ∈ mm_tb
def mm_Il (own : String) (index np : Nat) (Y : mm_Y) : Prop := mm_Yw Y np ∧ Cond.methodLink own index Y.1 ∈ mm_tb ∧ Cond.instanceMethod Y.1 ∈ mm_tb ∧ Y.1.name = "<init>" ∧ Y.2.2.2 = none
theorem mm_cat_sum (g : mm_G) (st : List Value) : ((st.map (mm_tr g)).map fun v => v.category).sum = (st.map fun v => v.category).sum := by
  rw [List.map_map]
  congr 1
  exact List.map_congr_left (fun v _ => mm_tr_cat g v)
section MMCL
variable {g : mm_G} {l : Launch} {Y : mm_Y} {rm : Room} {Q : mm_O → Prop} {pc : Nat} {ls : List (Option Value)} {st : List Value} {M : mm_M} {n k j : Nat}
theorem mm_pay {Z : mm_Y} {rz : Room} {np : Nat} (hZ : mm_Yw Z np) {s : State} {args a : Array Value} (hts : ∀ w ∈ mm_tb, w.before args s = true) {U : State} {mk : MethodId} (hW : s.WarmedH U.vm) (hn : U.methodNamed? Z.1 = some mk) : (headSpec (mm_wd Z) rz).pre.before a U = true ∧ (Cond.initialized Z.1.cls).before a U = true ∧ ∃ methY cY, U.vm.method? mk = some methY ∧ methY.code = some cY ∧ cY.maxLocals = Z.2.2.1 := by
  have h := mm_tb_good hts hW a
  obtain ⟨methY, cY, h1, h2, -, h4, -⟩ := Cond.code_spec hn (h _ hZ.1)
  refine ⟨atoms_intro (ws := mm_wd Z) (fun w hw => ?_), h _ hZ.2.1, methY, cY, h1, h2, h4⟩
  rcases List.mem_cons.mp hw with rfl | hw
  · exact h _ hZ.1
  · exact h _ hw
theorem mm_callV {Z : mm_Y} {rz : Room} {Qz : mm_O → Prop} {a ci index np : Nat} {fs as : List Value} (hd : decode Y.2.1 pc = .ok (.invokevirtual index, 3)) (hZ : mm_Vl Y.1.cls index ci np Z) (hM : mm_Met g l Z rz (.ref a :: as) M n Qz) (hm : M a = some (.inr (ci, fs))) (hlen : as.length = np)
    (hroom : rz.frames + 1 ≤ rm.frames ∧ (st.map fun v => v.category).sum + (Z.2.2.1 + 11) + rz.locals ≤ rm.locals) (hk : k + rz.cells ≤ rm.cells) (hj : j + rz.slots ≤ rm.slots)
    (kr : ∀ (v : Option Value) (M1 : mm_M) (n1 : Nat), Qz (.inl v, M1, n1) → mm_Ev g l Y rm Q (pc + 3) ls (v.toList ++ st) M1 n1 (k + rz.cells) (j + rz.slots))
    (kt : ∀ (i : Nat) (M1 : mm_M) (n1 : Nat), Qz (.inr i, M1, n1) → mm_Tv g l Y rm Q pc ls st M1 n1 (k + rz.cells) (j + rz.slots) i) : mm_Ev g l Y rm Q pc ls (as.reverse ++ .ref a :: st) M n k j := by
  intro p e s m args below meth c H locs lsM hC hH hS hL
  obtain ⟨hx, hb, hml, -, hown, hts, -, -, hI, hbs⟩ := id hC
  obtain ⟨hYw, q, hc, w1, w2, w3⟩ := hZ
  obtain ⟨cellB, hcB, hoB, hclB⟩ := va_recv hI.1 (hH.P hm) hc (q0 := 0) rfl
  have hst : (as.reverse ++ .ref a :: st).map (mm_tr g) = (as.map (mm_tr g)).reverse ++ .ref (mm_ad g a) :: st.map (mm_tr g) := by
    rw [List.map_append, List.map_reverse]; rfl
  rw [hst]
  obtain ⟨mk0, methM0, hnamed0, hmeth0, -, -⟩ := Cond.instanceMethod_spec (hts _ w2)
  obtain ⟨methM', cM, hmethM', -, -, -, -, -, -, hsigM⟩ := Cond.code_spec hnamed0 (hts _ hYw.1)
  have hLk := mm_lkV (l := l) (e := e) (R := rm) (below := below) (meth := meth) (locs := locs) (cells := k) (slots := j) hx hown (hts _ w1) (hts _ w2) (hts _ w3) (sig0 := methM'.sig) (fun mk methM h1 h2 => by
    cases hnamed0.symm.trans h1
    cases hmethM'.symm.trans h2
    rfl) hYw.2.2.1 hcB hoB hclB (fr := F0 m pc lsM ((as.map (mm_tr g)).reverse ++ .ref (mm_ad g a) :: st.map (mm_tr g))) rfl (argsL := as.map (mm_tr g)) (rest := st.map (mm_tr g)) (by rw [List.length_map, hlen]; exact hYw.len _ hsigM) rfl (by rw [hb]; exact hd)
  refine mm_callAny (S := headSpec (mm_wd Z) rz) (maxL := Z.2.2.1) (Wd := (st.map fun v => v.category).sum) hLk hM rfl (by rw [hml]; exact hL.1) hroom.1 hroom.2 (by rw [mm_cat_sum]; show 2 * 0 + _ ≤ _; omega) (by rw [hb]; exact hd)
    (fun U mk hW hn => mm_pay hYw hts hW hn) hk hj (fun U hW hU => ⟨rfl, (hI.moved hW).kept (by rw [hU]; exact hS.2.1), by rw [hU]; exact hH⟩) hS hbs
    (fun v M1 n1 H1 locs1 hQz hH1 hS1 => ?_) (fun i x M1 n1 H1 locs1 hQz hH1 hS1 hX => ?_)
  · have h9 := kr v M1 n1 hQz p e s m args below meth c H1 locs1 lsM hC hH1 hS1 hL
    rw [List.map_append] at h9
    cases v <;> exact h9
  · exact kt i M1 n1 hQz p e s m args below meth c H1 locs1 lsM x hC hH1 hS1 hL hX
theorem mm_callS {Z : mm_Y} {rz : Room} {Qz : mm_O → Prop} {index np : Nat} {as : List Value} (hd : decode Y.2.1 pc = .ok (.invokestatic index, 3)) (hZ : mm_Sl Y.1.cls index np Z) (hM : mm_Met g l Z rz as M n Qz) (hlen : as.length = np)
    (hroom : rz.frames + 1 ≤ rm.frames ∧ (st.map fun v => v.category).sum + (Z.2.2.1 + 11) + rz.locals ≤ rm.locals) (hk : k + rz.cells ≤ rm.cells) (hj : j + rz.slots ≤ rm.slots)
    (kr : ∀ (v : Option Value) (M1 : mm_M) (n1 : Nat), Qz (.inl v, M1, n1) → mm_Ev g l Y rm Q (pc + 3) ls (v.toList ++ st) M1 n1 (k + rz.cells) (j + rz.slots))
    (kt : ∀ (i : Nat) (M1 : mm_M) (n1 : Nat), Qz (.inr i, M1, n1) → mm_Tv g l Y rm Q pc ls st M1 n1 (k + rz.cells) (j + rz.slots) i) : mm_Ev g l Y rm Q pc ls (as.reverse ++ st) M n k j := by
  intro p e s m args below meth c H locs lsM hC hH hS hL
  obtain ⟨hx, hb, hml, -, hown, hts, -, -, hI, hbs⟩ := id hC
  obtain ⟨hYw, w1, w2⟩ := hZ
  have hst : (as.reverse ++ st).map (mm_tr g) = (as.map (mm_tr g)).reverse ++ st.map (mm_tr g) := by
    rw [List.map_append, List.map_reverse]
  rw [hst]
  obtain ⟨mk0, hnamed0⟩ := Cond.code_named (hts _ hYw.1)
  obtain ⟨methM', cM, hmethM', -, -, -, -, -, -, hsigM⟩ := Cond.code_spec hnamed0 (hts _ hYw.1)
  have hLk := mm_lkS (l := l) (e := e) (R := rm) (below := below) (meth := meth) (H := H) (locs := locs) (cells := k) (slots := j) hx hown (hts _ w1) (hts _ w2) (hts _ hYw.2.1) hnamed0 hmethM' (sig0 := methM'.sig) rfl hYw.2.2.1 (fr := F0 m pc lsM ((as.map (mm_tr g)).reverse ++ st.map (mm_tr g))) rfl (argsL := as.map (mm_tr g)) (rest := st.map (mm_tr g)) (by rw [List.length_map, hlen]; exact hYw.len _ hsigM) rfl (by rw [hb]; exact hd)
  refine mm_callAny (S := headSpec (mm_wd Z) rz) (maxL := Z.2.2.1) (Wd := (st.map fun v => v.category).sum) hLk hM rfl (by rw [hml]; exact hL.1) hroom.1 hroom.2 (by rw [mm_cat_sum]; show 2 * 0 + _ ≤ _; omega) (by rw [hb]; exact hd)
    (fun U mk hW hn => mm_pay hYw hts hW hn) hk hj (fun U hW hU => ⟨rfl, (hI.moved hW).kept (by rw [hU]; exact hS.2.1), by rw [hU]; exact hH⟩) hS hbs
    (fun v M1 n1 H1 locs1 hQz hH1 hS1 => ?_) (fun i x M1 n1 H1 locs1 hQz hH1 hS1 hX => ?_)
  · have h9 := kr v M1 n1 hQz p e s m args below meth c H1 locs1 lsM hC hH1 hS1 hL
    rw [List.map_append] at h9
    cases v <;> exact h9
  · exact kt i M1 n1 hQz p e s m args below meth c H1 locs1 lsM x hC hH1 hS1 hL hX
theorem mm_callI {Z : mm_Y} {rz : Room} {Qz : mm_O → Prop} {a index np : Nat} {as : List Value} (hd : decode Y.2.1 pc = .ok (.invokespecial index, 3)) (hZ : mm_Il Y.1.cls index np Z) (hM : mm_Met g l Z rz (.ref a :: as) M n Qz) (hlen : as.length = np)
    (hroom : rz.frames + 1 ≤ rm.frames ∧ (st.map fun v => v.category).sum + (Z.2.2.1 + 11) + rz.locals ≤ rm.locals) (hk : k + rz.cells ≤ rm.cells) (hj : j + rz.slots ≤ rm.slots)
    (kr : ∀ (v : Option Value) (M1 : mm_M) (n1 : Nat), Qz (.inl v, M1, n1) → mm_Ev g l Y rm Q (pc + 3) ls (v.toList ++ st) M1 n1 (k + rz.cells) (j + rz.slots))
    (kt : ∀ (i : Nat) (M1 : mm_M) (n1 : Nat), Qz (.inr i, M1, n1) → mm_Tv g l Y rm Q pc ls st M1 n1 (k + rz.cells) (j + rz.slots) i) : mm_Ev g l Y rm Q pc ls (as.reverse ++ .ref a :: st) M n k j := by
  intro p e s m args below meth c H locs lsM hC hH hS hL
  obtain ⟨hx, hb, hml, -, hown, hts, -, -, hI, hbs⟩ := id hC
  obtain ⟨hYw, w1, w2, hy1, hy2⟩ := hZ
  have hst : (as.reverse ++ .ref a :: st).map (mm_tr g) = (as.map (mm_tr g)).reverse ++ .ref (mm_ad g a) :: st.map (mm_tr g) := by
    rw [List.map_append, List.map_reverse]; rfl
  rw [hst]
  have hcode := hts _ hYw.1
  rw [hy2] at hcode
  have hLk := mm_lkI (l := l) (e := e) (R := rm) (below := below) (meth := meth) (H := H) (locs := locs) (cells := k) (slots := j) hx hown hy1 (hts _ w1) (hts _ w2) hcode hYw.2.2.1 (fr := F0 m pc lsM ((as.map (mm_tr g)).reverse ++ .ref (mm_ad g a) :: st.map (mm_tr g))) rfl (a := mm_ad g a) (argsL := as.map (mm_tr g)) (rest := st.map (mm_tr g)) (fun sig hs => by rw [List.length_map, hlen]; exact hYw.len _ hs) rfl (by rw [hb]; exact hd)
  refine mm_callAny (S := headSpec (mm_wd Z) rz) (maxL := Z.2.2.1) (Wd := (st.map fun v => v.category).sum) hLk hM rfl (by rw [hml]; exact hL.1) hroom.1 hroom.2 (by rw [mm_cat_sum]; show 2 * 0 + _ ≤ _; omega) (by rw [hb]; exact hd)
    (fun U mk hW hn => mm_pay hYw hts hW hn) hk hj (fun U hW hU => ⟨rfl, (hI.moved hW).kept (by rw [hU]; exact hS.2.1), by rw [hU]; exact hH⟩) hS hbs
    (fun v M1 n1 H1 locs1 hQz hH1 hS1 => ?_) (fun i x M1 n1 H1 locs1 hQz hH1 hS1 hX => ?_)
  · have h9 := kr v M1 n1 hQz p e s m args below meth c H1 locs1 lsM hC hH1 hS1 hL
    rw [List.map_append] at h9
    cases v <;> exact h9
  · exact kt i M1 n1 hQz p e s m args below meth c H1 locs1 lsM x hC hH1 hS1 hL hX
/-- an exception that isn't caught here leaves the method (its code has no handlers: its word is 'code') -/
theorem mm_out {np i : Nat} (hY : mm_Yw Y np) (hk : k ≤ rm.cells) (hj : j ≤ rm.slots) (hQ : Q (.inr i, M, n)) : mm_Tv g l Y rm Q pc ls st M n k j i := by
  intro p e s m args below meth c H locs lsM x hC hH hS hL hX T hT X0
  obtain ⟨hx, hb, hml, -, hown, hts, hlk, hnm, hI, hbs⟩ := id hC
  have X := stand_widen X0 hk hj
  obtain ⟨t0, ht0, hW0, cell, hce, hob, hcl⟩ := hX
  have hout : ∀ y ∈ c.exceptionTable.toList, covers y pc = false := by
    obtain ⟨meth', c', h1, h2, -, -, -, -, h3, -⟩ := Cond.code_spec hnm.2 (hts _ hY.1)
    cases X.method.symm.trans h1
    cases X.code.symm.trans h2
    intro y hy
    rw [Array.isEmpty_iff.mp h3] at hy
    simp at hy
  obtain ⟨hst, hrun, hend, hW, hsame⟩ := X.leaveThrown x (g := F0 m pc lsM (st.map (mm_tr g))) rfl rfl rfl hout hlk
  refine ⟨_, hst, .threw x, hrun, hend, (.inr i, M, n), locs, hQ, ?_, ?_, hS.2.2, hW, hsame, x, rfl, cell, ?_, hob, ?_⟩
  · show mm_H g M n T.heap
    rw [hT]; exact hH
  · intro q hq
    show T.heap[q]? = _
    rw [hT]
    exact mm_low hS hbs q hq
  · show T.heap[x]? = _
    rw [hT, ← ht0]; exact hce
  · show T.vm.findClass _ = _
    rw [X.warmed.alike.findClass, ← hW0.alike.findClass]; exact hcl
end MMCL
end
section
/-! 'throw new E("text")', from the 'new' to the method's end. -/
section MMRS
variable {p : Program} {l : Launch} {e : Env} {R : Room} {s : State} {m : MethodId} {args : Array Value} {below : List Frame} {meth : Method} {c : Code} {T : State} {locs : List Loc} {cells slots : Nat}
/-- the state in which the invocation would have begun with the heap as it is now -/
def mm_now (s T : State) : State := { s with heap := T.heap, slotsUsed := T.slotsUsed }
theorem mm_now_warm {vm : Vm} : (mm_now s T).WarmedH vm ↔ s.WarmedH vm := Iff.rfl
theorem mm_restart (X : Stand p l e R s m args below meth c T locs cells slots) (hc : cells ≤ R.cells) (hs : slots ≤ R.slots) : Stand p l e { frames := R.frames, cells := R.cells - cells, slots := R.slots - slots, locals := R.locals } (mm_now s T) m args below meth c T [] 0 0 := by
  have h1 := X.heapSize
  have h2 := X.used
  have hr := X.room
  have hb := X.book
  simp only [State.hasRoom, Bool.and_eq_true, decide_eq_true_eq] at hr
  refine ⟨X.admits, X.cas, X.clock, X.frames, ?_, X.hears, X.method, X.code, X.here, X.tail, X.warmed, X.limits, X.bytes, ?_⟩
  · simp only [State.hasRoom, Bool.and_eq_true, decide_eq_true_eq]
    refine ⟨⟨⟨⟨hr.1.1.1.1, hr.1.1.1.2⟩, ?_⟩, ?_⟩, hb⟩
    · show T.heap.size + (R.cells - cells) ≤ _
      have := hr.1.1.2
      omega
    · show T.slotsUsed + (R.slots - slots) ≤ _
      have := hr.1.2
      omega
  · refine ⟨X.same.1, Nat.le_refl _, Nat.le_refl _, ?_, ?_, ?_⟩
    · show T.slotsUsed = T.slotsUsed + ((T.heap.toList.drop T.heap.size).map (·.slots.size)).sum
      rw [List.drop_of_length_le (by simp)]; rfl
    · show ((T.heap.toList.drop T.heap.size).map (·.slots.size)).sum ≤ 0
      rw [List.drop_of_length_le (by simp)]; exact Nat.le_refl _
    · intro a cc ha
      exact ⟨cc, ha, rfl, rfl, fun i _ => rfl⟩
end MMRS
/-- the words that a throw may ask for -/
def mm_xs : List Cond := mm_nw ++ [.isRef (.static "java/lang/Throwable" "UNASSIGNED_STACK" "[Ljava/lang/StackTraceElement;"), .isRef (.static "java/lang/Throwable" "SUPPRESSED_SENTINEL" "Ljava/util/List;")]
def mm_Xl (own : String) (ix is ic i : Nat) : Prop := Cond.classLink own ix (mm_xn i) ∈ mm_tb ∧ Cond.instantiable (mm_xn i) 6 ∈ mm_tb ∧ Cond.initialized (mm_xn i) ∈ mm_tb ∧ (∃ t : Nat, (own, is, t) ∈ mm_strs) ∧ (∀ w ∈ Bundle.ownAtoms own ic (mm_xn i) ["java/lang/RuntimeException", "java/lang/Exception"], (goodWord w = true ∧ w ∈ tables_1) ∨ w ∈ mm_xs)
theorem mm_isRef {C n d : String} {A : Nat → Prop} {U : State} {args : Array Value} (h : va_Zq C n d A U U.heap) : (Cond.isRef (.static C n d)).before args U = true := by
  rcases h with ⟨cf, kf, fi, f, a, cell, h1, h2, h3, h4, h5, h6, h7, h8⟩ | ⟨t, cf, kf, fi, f, a, cell, h1, h2, h3, h4, h5, h6, h7, h8⟩
  · simp [Cond.before, Cond.holds, Cond.value, Term.eval, State.fieldNamed?, h1, h2, h4, h5, h6, h7]
  · simp [Cond.before, Cond.holds, Cond.value, Term.eval, State.fieldNamed?, h1, h2, h4, h5, h6, h7]
theorem mm_fit (i : Nat) : Bundle.fit (mm_xn i) = true := by
  unfold mm_xn
  split <;> decide
section MMTH
variable {g : mm_G} {l : Launch} {Y : mm_Y} {rm : Room} {Q : mm_O → Prop} {pc : Nat} {ls : List (Option Value)} {st : List Value} {M : mm_M} {n k j : Nat}
set_option maxHeartbeats 1000000 in
theorem mm_throw {ix is ic i np : Nat} (hfl : l.flags = flags0) (hd0 : decode Y.2.1 pc = .ok (.new ix, 3)) (hd3 : decode Y.2.1 (pc + 3) = .ok (.dup, 1)) (hd4 : decode Y.2.1 (pc + 3 + 1) = .ok (.ldc is, 2)) (hd6 : decode Y.2.1 (pc + 3 + 1 + 2) = .ok (.invokespecial ic, 3)) (hd9 : decode Y.2.1 (pc + 3 + 1 + 2 + 3) = .ok (.athrow, 1))
    (hY : mm_Yw Y np) (hXl : mm_Xl Y.1.cls ix is ic i) (hk : k + 1 ≤ rm.cells) (hj : j + 6 ≤ rm.slots) (hroom : 5 < rm.frames ∧ (st.map fun v => v.category).sum + 82 ≤ rm.locals) (hQ : Q (.inr i, M, n + 1)) : mm_Ev g l Y rm Q pc ls st M n k j := by
  intro p e s m args below meth c H locs lsM hC hH hS hL T hT X0
  obtain ⟨hx, hb, hml, -, hown, hts, hlk, hnm, hI, hbs⟩ := id hC
  obtain ⟨w1, w2, w3, ⟨tx, hstr⟩, hat⟩ := hXl
  have X := mm_restart X0 (by omega) (by omega)
  have htr : e.platform.stackTraces = false := by
    have h9 := X0.admits.platform
    rw [h9]
    simp [Launch.stackTraces, hfl, flags0, noTraceFlag]
  have hW0 : s.WarmedH (mm_now s T).vm := State.WarmedH.refl s
  have htb : ∀ w ∈ mm_tb, w.before args (mm_now s T) = true := mm_tb_good hts hW0 args
  have hI2 : mm_I g (mm_now s T) (mm_now s T).heap := (hI.moved (U := mm_now s T) hW0).kept (fun a h1 h2 => by show T.heap[a]? = _; rw [hT]; exact hS.2.1 a h1 h2)
  have hatoms : ∀ w ∈ Bundle.ownAtoms Y.1.cls ic (mm_xn i) ["java/lang/RuntimeException", "java/lang/Exception"], w.before args (mm_now s T) = true := by
    intro w hw
    rcases hat w hw with ⟨h1, h2⟩ | h1
    · exact htb w (List.mem_filter.mpr ⟨List.mem_append_right _ h2, h1⟩)
    · rcases List.mem_append.mp h1 with h1 | h1
      · have h2 := hI2.2.2.1.1 w h1
        rcases mm_nw_ok w h1 with ⟨C, T, rfl⟩ | ⟨x, rfl⟩
        · exact va_Nw.use rfl h2
        · exact va_Nw.use rfl h2
      · simp only [List.mem_cons, List.not_mem_nil, or_false] at h1
        rcases h1 with rfl | rfl
        · exact mm_isRef hI2.2.2.1.2.1
        · exact mm_isRef hI2.2.2.1.2.2.1
  have hout : ∀ pc' : Nat, ∀ y ∈ c.exceptionTable.toList, covers y pc' = false := by
    obtain ⟨meth', c', h1, h2, -, -, -, -, h3, -⟩ := Cond.code_spec hnm.2 (hts _ hY.1)
    cases X0.method.symm.trans h1
    cases X0.code.symm.trans h2
    intro pc' y hy
    rw [Array.isEmpty_iff.mp h3] at hy
    simp at hy
  have hR := hI2.2.2.2.1 _ hstr
  have hw : W p l e { frames := rm.frames, cells := rm.cells - k, slots := rm.slots - j, locals := rm.locals } (mm_now s T) m args below meth c T.heap [] 0 0 (fun U => U.status = .running ∧ Ended U below (.threw T.heap.size) ∧ (mm_now s T).WarmedH U.vm ∧ (mm_now s T).sameButNew ({ U with vm := (mm_now s T).vm } : State) [] 1 6 ∧ ∃ ce, U.heap[T.heap.size]? = some ce ∧ ∃ msg, Bundle.OwnCell args (mm_now s T) (mm_xn i) T.heap.size msg ce) (F0 m pc lsM (st.map (mm_tr g))) := by
    have hown2 : (mm_now s T).vm.findClass Y.1.cls = some m.cls := hown
    refine W.newc (own := Y.1.cls) (C := mm_xn i) (index := ix) (n := 6) (g := F0 m pc lsM (st.map (mm_tr g))) hx hb hown2 (htb _ w1) (htb _ w2) (htb _ w3) rfl hd0 (by show 0 + 1 ≤ rm.cells - k; omega) (by show 0 + 6 ≤ rm.slots - j; omega) (fun cC kC h1 h2 h3 h4 => ?_)
    refine lv_dup hx hb hd3 rfl ?_
    refine va_ldcS hx hb hown2 hR hd4 ?_
    intro T2 hT2 X2
    obtain ⟨U, u1, u2, u3, u4, u5, ce, u6, u7⟩ := X2.ctorThrowS hx htr (own := Y.1.cls) (cls := mm_xn i) (names := ["java/lang/RuntimeException", "java/lang/Exception"]) (ic := ic) hown2 (mm_fit i) (by decide) hatoms (fun x hx => by cases hx) h1 h2 (a := T.heap.size) (by rw [hT2]; exact Array.getElem?_push_size) (Nat.le_refl _) (msg := .ref _) rfl
      (g := F0 m (pc + 3 + 1 + 2) lsM (.ref _ :: .ref T.heap.size :: .ref T.heap.size :: st.map (mm_tr g))) rfl (by rw [hml]; exact hL.1) rfl rfl (rest := st.map (mm_tr g)) rfl (by rw [hb]; exact hd6) (by rw [hb]; exact hd9) (hout _) hroom.1 (by
        rw [List.map_cons, List.sum_cons, mm_cat_sum]
        show 2 * 0 + (1 + (st.map fun v => v.category).sum) + (13 * (2 + 1) + 42) ≤ rm.locals
        have := hroom.2
        omega) hlk
    exact ⟨U, u1, u2, u3, u4, u5, ce, u6, _, u7⟩
  obtain ⟨U, u1, u2, u3, u4, u5, ce, u6, msg, u7⟩ := hw T rfl X
  obtain ⟨v1, v2, v3, v4, v5, v6⟩ := u5
  have hlt : T.heap.size < U.heap.size := (Array.getElem?_eq_some_iff.mp u6).1
  have hz : U.heap.size = H.size + 1 := by
    have : U.heap.size ≤ T.heap.size + 1 := v3
    rw [← hT]
    omega
  have ho : ∀ q : Nat, q < H.size → U.heap[q]? = H[q]? := by
    intro q hq
    obtain ⟨cq, h9⟩ : ∃ cq, T.heap[q]? = some cq := ⟨_, Array.getElem?_eq_getElem (by rw [hT]; exact hq)⟩
    obtain ⟨c', e1, e2, e3, e4⟩ := v6 q _ h9
    have e1 : U.heap[q]? = some c' := e1
    have e5 : c'.slots = cq.slots := Array.ext_getElem? (fun i => e4 i (by simp))
    rw [e1, ← hT, h9, e2, e5]
  have hB : (T.setVm s.vm).sameButNew ({ U with vm := s.vm } : State) [] 1 6 := by
    refine ⟨?_, v2, v3, v4, v5, v6⟩
    have h8 := X0.same.1
    rw [h8]
    have h7 : ∀ (F0 F : List Frame) (h1 h2 : Heap) (a1 a2 : Nat), ({ ({ s.setFrames F0 with heap := h1, slotsUsed := a1 } : State).setFrames F with heap := h2, slotsUsed := a2 } : State) = { s.setFrames F with heap := h2, slotsUsed := a2 } := by
      intro F0 F h1 h2 a1 a2
      show ({ (s.setFrames F0).setFrames F with heap := h2, slotsUsed := a2 } : State) = _
      rw [State.setFrames_setFrames]
    exact v1.trans (h7 _ _ _ _ _ _).symm
  have hsame := (X0.same.trans hB).mono (show k + 1 ≤ rm.cells from hk) (show j + 6 ≤ rm.slots from hj)
  rw [List.append_nil] at hsame
  refine ⟨U, u1, .threw T.heap.size, u2, u3, (.inr i, M, n + 1), locs, hQ, hH.more hz ho, fun q hq => ?_, hS.2.2, u4, hsame, T.heap.size, rfl, ce, u6, ?_, ?_⟩
  · have hlow := mm_low hS hbs q hq
    have hb2 := hH.base
    rw [ho q (by omega), hlow]
  · rw [u7.vm]; rfl
  · have hal : s.vm.Alike U.vm := State.WarmedH.alike (s := s) u4
    rw [hal.findClass]
    exact u7.cls
end MMTH
end
section
/-! An exception that a handler of the calling method takes; its catch type may still be unresolved. -/
section MMCO
variable {E : CtlPost} {e : Env} {d : Bool} {acts : List Action} {s : State} {f : JFrame} {a : Addr} {Q : Handler → Pre}
theorem mm_go_cold {x : ExceptionTableEntry} {t : List ExceptionTableEntry} {c : ClassId} {vm₁ : Vm} {cell : Cell} (hx : covers x f.pc = true) (h0 : x.catchType ≠ 0) (hg : (Jvm.resolveClass f.method.cls x.catchType).Gives e.toSetting s.vm (.ok c) vm₁) (hsz : vm₁.classes.size ≤ s.vm.classes.size)
    (hcell : s.heap[a]? = some cell) (hobj : ∀ k, cell.vm ≠ .statics k) (hk : ∃ k, vm₁.classes[cell.cls]? = some k) (hc : ∃ k, vm₁.classes[c]? = some k) :
    wp (findHandler.go f a (x :: t)) Q E e d acts s ↔ if vm₁.assignable cell.cls c = true then Q (.found x.handlerPc) d acts (s.setVm vm₁) else wp (findHandler.go f a t) Q E e d acts (s.setVm vm₁) := by
  simp only [covers] at hx
  obtain ⟨ha, ht⟩ := hg.op (op := VmOp.resolveClass f.method.cls x.catchType) rfl
  cases hfit : vm₁.assignable cell.cls c <;>
    simp [findHandler.go, hx, h0, ha, ht, hsz, hcell, hobj, hk, hc, hfit, VmOp.dirties, VmOp.acts]
end MMCO
def mm_pick : List ((Nat × Nat × Nat × Nat) × Nat) → Nat → Nat → Option Nat
  | [], _, _ => none
  | z :: L, pc, i => if (decide (z.1.1 ≤ pc) && decide (pc < z.1.2.1) && (z.2 == i)) = true then some z.1.2.2.1 else mm_pick L pc i
theorem mm_find {e : Env} {s : State} {args : Array Value} {f : JFrame} {x : Addr} {cell : Cell} {own : String} {i : Nat} (hpl : e.platform.magicAccessors = ({} : Platform).magicAccessors) (hown : s.vm.findClass own = some f.method.cls) (hcls : s.vm.findClass (mm_xn i) = some cell.cls) (hobj : cell.vm.isStatics = false)
    (hi : i < 4) (hnc : ∀ a b : Nat, a < 4 → b < 4 → a ≠ b → va_Nc (mm_xn a) (mm_xn b) s) (hts : ∀ w ∈ mm_tb, w.before args s = true) :
    ∀ (L : List ((Nat × Nat × Nat × Nat) × Nat)) (tbl : List ExceptionTableEntry) (hp : Nat), tbl.map (fun h => (h.startPc, h.endPc, h.handlerPc, h.catchType)) = L.map Prod.fst → (∀ z ∈ L, Cond.classLink own z.1.2.2.2 (mm_xn z.2) ∈ mm_tb ∧ z.1.2.2.2 ≠ 0 ∧ z.2 < 4) → mm_pick L f.pc i = some hp →
      ∀ U : State, s.WarmedH U.vm → U.heap[x]? = some cell → ∃ vm1 : Vm, s.WarmedH vm1 ∧ ∀ (Q : Handler → Pre) (E : CtlPost) (d : Bool) (acts : List Action), wp (findHandler.go f x tbl) Q E e d acts U ↔ Q (.found hp) d acts (U.setVm vm1) := by
  intro L
  induction L with
  | nil => intro tbl hp _ _ h; cases h
  | cons z L ih =>
    intro tbl hp hmap hok hpick U hW hx
    cases tbl with
    | nil => simp at hmap
    | cons h t =>
      simp only [List.map_cons, List.cons.injEq] at hmap
      obtain ⟨hz, hmap⟩ := hmap
      have z1 : z.1.1 = h.startPc := by rw [← hz]
      have z2 : z.1.2.1 = h.endPc := by rw [← hz]
      have z3 : z.1.2.2.1 = h.handlerPc := by rw [← hz]
      have z4 : z.1.2.2.2 = h.catchType := by rw [← hz]
      obtain ⟨o1, o2, o3⟩ := hok z List.mem_cons_self
      have hok' : ∀ y ∈ L, Cond.classLink own y.1.2.2.2 (mm_xn y.2) ∈ mm_tb ∧ y.1.2.2.2 ≠ 0 ∧ y.2 < 4 := fun y hy => hok y (List.mem_cons_of_mem _ hy)
      by_cases hcov : covers h f.pc = true
      · have hcov' : (decide (z.1.1 ≤ f.pc) && decide (f.pc < z.1.2.1)) = true := by rw [z1, z2]; exact hcov
        rw [z4] at o1 o2
        obtain ⟨cc, hfcc, hcl⟩ := Cond.classLink_spec hown (hts _ o1) e.platform hpl
        obtain ⟨hg₁, hwarm₁, -⟩ := State.classEntry (e := e) hW hcl
        generalize U.vm.noted f.method.cls h.catchType (.cls cc) = vm₁ at hg₁ hwarm₁
        have hsz : vm₁.classes.size ≤ U.vm.classes.size := by rw [hwarm₁.2.1, hW.2.1]; exact Nat.le_refl _
        have hk1 : ∃ k, vm₁.classes[cell.cls]? = some k := Vm.classAt_of_findClass (by rw [hwarm₁.alike.findClass]; exact hcls)
        have hc1 : ∃ k, vm₁.classes[cc]? = some k := Vm.classAt_of_findClass (by rw [hwarm₁.alike.findClass]; exact hfcc)
        by_cases hzi : z.2 = i
        · have hcc : cc = cell.cls := by rw [hzi] at hfcc; exact Option.some.inj (hfcc.symm.trans hcls)
          subst hcc
          simp only [mm_pick, hcov', hzi, Bool.true_and, beq_self_eq_true, if_true] at hpick
          refine ⟨vm₁, hwarm₁, fun Q E d acts => ?_⟩
          rw [mm_go_cold hcov o2 hg₁ hsz hx (VmData.ne_statics_of hobj) hk1 hc1, if_pos (va_asg _ _), ← z3, Option.some.inj hpick]
        · have hzi' : (z.2 == i) = false := by simpa using hzi
          simp only [mm_pick, hzi', Bool.and_false, Bool.false_eq_true, if_false] at hpick
          have hno : vm₁.assignable cell.cls cc = false := by
            obtain ⟨c1, t1, g1, g2, g3⟩ := hnc i z.2 hi o3 (fun q => hzi q.symm)
            cases hcls.symm.trans g1
            cases hfcc.symm.trans g2
            rw [hwarm₁.alike.assignable]
            exact g3
          obtain ⟨vm2, hw2, hf2⟩ := ih t hp hmap hok' hpick (U.setVm vm₁) hwarm₁ hx
          refine ⟨vm2, hw2, fun Q E d acts => ?_⟩
          rw [mm_go_cold hcov o2 hg₁ hsz hx (VmData.ne_statics_of hobj) hk1 hc1, if_neg (by rw [hno]; decide)]
          exact hf2 Q E d acts
      · have hcov : covers h f.pc = false := by simpa using hcov
        have hcov' : (decide (z.1.1 ≤ f.pc) && decide (f.pc < z.1.2.1)) = false := by rw [z1, z2]; exact hcov
        simp only [mm_pick, hcov', Bool.false_and, Bool.false_eq_true, if_false] at hpick
        obtain ⟨vm2, hw2, hf2⟩ := ih t hp hmap hok' hpick U hW hx
        refine ⟨vm2, hw2, fun Q E d acts => ?_⟩
        rw [W.findHandler_go_skip hcov]
        exact hf2 Q E d acts
theorem mm_catchStep {e : Env} {s s' : State} {a : Addr} {f : JFrame} {r : List Frame} {pc : Nat} (hfind : ∀ (Q : Handler → Pre) (E : CtlPost) (d : Bool) (acts : List Action), wp (findHandler f a) Q E e d acts s ↔ Q (.found pc) d acts s') :
    (stepThrowing e s a (.java f :: r)).Is (s'.setFrames (.java { f with pc := pc, stack := [.ref a] } :: r)) [] := by
  simp only [stepThrowing, searchFrame, vmDo]
  generalize hr : Sem.go _ e false [] s = res
  obtain ⟨as, rfl, ha⟩ := Sem.eq_ok_of hr (a := Handler.found pc) (s' := s') (acts' := []) (by simp [hfind _ _ _ _])
  exact ⟨rfl, ha⟩
theorem mm_caughtSteps {tb : Tables} {e : Env} {s target : State} {fr : JFrame} {c : Code} {below : List Frame} {a : Addr} {pc : Nat} {vm1 : Vm} (h : At s fr.method c below) (hfind : ∀ (Q : Handler → Pre) (E : CtlPost) (d : Bool) (acts : List Action), wp (findHandler fr a) Q E e d acts ((s.setTop fr).pushFrame (.throwing a)) ↔ Q (.found pc) d acts (((s.setTop fr).pushFrame (.throwing a)).setVm vm1))
    (hrest : Steps tb e below ((s.setVm vm1).setTop { fr with pc := pc, stack := [.ref a] }) target) : Steps tb e below ((s.setTop fr).pushFrame (.throwing a)) target := by
  obtain ⟨hgo, hw⟩ := h.throwing a
  refine Steps.head hgo hw ?_
  rw [stepThread_throwing (frames_entered h.top _), (mm_catchStep (s := (s.setTop fr).pushFrame (.throwing a)) hfind).1]
  obtain ⟨g₀, hg⟩ := Option.isSome_iff_exists.mp h.top
  obtain ⟨r, hr⟩ := State.topJava?_eq_some.mp hg
  have hr1 : (s.setVm vm1).frames = .java g₀ :: r := hr
  rw [State.setTop_of_frames _ hr1] at hrest
  have e1 : (((s.setTop fr).pushFrame (.throwing a)).setVm vm1) = ((s.setVm vm1).setFrames (.throwing a :: .java fr :: r)) := by
    rw [State.pushFrame, State.setTop_of_frames _ hr, State.setFrames_setFrames]
    have e2 : (s.setFrames (.java fr :: r)).frames = .java fr :: r := State.frames_setFrames _ (State.cur_lt_of_frames hr)
    rw [e2]
    rfl
  rw [e1, State.setFrames_setFrames]
  have e3 : s.frames.tail = r := by rw [hr]; rfl
  rw [e3]
  exact hrest
section MMCT
variable {g : mm_G} {l : Launch} {Y : mm_Y} {rm : Room} {Q : mm_O → Prop} {pc : Nat} {ls : List (Option Value)} {st : List Value} {M : mm_M} {n k j : Nat}
/-- caught: the handler's first instruction stores the exception, of which nobody asks more; nothing is asked of the locals behind it -/
theorem mm_catch {i hp : Nat} {q : Fin 4} (L : List ((Nat × Nat × Nat × Nat) × Nat)) (hY : Cond.codeWith Y.1 Y.2.1 Y.2.2.1 Y.2.2.2 (L.map Prod.fst) ∈ mm_tb) (hL : ∀ z ∈ L, Cond.classLink Y.1.cls z.1.2.2.2 (mm_xn z.2) ∈ mm_tb ∧ z.1.2.2.2 ≠ 0 ∧ z.2 < 4) (hi : i < 4) (hpk : mm_pick L pc i = some hp) (hd : decode Y.2.1 hp = .ok (.astore_n q, 1)) (hq : (q : Nat) < Y.2.2.1)
    (kk : mm_Ev g l Y rm Q (hp + 1) [] [] M n k j) : mm_Tv g l Y rm Q pc ls st M n k j i := by
  intro p e s m args below meth c H locs lsM x hC hH hS hLs hX T hT X
  obtain ⟨hx, hb, hml, -, hown, hts, hlk, hnm, hI, hbs⟩ := id hC
  obtain ⟨t0, ht0, hW0, cell, hce, hob, hcl⟩ := hX
  have hcell : T.heap[x]? = some cell := by rw [hT, ← ht0]; exact hce
  have hcl0 : s.vm.findClass (mm_xn i) = some cell.cls := by rw [← hW0.alike.findClass]; exact hcl
  obtain ⟨m9, meth9, c9, hn9, h1, h2, -, -, h5, -, -, -⟩ := Cond.codeWith_spec (hts _ hY)
  cases hnm.2.symm.trans hn9
  cases X.method.symm.trans h1
  cases X.code.symm.trans h2
  have hpl : e.platform.magicAccessors = ({} : Platform).magicAccessors := by rw [X.admits.platform]
  have hAt : At T (F0 m pc lsM (st.map (mm_tr g))).method c below := X.here
  obtain ⟨vm1, hw1, hf1⟩ := mm_find (e := e) (f := F0 m pc lsM (st.map (mm_tr g))) (x := x) hpl hown hcl0 hob hi hI.2.2.1.2.2.2 hts L c.exceptionTable.toList hp h5 hL hpk ((T.setTop (F0 m pc lsM (st.map (mm_tr g)))).pushFrame (.throwing x)) X.warmed hcell
  have X1 := X.noted hw1
  have hw : W p l e rm s m args below meth c H locs k j (mm_Fin g rm.cells rm.slots below s Q) (F0 m hp lsM [.ref x]) := by
    refine lv_astore_n hx hb hd rfl hLs.has hq rfl (fun ls2 h9 => ?_)
    exact kk p e s m args below meth c H locs ls2 hC hH hS ⟨h9.1, h9.2.1, fun i v hv => by cases hv⟩
  obtain ⟨t, a1, b1⟩ := hw (T.setVm vm1) hT X1
  refine ⟨t, mm_caughtSteps hAt (fun Q E d acts => ?_) a1, b1⟩
  rw [W.findHandler_eq (meth := meth) (code := c) X.method' X.code]
  exact hf1 Q E d acts
end MMCT
/-- a method with handlers -/
def mm_MetH (g : mm_G) (l : Launch) (Y : mm_Y) (hh : List (Nat × Nat × Nat × Nat)) (rm : Room) (as : List Value) (M : mm_M) (n : Nat) (Q : mm_O → Prop) : Prop :=
  MetFree l Y.1 (headSpec (Cond.codeWith Y.1 Y.2.1 Y.2.2.1 Y.2.2.2 hh :: mm_tb) rm) (fun a U => a = (as.map (mm_tr g)).toArray ∧ mm_I g U U.heap ∧ mm_H g M n U.heap) (fun _ _ _ _ _ => True) (fun _ st o t => mm_Po g rm.cells rm.slots st Q o t)
theorem mm_enterH {g : mm_G} {l : Launch} {Y : mm_Y} {hh : List (Nat × Nat × Nat × Nat)} {rm : Room} {as : List Value} {M : mm_M} {n : Nat} {Q : mm_O → Prop} (hy : plainName Y.1.cls = true) (hfit : (lg_sl (as.map (mm_tr g))).length ≤ Y.2.2.1) (h : mm_Ev g l Y rm Q 0 (mm_ent as) [] M n 0 0) : mm_MetH g l Y hh rm as M n Q := by
  refine MetFree.of_bodyS (code := Y.2.1) (maxLocals := Y.2.2.1) (ret := Y.2.2.2) hy ?_ ?_
  · intro args s m h hn
    obtain ⟨m9, meth, c, hn9, h1, h2, h3, h4, -, h5, h6, -⟩ := Cond.codeWith_spec (atoms_spec (ws := Cond.codeWith Y.1 Y.2.1 Y.2.2.1 Y.2.2.2 hh :: mm_tb) h _ List.mem_cons_self)
    cases hn.symm.trans hn9
    exact ⟨meth, c, h1, h2, h3, h4, h5, h6⟩
  · intro p e s m args below meth c s₁ B hml hP _
    obtain ⟨rfl, hI, hH⟩ := hP
    have hh0 : s₁.heap = s.heap := by rw [B.state]; rfl
    have hts0 := atoms_spec (ws := Cond.codeWith Y.1 Y.2.1 Y.2.2.1 Y.2.2.2 hh :: mm_tb) B.pre
    have hC : mm_Cx g Y p s m (as.map (mm_tr g)).toArray meth c := ⟨B.exec, B.bytes, hml, B.returns, findClass_of_methodNamed B.named, fun w hw => hts0 w (List.mem_cons_of_mem _ hw), B.notSynchronized, ⟨(name_of_methodNamed B.named B.method).1, B.named⟩, hI, hH.base⟩
    have hl := lv_entry (as.map (mm_tr g)) (n := Y.2.2.1) hfit
    have hL : mm_L g Y.2.2.1 (mm_ent as) ((lg_sl (as.map (mm_tr g)) ++ List.replicate (Y.2.2.1 - (lg_sl (as.map (mm_tr g))).length) Slot.unset).toArray) := by
      refine ⟨hl.1, hl.2.1, fun i v hv => ?_⟩
      have h9 := mm_ent_in (g := g) as 0 i v hv
      rw [Nat.zero_add] at h9
      exact hl.2.2 _ h9
    obtain ⟨t, a1, o, b1, b2, b3⟩ := h p e s m _ below meth c s.heap [] _ hC hH va_S.rf hL s₁ hh0 (Stand.of_body B)
    refine ⟨t, o, ?_, b1, b2, b3⟩
    rw [lg_entry_eq]
    exact a1
section MMCH
variable {g : mm_G} {l : Launch} {Y : mm_Y} {rm : Room} {Q : mm_O → Prop} {pc : Nat} {ls : List (Option Value)} {st : List Value} {M : mm_M} {n k j : Nat}
def mm_Hl (own : String) (index np : Nat) (hh : List (Nat × Nat × Nat × Nat)) (Z : mm_Y) : Prop := Cond.codeWith Z.1 Z.2.1 Z.2.2.1 Z.2.2.2 hh ∈ mm_tb ∧ Cond.initialized Z.1.cls ∈ mm_tb ∧ (Z.1.cls ≠ "java/lang/invoke/MethodHandle" ∧ Z.1.cls ≠ "java/lang/invoke/VarHandle") ∧ (parseMethodDescriptor Z.1.desc).map (fun d => d.parameters.length) = some np ∧ Cond.methodLink own index Z.1 ∈ mm_tb ∧ Cond.static Z.1 ∈ mm_tb
theorem mm_callH {Z : mm_Y} {hh : List (Nat × Nat × Nat × Nat)} {rz : Room} {Qz : mm_O → Prop} {index np : Nat} {as : List Value} (hd : decode Y.2.1 pc = .ok (.invokestatic index, 3)) (hZ : mm_Hl Y.1.cls index np hh Z) (hM : mm_MetH g l Z hh rz as M n Qz) (hlen : as.length = np)
    (hroom : rz.frames + 1 ≤ rm.frames ∧ (st.map fun v => v.category).sum + (Z.2.2.1 + 11) + rz.locals ≤ rm.locals) (hk : k + rz.cells ≤ rm.cells) (hj : j + rz.slots ≤ rm.slots)
    (kr : ∀ (v : Option Value) (M1 : mm_M) (n1 : Nat), Qz (.inl v, M1, n1) → mm_Ev g l Y rm Q (pc + 3) ls (v.toList ++ st) M1 n1 (k + rz.cells) (j + rz.slots))
    (kt : ∀ (i : Nat) (M1 : mm_M) (n1 : Nat), Qz (.inr i, M1, n1) → mm_Tv g l Y rm Q pc ls st M1 n1 (k + rz.cells) (j + rz.slots) i) : mm_Ev g l Y rm Q pc ls (as.reverse ++ st) M n k j := by
  intro p e s m args below meth c H locs lsM hC hH hS hL
  obtain ⟨hx, hb, hml, -, hown, hts, -, -, hI, hbs⟩ := id hC
  obtain ⟨w0, wi, hy, hpar, w1, w2⟩ := hZ
  have hst : (as.reverse ++ st).map (mm_tr g) = (as.map (mm_tr g)).reverse ++ st.map (mm_tr g) := by
    rw [List.map_append, List.map_reverse]
  rw [hst]
  obtain ⟨mk0, methM', cM, hnamed0, hmethM', -, -, -, -, -, -, hsigM⟩ := Cond.codeWith_spec (hts _ w0)
  have hlen2 : np = methM'.sig.parameters.length := by
    rw [hsigM] at hpar
    exact (Option.some.inj hpar).symm
  have hLk := mm_lkS (l := l) (e := e) (R := rm) (below := below) (meth := meth) (H := H) (locs := locs) (cells := k) (slots := j) hx hown (hts _ w1) (hts _ w2) (hts _ wi) hnamed0 hmethM' (sig0 := methM'.sig) rfl hy (fr := F0 m pc lsM ((as.map (mm_tr g)).reverse ++ st.map (mm_tr g))) rfl (argsL := as.map (mm_tr g)) (rest := st.map (mm_tr g)) (by rw [List.length_map, hlen]; exact hlen2) rfl (by rw [hb]; exact hd)
  refine mm_callAny (S := headSpec (Cond.codeWith Z.1 Z.2.1 Z.2.2.1 Z.2.2.2 hh :: mm_tb) rz) (maxL := Z.2.2.1) (Wd := (st.map fun v => v.category).sum) hLk hM rfl (by rw [hml]; exact hL.1) hroom.1 hroom.2 (by rw [mm_cat_sum]; show 2 * 0 + _ ≤ _; omega) (by rw [hb]; exact hd)
    (fun U mk hW hn => ?_) hk hj (fun U hW hU => ⟨rfl, (hI.moved hW).kept (by rw [hU]; exact hS.2.1), by rw [hU]; exact hH⟩) hS hbs
    (fun v M1 n1 H1 locs1 hQz hH1 hS1 => ?_) (fun i x M1 n1 H1 locs1 hQz hH1 hS1 hX => ?_)
  · have h := mm_tb_good hts hW (as.map (mm_tr g)).toArray
    obtain ⟨m9, methY, cY, hn9, h1, h2, -, h4, -⟩ := Cond.codeWith_spec (h _ w0)
    cases hn.symm.trans hn9
    refine ⟨atoms_intro (ws := Cond.codeWith Z.1 Z.2.1 Z.2.2.1 Z.2.2.2 hh :: mm_tb) (fun w hw => ?_), h _ wi, methY, cY, h1, h2, h4⟩
    rcases List.mem_cons.mp hw with rfl | hw
    · exact h _ w0
    · exact h _ hw
  · have h9 := kr v M1 n1 hQz p e s m args below meth c H1 locs1 lsM hC hH1 hS1 hL
    rw [List.map_append] at h9
    cases v <;> exact h9
  · exact kt i M1 n1 hQz p e s m args below meth c H1 locs1 lsM x hC hH1 hS1 hL hX
end MMCH
end
section
/-! The other rows: constants, switches, new arrays, the library's members. -/
theorem mm_ldcwS {p : Program} {l : Launch} {e : Env} {R : Room} {s : State} {m : MethodId} {args : Array Value} {below : List Frame} {meth : Method} {c : Code} {H : Heap} {locs : List Loc} {cells slots : Nat} {Q : State → Prop} {cc : ByteArray} {pc : Nat} {ls : Array Slot} {rest : List Value} (hexec : p.tables.exec = Jvm.exec) (hb : c.code = cc) {own tx : String} {index q : Nat} (hown : s.vm.findClass own = some m.cls) (hZ : vk_R own index tx q s) (hdg : decode cc pc = .ok (.ldc_w index, 3))
    (k : W p l e R s m args below meth c H locs cells slots Q (F0 m (pc + 3) ls (.ref q :: rest))) : W p l e R s m args below meth c H locs cells slots Q (F0 m pc ls rest) := by
  intro T hT X
  obtain ⟨t, a1, b1⟩ := k T hT X
  refine ⟨t, ?_, b1⟩
  obtain ⟨kk, cf, i, a', hk, hcf, hcp, -, hr, hev'⟩ := Cond.stringRef_spec hown hZ.1
  cases hZ.2.symm.trans hev'
  obtain ⟨k', hk', he⟩ := X.warmed.alike.2.2 _ _ hk
  have hr' : k'.resolved[index]? = some (some (.string q)) := by
    rcases X.warmed.entry hk hk' index with h | ⟨h, -⟩
    · rw [h]; exact hr
    · rw [hr] at h; cases h
  subst hb
  jvm_step X.here [hexec, hdg, ldc_w.wp_string (e := e) (s := T) (f := F0 m pc ls rest) X.here.top hk' (by rw [he]; exact hcf) hcp hr']
  exact a1
section MMOT
variable {g : mm_G} {l : Launch} {Y : mm_Y} {rm : Room} {Q : mm_O → Prop} {pc : Nat} {ls : List (Option Value)} {st : List Value} {M : mm_M} {n k j : Nat}
theorem mm_ldc {index : Nat} {v : Int32} (hd : decode Y.2.1 pc = .ok (.ldc index, 2)) (hw : Cond.constant Y.1.cls index v ∈ mm_tb) (kk : mm_Ev g l Y rm Q (pc + 2) ls (.int v :: st) M n k j) : mm_Ev g l Y rm Q pc ls st M n k j := by
  intro p e s m args below meth c H locs lsM hC hH hS hL
  exact lv_ldc hC.1 hC.2.1 hC.2.2.2.2.1 (hC.2.2.2.2.2.1 _ hw) hd (kk p e s m args below meth c H locs lsM hC hH hS hL)
theorem mm_ldc2 {index : Nat} {v : Int64} (hd : decode Y.2.1 pc = .ok (.ldc2_w index, 3)) (hw : Cond.constantLong Y.1.cls index v ∈ mm_tb) (kk : mm_Ev g l Y rm Q (pc + 3) ls (.long v :: st) M n k j) : mm_Ev g l Y rm Q pc ls st M n k j := by
  intro p e s m args below meth c H locs lsM hC hH hS hL
  exact lv_ldc2 hC.1 hC.2.1 hC.2.2.2.2.1 (hC.2.2.2.2.2.1 _ hw) hd (kk p e s m args below meth c H locs lsM hC hH hS hL)
theorem mm_ldcs {index t : Nat} (hd : decode Y.2.1 pc = .ok (.ldc index, 2)) (hw : (Y.1.cls, index, t) ∈ mm_strs) (ht : t < 900) (kk : mm_Ev g l Y rm Q (pc + 2) ls (.ref (100 + t) :: st) M n k j) : mm_Ev g l Y rm Q pc ls st M n k j := by
  intro p e s m args below meth c H locs lsM hC hH hS hL
  have h9 := kk p e s m args below meth c H locs lsM hC hH hS hL
  have e9 : mm_tr g (.ref (100 + t)) = .ref (g.2.2.2 (100 + t)) := by show Value.ref (mm_ad g _) = _; unfold mm_ad; rw [if_pos (by omega)]
  rw [List.map_cons, e9] at h9
  exact va_ldcS hC.1 hC.2.1 hC.2.2.2.2.1 (hC.2.2.2.2.2.2.2.2.1.2.2.2.1 _ hw) hd h9
theorem mm_objInit {a index : Nat} (hd : decode Y.2.1 pc = .ok (.invokespecial index, 3)) (hw : Cond.methodLink Y.1.cls index Lib.objectInit ∈ mm_tb ∧ Cond.instanceMethod Lib.objectInit ∈ mm_tb ∧ Cond.code Lib.objectInit ⟨#[0xb1]⟩ 1 none ∈ mm_tb) (hroom : 1 ≤ rm.frames ∧ (st.map fun v => v.category).sum + 12 ≤ rm.locals) (kk : mm_Ev g l Y rm Q (pc + 3) ls st M n k j) : mm_Ev g l Y rm Q pc ls (.ref a :: st) M n k j := by
  intro p e s m args below meth c H locs lsM hC hH hS hL
  exact W.objInit hC.1 hC.2.1 hC.2.2.2.2.1 (hC.2.2.2.2.2.1 _ hw.1) (hC.2.2.2.2.2.1 _ hw.2.1) (hC.2.2.2.2.2.1 _ hw.2.2) (g := F0 m pc lsM (.ref (mm_ad g a) :: st.map (mm_tr g))) rfl (by rw [hC.2.2.1]; exact hL.1) rfl hd hroom.1 (by rw [mm_cat_sum]; show 2 * 0 + _ + 12 ≤ _; have := hroom.2; omega) (kk p e s m args below meth c H locs lsM hC hH hS hL)
theorem mm_tableIn {dflt lo hi off : Int} {offs : Array Int} {len tgt : Nat} {x : Int32} (hd : decode Y.2.1 pc = .ok (.tableswitch dflt lo hi offs, len)) (h1 : ¬ x.toInt < lo) (h2 : ¬ hi < x.toInt) (ho : offs[(x.toInt - lo).toNat]? = some off) (ht : (pc : Int) + off = (tgt : Int)) (kk : mm_Ev g l Y rm Q tgt ls st M n k j) : mm_Ev g l Y rm Q pc ls (.int x :: st) M n k j := by
  intro p e s m args below meth c H locs lsM hC hH hS hL
  exact lv_tableIn hC.1 hC.2.1 hd h1 h2 ho ht (kk p e s m args below meth c H locs lsM hC hH hS hL)
theorem mm_tableOut {dflt lo hi : Int} {offs : Array Int} {len tgt : Nat} {x : Int32} (hd : decode Y.2.1 pc = .ok (.tableswitch dflt lo hi offs, len)) (h : x.toInt < lo ∨ hi < x.toInt) (ht : (pc : Int) + dflt = (tgt : Int)) (kk : mm_Ev g l Y rm Q tgt ls st M n k j) : mm_Ev g l Y rm Q pc ls (.int x :: st) M n k j := by
  intro p e s m args below meth c H locs lsM hC hH hS hL
  exact lv_tableOut hC.1 hC.2.1 hd h ht (kk p e s m args below meth c H locs lsM hC hH hS hL)
theorem mm_lookup {dflt off : Int} {ps : Array (Int × Int)} {len tgt : Nat} {x : Int32} (hd : decode Y.2.1 pc = .ok (.lookupswitch dflt ps, len)) (hp : (ps.toList.zip (ps.toList.drop 1)).all (fun (a, next) => a.1 < next.1) = true) (ho : Op.lookupswitch.offset ps.toList dflt x.toInt = off) (ht : (pc : Int) + off = (tgt : Int)) (kk : mm_Ev g l Y rm Q tgt ls st M n k j) : mm_Ev g l Y rm Q pc ls (.int x :: st) M n k j := by
  intro p e s m args below meth c H locs lsM hC hH hS hL
  exact lv_lookup hC.1 hC.2.1 hd hp ho ht (kk p e s m args below meth c H locs lsM hC hH hS hL)
theorem mm_newa {atype : ArrayType} {t N : Nat} {z : Int32} {a0 : vp_A} (hd : decode Y.2.1 pc = .ok (.newarray atype, 2)) (ht : mm_ty[t]? = some (newarray.typeOf atype)) (hw : Cond.arrayClass (newarray.typeOf atype) ∈ mm_tb) (hn : ¬ z < 0) (hN : z.toNatClampNeg = N) (hbytes : N * componentBytes (newarray.typeOf atype) ≤ 536870912) (ha : ∀ cA : ClassId, vp_cell cA a0 = arrV cA N (fun _ => defaultValue (newarray.typeOf atype))) (htr : ∀ g : mm_G, mm_trA g a0 = a0) (hnq : ∀ C : String, newarray.typeOf atype ≠ .object C) (hcells : k + 1 ≤ rm.cells) (hslots : j + N ≤ rm.slots)
    (kk : ∀ M1 : mm_M, M1 = mm_up M n (.inl (t, a0)) → mm_Ev g l Y rm Q (pc + 2) ls (.ref n :: st) M1 (n + 1) (k + 1) (j + N)) : mm_Ev g l Y rm Q pc ls (.int z :: st) M n k j := by
  intro p e s m args below meth c H locs lsM hC hH hS hL
  obtain ⟨hx, hb, -, -, hown, hts, -, -, hI, hbs⟩ := id hC
  refine va_newaK hx hb (hts _ hw) (g := F0 m pc lsM (.int z :: st.map (mm_tr g))) rfl hd rfl hn hN hbytes hcells hslots rfl fun H1 cA e1 z1 o1 hAr hNm => ?_
  have hend := hH.end
  have hcA : g.2.1 t = cA := by
    have h9 := (hI.1.2 t _ (mm_tys_at ht)).2
    have h8 : s.vm.findClass ("[" ++ (newarray.typeOf atype).toString) = some (g.2.1 t) := by
      cases atype <;> exact h9
    exact Option.some.inj (h8.symm.trans hNm)
  have h9 := kk _ rfl p e s m args below meth c H1 locs lsM hC (hH.push z1 o1 (by
    rw [hend]
    show H1[H.size]? = some (vp_cell (g.2.1 t) (mm_trA g a0))
    rw [htr g, hcA, ha]
    exact e1)) ⟨Nat.le_trans hS.1 (by omega), fun q h1 h2 => (o1 q (Nat.lt_of_lt_of_le h1 hS.1)).trans (hS.2.1 q h1 h2), hS.2.2⟩ hL
  have e9 : mm_tr g (.ref n) = .ref H.size := by show Value.ref (mm_ad g n) = _; rw [hend]
  rw [List.map_cons, e9] at h9
  exact h9
theorem mm_mmax {index : Nat} {x y : Int32} (hd : decode Y.2.1 pc = .ok (.invokestatic index, 3)) (hw : Cond.methodLink Y.1.cls index Lib.Math.max.name ∈ mm_tb ∧ Cond.static Lib.Math.max.name ∈ mm_tb ∧ Cond.initialized "java/lang/Math" ∈ mm_tb ∧ Cond.code Lib.Math.max.name Lib.Math.max.code 2 (some .int) ∈ mm_tb) (hroom : 1 ≤ rm.frames ∧ (st.map fun v => v.category).sum + 13 ≤ rm.locals) (hk : k ≤ rm.cells) (hj : j ≤ rm.slots) (kk : mm_Ev g l Y rm Q (pc + 3) ls (.int (if x < y then y else x) :: st) M n k j) : mm_Ev g l Y rm Q pc ls (.int y :: .int x :: st) M n k j := by
  intro p e s m args below meth c H locs lsM hC hH hS hL
  exact va_mmax hC.1 hC.2.1 (hC.2.2.1.trans hL.1.symm) hC.2.2.2.2.1 (hC.2.2.2.2.2.1 _ hw.1) (hC.2.2.2.2.2.1 _ hw.2.1) (hC.2.2.2.2.2.1 _ hw.2.2.1) (hC.2.2.2.2.2.1 _ hw.2.2.2) hroom.1 (by rw [mm_cat_sum]; exact hroom.2) hk hj hd (kk p e s m args below meth c H locs lsM hC hH hS hL)
theorem mm_mmin {index : Nat} {x y : Int32} (hd : decode Y.2.1 pc = .ok (.invokestatic index, 3)) (hw : Cond.methodLink Y.1.cls index Lib.Math.min.name ∈ mm_tb ∧ Cond.static Lib.Math.min.name ∈ mm_tb ∧ Cond.initialized "java/lang/Math" ∈ mm_tb ∧ Cond.code Lib.Math.min.name Lib.Math.min.code 2 (some .int) ∈ mm_tb) (hroom : 1 ≤ rm.frames ∧ (st.map fun v => v.category).sum + 13 ≤ rm.locals) (hk : k ≤ rm.cells) (hj : j ≤ rm.slots) (kk : mm_Ev g l Y rm Q (pc + 3) ls (.int (if y < x then y else x) :: st) M n k j) : mm_Ev g l Y rm Q pc ls (.int y :: .int x :: st) M n k j := by
  intro p e s m args below meth c H locs lsM hC hH hS hL
  exact va_mmin hC.1 hC.2.1 (hC.2.2.1.trans hL.1.symm) hC.2.2.2.2.1 (hC.2.2.2.2.2.1 _ hw.1) (hC.2.2.2.2.2.1 _ hw.2.1) (hC.2.2.2.2.2.1 _ hw.2.2.1) (hC.2.2.2.2.2.1 _ hw.2.2.2) hroom.1 (by rw [mm_cat_sum]; exact hroom.2) hk hj hd (kk p e s m args below meth c H locs lsM hC hH hS hL)
theorem mm_mmaxl {index : Nat} {x y : Int64} (hd : decode Y.2.1 pc = .ok (.invokestatic index, 3)) (hw : Cond.methodLink Y.1.cls index Lib.MathLoose.max_long.x ∈ mm_tb ∧ Cond.static Lib.MathLoose.max_long.x ∈ mm_tb ∧ Cond.initialized "java/lang/Math" ∈ mm_tb ∧ Cond.code Lib.MathLoose.max_long.x Lib.MathLoose.max_long.code 4 (some .long) ∈ mm_tb) (hroom : 1 ≤ rm.frames ∧ (st.map fun v => v.category).sum + 15 ≤ rm.locals) (hk : k ≤ rm.cells) (hj : j ≤ rm.slots) (kk : mm_Ev g l Y rm Q (pc + 3) ls (.long (if y < x then x else y) :: st) M n k j) : mm_Ev g l Y rm Q pc ls (.long y :: .long x :: st) M n k j := by
  intro p e s m args below meth c H locs lsM hC hH hS hL
  exact va_mmax_long hC.1 hC.2.1 (hC.2.2.1.trans hL.1.symm) hC.2.2.2.2.1 (hC.2.2.2.2.2.1 _ hw.1) (hC.2.2.2.2.2.1 _ hw.2.1) (hC.2.2.2.2.2.1 _ hw.2.2.1) (hC.2.2.2.2.2.1 _ hw.2.2.2) hroom.1 (by rw [mm_cat_sum]; exact hroom.2) hk hj hd (kk p e s m args below meth c H locs lsM hC hH hS hL)
theorem mm_mminl {index : Nat} {x y : Int64} (hd : decode Y.2.1 pc = .ok (.invokestatic index, 3)) (hw : Cond.methodLink Y.1.cls index Lib.MathLoose.min_long.x ∈ mm_tb ∧ Cond.static Lib.MathLoose.min_long.x ∈ mm_tb ∧ Cond.initialized "java/lang/Math" ∈ mm_tb ∧ Cond.code Lib.MathLoose.min_long.x Lib.MathLoose.min_long.code 4 (some .long) ∈ mm_tb) (hroom : 1 ≤ rm.frames ∧ (st.map fun v => v.category).sum + 15 ≤ rm.locals) (hk : k ≤ rm.cells) (hj : j ≤ rm.slots) (kk : mm_Ev g l Y rm Q (pc + 3) ls (.long (if y < x then y else x) :: st) M n k j) : mm_Ev g l Y rm Q pc ls (.long y :: .long x :: st) M n k j := by
  intro p e s m args below meth c H locs lsM hC hH hS hL
  exact va_mmin_long hC.1 hC.2.1 (hC.2.2.1.trans hL.1.symm) hC.2.2.2.2.1 (hC.2.2.2.2.2.1 _ hw.1) (hC.2.2.2.2.2.1 _ hw.2.1) (hC.2.2.2.2.2.1 _ hw.2.2.1) (hC.2.2.2.2.2.1 _ hw.2.2.2) hroom.1 (by rw [mm_cat_sum]; exact hroom.2) hk hj hd (kk p e s m args below meth c H locs lsM hC hH hS hL)
end MMOT
section MMTW
variable {g : mm_G} {l : Launch} {Y : mm_Y} {rm : Room} {Q : mm_O → Prop} {pc : Nat} {ls : List (Option Value)} {st : List Value} {M : mm_M} {n k j : Nat}
set_option maxHeartbeats 1000000 in
theorem mm_throwW {ix is ic i np : Nat} (hfl : l.flags = flags0) (hd0 : decode Y.2.1 pc = .ok (.new ix, 3)) (hd3 : decode Y.2.1 (pc + 3) = .ok (.dup, 1)) (hd4 : decode Y.2.1 (pc + 3 + 1) = .ok (.ldc_w is, 3)) (hd6 : decode Y.2.1 (pc + 3 + 1 + 3) = .ok (.invokespecial ic, 3)) (hd9 : decode Y.2.1 (pc + 3 + 1 + 3 + 3) = .ok (.athrow, 1))
    (hY : mm_Yw Y np) (hXl : mm_Xl Y.1.cls ix is ic i) (hk : k + 1 ≤ rm.cells) (hj : j + 6 ≤ rm.slots) (hroom : 5 < rm.frames ∧ (st.map fun v => v.category).sum + 82 ≤ rm.locals) (hQ : Q (.inr i, M, n + 1)) : mm_Ev g l Y rm Q pc ls st M n k j := by
  intro p e s m args below meth c H locs lsM hC hH hS hL T hT X0
  obtain ⟨hx, hb, hml, -, hown, hts, hlk, hnm, hI, hbs⟩ := id hC
  obtain ⟨w1, w2, w3, ⟨tx, hstr⟩, hat⟩ := hXl
  have X := mm_restart X0 (by omega) (by omega)
  have htr : e.platform.stackTraces = false := by
    have h9 := X0.admits.platform
    rw [h9]
    simp [Launch.stackTraces, hfl, flags0, noTraceFlag]
  have hW0 : s.WarmedH (mm_now s T).vm := State.WarmedH.refl s
  have htb : ∀ w ∈ mm_tb, w.before args (mm_now s T) = true := mm_tb_good hts hW0 args
  have hI2 : mm_I g (mm_now s T) (mm_now s T).heap := (hI.moved (U := mm_now s T) hW0).kept (fun a h1 h2 => by show T.heap[a]? = _; rw [hT]; exact hS.2.1 a h1 h2)
  have hatoms : ∀ w ∈ Bundle.ownAtoms Y.1.cls ic (mm_xn i) ["java/lang/RuntimeException", "java/lang/Exception"], w.before args (mm_now s T) = true := by
    intro w hw
    rcases hat w hw with ⟨h1, h2⟩ | h1
    · exact htb w (List.mem_filter.mpr ⟨List.mem_append_right _ h2, h1⟩)
    · rcases List.mem_append.mp h1 with h1 | h1
      · have h2 := hI2.2.2.1.1 w h1
        rcases mm_nw_ok w h1 with ⟨C, T, rfl⟩ | ⟨x, rfl⟩
        · exact va_Nw.use rfl h2
        · exact va_Nw.use rfl h2
      · simp only [List.mem_cons, List.not_mem_nil, or_false] at h1
        rcases h1 with rfl | rfl
        · exact mm_isRef hI2.2.2.1.2.1
        · exact mm_isRef hI2.2.2.1.2.2.1
  have hout : ∀ pc' : Nat, ∀ y ∈ c.exceptionTable.toList, covers y pc' = false := by
    obtain ⟨meth', c', h1, h2, -, -, -, -, h3, -⟩ := Cond.code_spec hnm.2 (hts _ hY.1)
    cases X0.method.symm.trans h1
    cases X0.code.symm.trans h2
    intro pc' y hy
    rw [Array.isEmpty_iff.mp h3] at hy
    simp at hy
  have hR := hI2.2.2.2.1 _ hstr
  have hw : W p l e { frames := rm.frames, cells := rm.cells - k, slots := rm.slots - j, locals := rm.locals } (mm_now s T) m args below meth c T.heap [] 0 0 (fun U => U.status = .running ∧ Ended U below (.threw T.heap.size) ∧ (mm_now s T).WarmedH U.vm ∧ (mm_now s T).sameButNew ({ U with vm := (mm_now s T).vm } : State) [] 1 6 ∧ ∃ ce, U.heap[T.heap.size]? = some ce ∧ ∃ msg, Bundle.OwnCell args (mm_now s T) (mm_xn i) T.heap.size msg ce) (F0 m pc lsM (st.map (mm_tr g))) := by
    have hown2 : (mm_now s T).vm.findClass Y.1.cls = some m.cls := hown
    refine W.newc (own := Y.1.cls) (C := mm_xn i) (index := ix) (n := 6) (g := F0 m pc lsM (st.map (mm_tr g))) hx hb hown2 (htb _ w1) (htb _ w2) (htb _ w3) rfl hd0 (by show 0 + 1 ≤ rm.cells - k; omega) (by show 0 + 6 ≤ rm.slots - j; omega) (fun cC kC h1 h2 h3 h4 => ?_)
    refine lv_dup hx hb hd3 rfl ?_
    refine mm_ldcwS hx hb hown2 hR hd4 ?_
    intro T2 hT2 X2
    obtain ⟨U, u1, u2, u3, u4, u5, ce, u6, u7⟩ := X2.ctorThrowS hx htr (own := Y.1.cls) (cls := mm_xn i) (names := ["java/lang/RuntimeException", "java/lang/Exception"]) (ic := ic) hown2 (mm_fit i) (by decide) hatoms (fun x hx => by cases hx) h1 h2 (a := T.heap.size) (by rw [hT2]; exact Array.getElem?_push_size) (Nat.le_refl _) (msg := .ref _) rfl
      (g := F0 m (pc + 3 + 1 + 3) lsM (.ref _ :: .ref T.heap.size :: .ref T.heap.size :: st.map (mm_tr g))) rfl (by rw [hml]; exact hL.1) rfl rfl (rest := st.map (mm_tr g)) rfl (by rw [hb]; exact hd6) (by rw [hb]; exact hd9) (hout _) hroom.1 (by
        rw [List.map_cons, List.sum_cons, mm_cat_sum]
        show 2 * 0 + (1 + (st.map fun v => v.category).sum) + (13 * (2 + 1) + 42) ≤ rm.locals
        have := hroom.2
        omega) hlk
    exact ⟨U, u1, u2, u3, u4, u5, ce, u6, _, u7⟩
  obtain ⟨U, u1, u2, u3, u4, u5, ce, u6, msg, u7⟩ := hw T rfl X
  obtain ⟨v1, v2, v3, v4, v5, v6⟩ := u5
  have hlt : T.heap.size < U.heap.size := (Array.getElem?_eq_some_iff.mp u6).1
  have hz : U.heap.size = H.size + 1 := by
    have : U.heap.size ≤ T.heap.size + 1 := v3
    rw [← hT]
    omega
  have ho : ∀ q : Nat, q < H.size → U.heap[q]? = H[q]? := by
    intro q hq
    obtain ⟨cq, h9⟩ : ∃ cq, T.heap[q]? = some cq := ⟨_, Array.getElem?_eq_getElem (by rw [hT]; exact hq)⟩
    obtain ⟨c', e1, e2, e3, e4⟩ := v6 q _ h9
    have e1 : U.heap[q]? = some c' := e1
    have e5 : c'.slots = cq.slots := Array.ext_getElem? (fun i => e4 i (by simp))
    rw [e1, ← hT, h9, e2, e5]
  have hB : (T.setVm s.vm).sameButNew ({ U with vm := s.vm } : State) [] 1 6 := by
    refine ⟨?_, v2, v3, v4, v5, v6⟩
    have h8 := X0.same.1
    rw [h8]
    have h7 : ∀ (F0 F : List Frame) (h1 h2 : Heap) (a1 a2 : Nat), ({ ({ s.setFrames F0 with heap := h1, slotsUsed := a1 } : State).setFrames F with heap := h2, slotsUsed := a2 } : State) = { s.setFrames F with heap := h2, slotsUsed := a2 } := by
      intro F0 F h1 h2 a1 a2
      show ({ (s.setFrames F0).setFrames F with heap := h2, slotsUsed := a2 } : State) = _
      rw [State.setFrames_setFrames]
    exact v1.trans (h7 _ _ _ _ _ _).symm
  have hsame := (X0.same.trans hB).mono (show k + 1 ≤ rm.cells from hk) (show j + 6 ≤ rm.slots from hj)
  rw [List.append_nil] at hsame
  refine ⟨U, u1, .threw T.heap.size, u2, u3, (.inr i, M, n + 1), locs, hQ, hH.more hz ho, fun q hq => ?_, hS.2.2, u4, hsame, T.heap.size, rfl, ce, u6, ?_, ?_⟩
  · have hlow := mm_low hS hbs q hq
    have hb2 := hH.base
    rw [ho q (by omega), hlow]
  · rw [u7.vm]; rfl
  · have hal : s.vm.Alike U.vm := State.WarmedH.alike (s := s) u4
    rw [hal.findClass]
    exact u7.cls
end MMTW
end
section
/-! The reference: its one object and its arrays, as a state. By program (wip/model.py). -/
abbrev md_V : Type := Int32 ⊕ (Int64 ⊕ ((Nat → Int32) ⊕ (Nat → Int64)))
abbrev md_S : Type := Nat → md_V
def md_kd (k : Nat) : Nat := match k with
  | 2 => 2
  | 3 => 2
  | 4 => 2
  | 5 => 2
  | 6 => 2
  | 8 => 3
  | 9 => 3
  | 11 => 2
  | 12 => 2
  | 13 => 2
  | 17 => 2
  | 18 => 2
  | 20 => 2
  | 21 => 2
  | 22 => 2
  | 23 => 4
  | 24 => 2
  | 25 => 2
  | 26 => 2
  | 27 => 2
  | 29 => 3
  | 35 => 2
  | 37 => 2
  | 38 => 2
  | 39 => 2
  | 40 => 2
  | 41 => 2
  | 42 => 2
  | 43 => 2
  | 44 => 2
  | 45 => 2
  | 46 => 2
  | 47 => 2
  | 48 => 2
  | 49 => 2
  | 58 => 2
  | 59 => 2
  | 61 => 1
  | 62 => 3
  | 63 => 2
  | 64 => 1
  | 67 => 2
  | 68 => 2
  | _ => 0
def md_ln (k : Nat) : Nat := match k with
  | 2 => 4096
  | 3 => 512
  | 4 => 512
  | 5 => 256
  | 6 => 256
  | 8 => 601
  | 9 => 601
  | 11 => 12
  | 12 => 10
  | 13 => 10
  | 17 => 3
  | 18 => 4
  | 20 => 601
  | 21 => 601
  | 22 => 601
  | 23 => 601
  | 24 => 601
  | 25 => 3
  | 26 => 3
  | 27 => 1500
  | 29 => 24
  | 35 => 200
  | 37 => 11
  | 38 => 11
  | 39 => 11
  | 40 => 12
  | 41 => 10
  | 42 => 10
  | 43 => 10
  | 44 => 10
  | 45 => 10
  | 46 => 10
  | 47 => 10
  | 48 => 10
  | 49 => 10
  | 58 => 10
  | 59 => 10
  | 62 => 11
  | 63 => 8
  | 67 => 147
  | 68 => 12
  | _ => 0
def md_of (k : Nat) : Nat := match k with
  | 2 => 1
  | 3 => 2
  | 4 => 3
  | 5 => 4
  | 6 => 5
  | 8 => 6
  | 9 => 7
  | 11 => 8
  | 12 => 9
  | 13 => 10
  | 17 => 11
  | 18 => 12
  | 20 => 13
  | 21 => 14
  | 22 => 15
  | 23 => 16
  | 24 => 17
  | 25 => 18
  | 26 => 19
  | 27 => 20
  | 29 => 21
  | 35 => 22
  | 37 => 23
  | 38 => 24
  | 39 => 25
  | 40 => 26
  | 41 => 27
  | 42 => 28
  | 43 => 29
  | 44 => 30
  | 45 => 31
  | 46 => 32
  | 47 => 33
  | 48 => 34
  | 49 => 35
  | 58 => 36
  | 59 => 37
  | 62 => 38
  | 63 => 39
  | 67 => 40
  | 68 => 41
  | _ => 0
def md_i (s : md_S) (k : Nat) : Int32 := match s k with
  | .inl x => x
  | _ => 0
def md_l (s : md_S) (k : Nat) : Int64 := match s k with
  | .inr (.inl x) => x
  | _ => 0
def md_a (s : md_S) (k : Nat) : Nat → Int32 := match s k with
  | .inr (.inr (.inl f)) => f
  | _ => fun _ => 0
def md_b (s : md_S) (k : Nat) : Nat → Int64 := match s k with
  | .inr (.inr (.inr f)) => f
  | _ => fun _ => 0
def md_si (s : md_S) (k : Nat) (x : Int32) : md_S := fun q => if q = k then .inl x else s q
def md_sl (s : md_S) (k : Nat) (x : Int64) : md_S := fun q => if q = k then .inr (.inl x) else s q
def md_sa (s : md_S) (k : Nat) (f : Nat → Int32) : md_S := fun q => if q = k then .inr (.inr (.inl f)) else s q
def md_sb (s : md_S) (k : Nat) (f : Nat → Int64) : md_S := fun q => if q = k then .inr (.inr (.inr f)) else s q
def md_fv (b : Nat) (s : md_S) (k : Nat) : Value := match md_kd k with
  | 0 => .int (md_i s k)
  | 1 => .long (md_l s k)
  | _ => .ref (b + md_of k)
def md_av (s : md_S) (k : Nat) : mm_E := match md_kd k with
  | 2 => .inl (3, md_ln k, .inl (md_a s k))
  | 3 => .inl (1, md_ln k, .inr (.inl (md_b s k)))
  | _ => .inl (6, md_ln k, .inl (md_a s k))
/-- the cells hold the state s: the object at b, its arrays behind it -/
def md_H (b : Nat) (s : md_S) (M : mm_M) : Prop := M b = some (.inr (11, (List.range 69).map (md_fv b s))) ∧ ∀ k, k < 69 → 2 ≤ md_kd k → M (b + md_of k) = some (md_av s k)
theorem md_of_pos : ∀ k, k < 69 → 2 ≤ md_kd k → 0 < md_of k := by decide +kernel
theorem md_of_inj : ∀ k, k < 69 → ∀ q, q < 69 → 2 ≤ md_kd k → 2 ≤ md_kd q → md_of k = md_of q → k = q := by decide +kernel
theorem md_set_list {α : Type} (f f1 : Nat → α) (k N : Nat) (h : ∀ q, q ≠ k → f1 q = f q) : ((List.range N).map f).set k (f1 k) = (List.range N).map f1 := by
  apply List.ext_getElem?
  intro i
  rw [List.getElem?_set]
  by_cases hik : k = i
  · subst hik
    rw [if_pos rfl]
    by_cases hk : k < N
    · rw [if_pos (by simpa using hk)]
      simp [hk]
    · rw [if_neg (by simpa using hk)]
      simp [hk]
  · rw [if_neg hik]
    simp only [List.getElem?_map]
    cases hr : (List.range N)[i]? with
    | none => rfl
    | some q =>
      have hq : q = i := by
        have := List.getElem?_eq_some_iff.mp hr
        obtain ⟨h1, h2⟩ := this
        simp at h2
        exact h2.symm
      simp [hq, h i (fun z => hik z.symm)]
theorem md_i_ne {s : md_S} {k q : Nat} {x : Int32} (h : q ≠ k) : md_si s k x q = s q := by simp [md_si, h]
theorem md_l_ne {s : md_S} {k q : Nat} {x : Int64} (h : q ≠ k) : md_sl s k x q = s q := by simp [md_sl, h]
theorem md_a_ne {s : md_S} {k q : Nat} {f : Nat → Int32} (h : q ≠ k) : md_sa s k f q = s q := by simp [md_sa, h]
theorem md_b_ne {s : md_S} {k q : Nat} {f : Nat → Int64} (h : q ≠ k) : md_sb s k f q = s q := by simp [md_sb, h]
theorem md_ii {s : md_S} {k : Nat} {x : Int32} : md_i (md_si s k x) k = x := by simp [md_i, md_si]
theorem md_ll {s : md_S} {k : Nat} {x : Int64} : md_l (md_sl s k x) k = x := by simp [md_l, md_sl]
theorem md_aa {s : md_S} {k : Nat} {f : Nat → Int32} : md_a (md_sa s k f) k = f := by simp [md_a, md_sa]
theorem md_bb {s : md_S} {k : Nat} {f : Nat → Int64} : md_b (md_sb s k f) k = f := by simp [md_b, md_sb]
theorem md_H.put {b : Nat} {s s1 : md_S} {M : mm_M} (h : md_H b s M) (k : Nat) (hk : k < 69) (hkd : md_kd k < 2) (hs : ∀ q, q ≠ k → s1 q = s q) : md_H b s1 (mm_up M b (.inr (11, ((List.range 69).map (md_fv b s)).set k (md_fv b s1 k)))) := by
  have hfv : ∀ q, q ≠ k → md_fv b s1 q = md_fv b s q := fun q hq => by simp only [md_fv, md_i, md_l, hs q hq]
  refine ⟨?_, fun q hq h2 => ?_⟩
  · rw [mm_up_s, md_set_list _ _ _ _ hfv]
  · have h0 := md_of_pos q hq h2
    have hqk : q ≠ k := fun z => by subst z; omega
    rw [mm_up_n (by omega), h.2 q hq h2]
    simp only [md_av, md_a, md_b, hs q hqk]
theorem md_H.store {b : Nat} {s s1 : md_S} {M : mm_M} (h : md_H b s M) (k : Nat) (hk : k < 69) (hkd : 2 ≤ md_kd k) (hs : ∀ q, q ≠ k → s1 q = s q) : md_H b s1 (mm_up M (b + md_of k) (md_av s1 k)) := by
  have h0 := md_of_pos k hk hkd
  refine ⟨?_, fun q hq h2 => ?_⟩
  · rw [mm_up_n (by omega), h.1]
    congr 3
    apply List.map_congr_left
    intro q hq
    by_cases z : q = k
    · subst z
      have : ∀ y, 2 ≤ y → ∀ (s : md_S), (match y with | 0 => Value.int (md_i s q) | 1 => Value.long (md_l s q) | _ => Value.ref (b + md_of q)) = Value.ref (b + md_of q) := by
        intro y hy s
        match y, hy with
        | y + 2, _ => rfl
      simp only [md_fv]
      rw [this _ hkd, this _ hkd]
    · simp only [md_fv, md_i, md_l, hs q z]
  · by_cases z : q = k
    · subst z
      rw [mm_up_s]
    · have hne : b + md_of q ≠ b + md_of k := fun e => z (md_of_inj q hq k hk h2 hkd (by omega))
      rw [mm_up_n hne, h.2 q hq h2]
      simp only [md_av, md_a, md_b, hs q z]
end
section
/-! Rows over the reference's state. md_W b M0 s M: the cells hold s, and nothing else has changed since M0. -/
def md_F (b : Nat) (M M1 : mm_M) : Prop := ∀ a, a < b ∨ b + 42 ≤ a → M1 a = M a
def md_W (b : Nat) (M0 : mm_M) (s : md_S) (M : mm_M) : Prop := md_H b s M ∧ md_F b M0 M
theorem md_of_lt : ∀ k, md_of k < 42 := by
  intro k
  by_cases h : k < 69
  · exact (show ∀ k, k < 69 → md_of k < 42 by decide +kernel) k h
  · have : md_of k = 0 := by
      unfold md_of
      split <;> first | rfl | omega
    omega
def md_R (b : Nat) (M0 : mm_M) (n : Nat) (P : Option Value → md_S → Prop) : mm_O → Prop := fun o => ∃ (r : Option Value) (s1 : md_S) (M1 : mm_M), P r s1 ∧ o = (.inl r, M1, n) ∧ md_W b M0 s1 M1
/-- an index is in range -/
def md_ok (i : Int32) (N : Nat) : Bool := decide (0 ≤ i.toInt) && decide (i.toInt < (N : Int))
theorem md_ok_in {i : Int32} {N : Nat} (h : md_ok i N = true) : vp_in i N := by
  simp only [md_ok, Bool.and_eq_true, decide_eq_true_eq] at h
  exact vp_in_iff.mpr h
/-- fewer locals known -/
def mm_sub : List (Option Value) → List (Option Value) → Prop
  | [], _ => True
  | none :: l, [] => mm_sub l []
  | none :: l, _ :: r => mm_sub l r
  | some _ :: _, [] => False
  | some v :: l, x :: r => x = some v ∧ mm_sub l r
theorem mm_sub_lg : ∀ (l r : List (Option Value)), mm_sub l r → ∀ (i : Nat) (v : Value), mm_lg l i = some v → mm_lg r i = some v
  | [], _, _, i, v, h => by cases h
  | none :: l, [], hs, i, v, h => by
    cases i with
    | zero => cases h
    | succ i => have := mm_sub_lg l [] hs i v h; cases this
  | none :: l, x :: r, hs, i, v, h => by
    cases i with
    | zero => cases h
    | succ i => exact mm_sub_lg l r hs i v h
  | some w :: l, [], hs, i, v, h => by cases hs
  | some w :: l, x :: r, hs, i, v, h => by
    obtain ⟨h1, h2⟩ := hs
    cases i with
    | zero => rw [h1]; exact h
    | succ i => exact mm_sub_lg l r h2 i v h
section MDRW
variable {g : mm_G} {l : Launch} {Y : mm_Y} {rm : Room} {Q : mm_O → Prop} {pc : Nat} {ls : List (Option Value)} {st : List Value} {M M0 : mm_M} {n k j b : Nat} {s : md_S}
theorem mm_less {ls1 : List (Option Value)} (h : mm_sub ls1 ls) (kk : mm_Ev g l Y rm Q pc ls1 st M n k j) : mm_Ev g l Y rm Q pc ls st M n k j :=
  fun p e s m args below meth c H locs lsM hC hH hS hL => kk p e s m args below meth c H locs lsM hC hH hS (hL.less (mm_sub_lg _ _ h))
theorem mm_pc {pc1 : Nat} (h : pc = pc1) (kk : mm_Ev g l Y rm Q pc1 ls st M n k j) : mm_Ev g l Y rm Q pc ls st M n k j := h ▸ kk
theorem md_fv_at {kf : Nat} (hk : kf < 69) : ((List.range 69).map (md_fv b s))[kf]? = some (md_fv b s kf) := by
  rw [List.getElem?_map, List.getElem?_range hk]; rfl
theorem md_geti {kf index : Nat} {ty : FieldType} {fin : Bool} (h : md_W b M0 s M) (hd : decode Y.2.1 pc = .ok (.getfield index, 3)) (hF : mm_Fl Y.1.cls index 11 kf ty fin) (hk : kf < 69) (hkd : md_kd kf = 0) (kk : mm_Ev g l Y rm Q (pc + 3) ls (.int (md_i s kf) :: st) M n k j) : mm_Ev g l Y rm Q pc ls (.ref b :: st) M n k j :=
  mm_get hd hF h.1.1 (by rw [md_fv_at hk]; simp only [md_fv, hkd]) kk
theorem md_getl {kf index : Nat} {ty : FieldType} {fin : Bool} (h : md_W b M0 s M) (hd : decode Y.2.1 pc = .ok (.getfield index, 3)) (hF : mm_Fl Y.1.cls index 11 kf ty fin) (hk : kf < 69) (hkd : md_kd kf = 1) (kk : mm_Ev g l Y rm Q (pc + 3) ls (.long (md_l s kf) :: st) M n k j) : mm_Ev g l Y rm Q pc ls (.ref b :: st) M n k j :=
  mm_get hd hF h.1.1 (by rw [md_fv_at hk]; simp only [md_fv, hkd]) kk
theorem md_fv_r {kf : Nat} (hkd : 2 ≤ md_kd kf) : md_fv b s kf = .ref (b + md_of kf) := by
  unfold md_fv
  generalize md_kd kf = y at hkd
  match y, hkd with
  | y + 2, _ => rfl
theorem md_getr {kf index : Nat} {ty : FieldType} {fin : Bool} (h : md_W b M0 s M) (hd : decode Y.2.1 pc = .ok (.getfield index, 3)) (hF : mm_Fl Y.1.cls index 11 kf ty fin) (hk : kf < 69) (hkd : 2 ≤ md_kd kf) (kk : mm_Ev g l Y rm Q (pc + 3) ls (.ref (b + md_of kf) :: st) M n k j) : mm_Ev g l Y rm Q pc ls (.ref b :: st) M n k j :=
  mm_get hd hF h.1.1 (by rw [md_fv_at hk, md_fv_r hkd]) kk
theorem md_F_b {M1 : mm_M} {a : Nat} {e : mm_E} (h : md_F b M0 M) (ha : b ≤ a) (ha2 : a < b + 42) : md_F b M0 (mm_up M a e) := fun q hq => by rw [mm_up_n (by omega)]; exact h q hq
theorem md_puti {kf index : Nat} {x : Int32} (h : md_W b M0 s M) (hd : decode Y.2.1 pc = .ok (.putfield index, 3)) (hF : mm_Fl Y.1.cls index 11 kf .int false) (hk : kf < 69) (hkd : md_kd kf = 0) (kk : ∀ M1 : mm_M, md_W b M0 (md_si s kf x) M1 → mm_Ev g l Y rm Q (pc + 3) ls st M1 n k j) : mm_Ev g l Y rm Q pc ls (.int x :: .ref b :: st) M n k j := by
  refine mm_put hd hF h.1.1 (by simpa using hk) rfl rfl (fun M1 e => kk M1 ?_)
  have h9 := h.1.put (s1 := md_si s kf x) kf hk (by omega) (fun q hq => md_i_ne hq)
  have e9 : md_fv b (md_si s kf x) kf = .int x := by simp only [md_fv, hkd, md_ii]
  rw [e9] at h9
  rw [e]
  exact ⟨h9, md_F_b (M1 := M1) h.2 (Nat.le_refl _) (by omega)⟩
theorem md_putl {kf index : Nat} {x : Int64} (h : md_W b M0 s M) (hd : decode Y.2.1 pc = .ok (.putfield index, 3)) (hF : mm_Fl Y.1.cls index 11 kf .long false) (hk : kf < 69) (hkd : md_kd kf = 1) (kk : ∀ M1 : mm_M, md_W b M0 (md_sl s kf x) M1 → mm_Ev g l Y rm Q (pc + 3) ls st M1 n k j) : mm_Ev g l Y rm Q pc ls (.long x :: .ref b :: st) M n k j := by
  refine mm_put hd hF h.1.1 (by simpa using hk) rfl rfl (fun M1 e => kk M1 ?_)
  have h9 := h.1.put (s1 := md_sl s kf x) kf hk (by omega) (fun q hq => md_l_ne hq)
  have e9 : md_fv b (md_sl s kf x) kf = .long x := by simp only [md_fv, hkd, md_ll]
  rw [e9] at h9
  rw [e]
  exact ⟨h9, md_F_b (M1 := M1) h.2 (Nat.le_refl _) (by omega)⟩
theorem md_ial {kf : Nat} {i : Int32} (h : md_W b M0 s M) (hd : decode Y.2.1 pc = .ok (.iaload, 1)) (hk : kf < 69) (hkd : md_kd kf = 2) (hin : md_ok i (md_ln kf) = true) (kk : mm_Ev g l Y rm Q (pc + 1) ls (.int (md_a s kf i.toNatClampNeg) :: st) M n k j) : mm_Ev g l Y rm Q pc ls (.int i :: .ref (b + md_of kf) :: st) M n k j :=
  mm_iald hd (t := 3) (by rw [h.1.2 kf hk (by omega)]; simp only [md_av, hkd]) rfl (md_ok_in hin) kk
theorem md_lal {kf : Nat} {i : Int32} (h : md_W b M0 s M) (hd : decode Y.2.1 pc = .ok (.laload, 1)) (hk : kf < 69) (hkd : md_kd kf = 3) (hin : md_ok i (md_ln kf) = true) (kk : mm_Ev g l Y rm Q (pc + 1) ls (.long (md_b s kf i.toNatClampNeg) :: st) M n k j) : mm_Ev g l Y rm Q pc ls (.int i :: .ref (b + md_of kf) :: st) M n k j :=
  mm_lald hd (t := 1) (by rw [h.1.2 kf hk (by omega)]; simp only [md_av, hkd]) rfl (md_ok_in hin) kk
theorem md_zal {kf : Nat} {i : Int32} (h : md_W b M0 s M) (hd : decode Y.2.1 pc = .ok (.baload, 1)) (hk : kf < 69) (hkd : md_kd kf = 4) (hin : md_ok i (md_ln kf) = true) (kk : mm_Ev g l Y rm Q (pc + 1) ls (.int (md_a s kf i.toNatClampNeg) :: st) M n k j) : mm_Ev g l Y rm Q pc ls (.int i :: .ref (b + md_of kf) :: st) M n k j :=
  mm_zald hd (t := 6) (by rw [h.1.2 kf hk (by omega)]; simp only [md_av, hkd]) rfl (md_ok_in hin) kk
theorem md_ias {kf : Nat} {i x : Int32} (h : md_W b M0 s M) (hd : decode Y.2.1 pc = .ok (.iastore, 1)) (hk : kf < 69) (hkd : md_kd kf = 2) (hin : md_ok i (md_ln kf) = true) (kk : ∀ M1 : mm_M, md_W b M0 (md_sa s kf (upd (md_a s kf) i.toNatClampNeg x)) M1 → mm_Ev g l Y rm Q (pc + 1) ls st M1 n k j) : mm_Ev g l Y rm Q pc ls (.int x :: .int i :: .ref (b + md_of kf) :: st) M n k j := by
  refine mm_iast hd (t := 3) (by rw [h.1.2 kf hk (by omega)]; simp only [md_av, hkd]; rfl) rfl (md_ok_in hin) (fun M1 e => kk M1 ?_)
  have h9 := h.1.store (s1 := md_sa s kf (upd (md_a s kf) i.toNatClampNeg x)) kf hk (by omega) (fun q hq => md_a_ne hq)
  have e9 : md_av (md_sa s kf (upd (md_a s kf) i.toNatClampNeg x)) kf = .inl (3, md_ln kf, .inl (upd (md_a s kf) i.toNatClampNeg x)) := by simp only [md_av, hkd, md_aa]
  rw [e9] at h9
  rw [e]
  have := md_of_lt kf
  exact ⟨h9, md_F_b (M1 := M1) h.2 (by omega) (by omega)⟩
theorem md_las {kf : Nat} {i : Int32} {x : Int64} (h : md_W b M0 s M) (hd : decode Y.2.1 pc = .ok (.lastore, 1)) (hk : kf < 69) (hkd : md_kd kf = 3) (hin : md_ok i (md_ln kf) = true) (kk : ∀ M1 : mm_M, md_W b M0 (md_sb s kf (vp_updL (md_b s kf) i.toNatClampNeg x)) M1 → mm_Ev g l Y rm Q (pc + 1) ls st M1 n k j) : mm_Ev g l Y rm Q pc ls (.long x :: .int i :: .ref (b + md_of kf) :: st) M n k j := by
  refine mm_last hd (t := 1) (by rw [h.1.2 kf hk (by omega)]; simp only [md_av, hkd]; rfl) rfl (md_ok_in hin) (fun M1 e => kk M1 ?_)
  have h9 := h.1.store (s1 := md_sb s kf (vp_updL (md_b s kf) i.toNatClampNeg x)) kf hk (by omega) (fun q hq => md_b_ne hq)
  have e9 : md_av (md_sb s kf (vp_updL (md_b s kf) i.toNatClampNeg x)) kf = .inl (1, md_ln kf, .inr (.inl (vp_updL (md_b s kf) i.toNatClampNeg x))) := by simp only [md_av, hkd, md_bb]
  rw [e9] at h9
  rw [e]
  have := md_of_lt kf
  exact ⟨h9, md_F_b (M1 := M1) h.2 (by omega) (by omega)⟩
theorem md_zas {kf : Nat} {i x : Int32} (h : md_W b M0 s M) (hd : decode Y.2.1 pc = .ok (.bastore, 1)) (hk : kf < 69) (hkd : md_kd kf = 4) (hin : md_ok i (md_ln kf) = true) (kk : ∀ M1 : mm_M, md_W b M0 (md_sa s kf (upd (md_a s kf) i.toNatClampNeg (vp_nar .boolean x))) M1 → mm_Ev g l Y rm Q (pc + 1) ls st M1 n k j) : mm_Ev g l Y rm Q pc ls (.int x :: .int i :: .ref (b + md_of kf) :: st) M n k j := by
  refine mm_zast hd (t := 6) (by rw [h.1.2 kf hk (by omega)]; simp only [md_av, hkd]; rfl) rfl (md_ok_in hin) (fun M1 e => kk M1 ?_)
  have h9 := h.1.store (s1 := md_sa s kf (upd (md_a s kf) i.toNatClampNeg (vp_nar .boolean x))) kf hk (by omega) (fun q hq => md_a_ne hq)
  have e9 : md_av (md_sa s kf (upd (md_a s kf) i.toNatClampNeg (vp_nar .boolean x))) kf = .inl (6, md_ln kf, .inl (upd (md_a s kf) i.toNatClampNeg (vp_nar .boolean x))) := by simp only [md_av, hkd, md_aa]
  rw [e9] at h9
  rw [e]
  have := md_of_lt kf
  exact ⟨h9, md_F_b (M1 := M1) h.2 (by omega) (by omega)⟩
theorem md_Q_of {r : Option Value} {P : Option Value → md_S → Prop} (h : md_W b M0 s M) (hP : P r s) : md_R b M0 n P (.inl r, M, n) := ⟨r, s, M, hP, rfl, h⟩
/-- a call of a method of the reference's own object -/
theorem md_call {Z : mm_Y} {rz : Room} {P : Option Value → md_S → Prop} {index np : Nat} {as : List Value} (h : md_W b M0 s M) (hd : decode Y.2.1 pc = .ok (.invokevirtual index, 3)) (hZ : mm_Vl Y.1.cls index 11 np Z) (hM : ∀ (M : mm_M) (n : Nat), md_H b s M → mm_Met g l Z rz (.ref b :: as) M n (md_R b M n P)) (hlen : as.length = np)
    (hroom : rz.frames + 1 ≤ rm.frames ∧ (st.map fun v => v.category).sum + (Z.2.2.1 + 11) + rz.locals ≤ rm.locals) (hk : k + rz.cells ≤ rm.cells) (hj : j + rz.slots ≤ rm.slots)
    (kr : ∀ (r : Option Value) (s1 : md_S) (M1 : mm_M), P r s1 → md_W b M0 s1 M1 → mm_Ev g l Y rm Q (pc + 3) ls (r.toList ++ st) M1 n (k + rz.cells) (j + rz.slots)) : mm_Ev g l Y rm Q pc ls (as.reverse ++ .ref b :: st) M n k j := by
  refine mm_callV hd hZ (hM M n h.1) h.1.1 hlen hroom hk hj (fun v M1 n1 hQ => ?_) (fun i M1 n1 hQ => ?_)
  · obtain ⟨r, s1, M2, hP, e, hW⟩ := hQ
    cases e
    exact kr v s1 M1 hP ⟨hW.1, fun a ha => (hW.2 a ha).trans (h.2 a ha)⟩
  · obtain ⟨r, s1, M2, hP, e, hW⟩ := hQ
    cases e
/-- a call of a static method that touches no cell -/
theorem md_callS {Z : mm_Y} {rz : Room} {P : Option Value → Prop} {index np : Nat} {as : List Value} (hd : decode Y.2.1 pc = .ok (.invokestatic index, 3)) (hZ : mm_Sl Y.1.cls index np Z) (hM : ∀ (M : mm_M) (n : Nat), mm_Met g l Z rz as M n (fun o => ∃ r, P r ∧ o = (.inl r, M, n))) (hlen : as.length = np)
    (hroom : rz.frames + 1 ≤ rm.frames ∧ (st.map fun v => v.category).sum + (Z.2.2.1 + 11) + rz.locals ≤ rm.locals) (hk : k + rz.cells ≤ rm.cells) (hj : j + rz.slots ≤ rm.slots)
    (kr : ∀ (r : Option Value), P r → mm_Ev g l Y rm Q (pc + 3) ls (r.toList ++ st) M n (k + rz.cells) (j + rz.slots)) : mm_Ev g l Y rm Q pc ls (as.reverse ++ st) M n k j := by
  refine mm_callS hd hZ (hM M n) hlen hroom hk hj (fun v M1 n1 hQ => ?_) (fun i M1 n1 hQ => ?_)
  · obtain ⟨r, hP, e⟩ := hQ
    cases e
    exact kr v hP
  · obtain ⟨r, hP, e⟩ := hQ
    cases e
end MDRW
end
