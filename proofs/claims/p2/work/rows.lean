section
-- ===== PART A: goes FIRST, ahead of the names: the tables' words, and 'selects' of the private methods out of them =====
/-- a private method of a class that the tables say can be made, by its rows of tables_1 -/
def lw_okq (q : MethodName × Nat) : Prop := (q.1.cls ≠ "java/lang/invoke/MethodHandle" ∧ q.1.cls ≠ "java/lang/invoke/VarHandle") ∧ Cond.instantiable q.1.cls q.2 ∈ tables_1 ∧ Cond.privateMethod q.1 ∈ tables_1 ∧ Cond.instanceMethod q.1 ∈ tables_1
theorem lw_p0 : lw_okq (⟨"TensorForge$Machine", "shapeFits", "(J)Z"⟩, 14) := ⟨⟨by decide +kernel, by decide +kernel⟩, List.mem_of_getElem? (i := 155) (by decide +kernel), List.mem_of_getElem? (i := 508) (by decide +kernel), List.mem_of_getElem? (i := 509) (by decide +kernel)⟩
theorem lw_p1 : lw_okq (⟨"TensorForge$Machine", "numberFits", "(J)Z"⟩, 14) := ⟨⟨by decide +kernel, by decide +kernel⟩, List.mem_of_getElem? (i := 155) (by decide +kernel), List.mem_of_getElem? (i := 513) (by decide +kernel), List.mem_of_getElem? (i := 514) (by decide +kernel)⟩
theorem lw_p2 : lw_okq (⟨"TensorForge$Reaches", "forget", "()V"⟩, 4) := ⟨⟨by decide +kernel, by decide +kernel⟩, List.mem_of_getElem? (i := 163) (by decide +kernel), List.mem_of_getElem? (i := 528) (by decide +kernel), List.mem_of_getElem? (i := 529) (by decide +kernel)⟩
theorem lw_p3 : lw_okq (⟨"TensorForge$Reaches", "reads", "(III)V"⟩, 4) := ⟨⟨by decide +kernel, by decide +kernel⟩, List.mem_of_getElem? (i := 163) (by decide +kernel), List.mem_of_getElem? (i := 536) (by decide +kernel), List.mem_of_getElem? (i := 537) (by decide +kernel)⟩
theorem lw_p4 : lw_okq (⟨"TensorForge$Reaches", "writes", "(III)V"⟩, 4) := ⟨⟨by decide +kernel, by decide +kernel⟩, List.mem_of_getElem? (i := 163) (by decide +kernel), List.mem_of_getElem? (i := 540) (by decide +kernel), List.mem_of_getElem? (i := 541) (by decide +kernel)⟩
theorem lw_p5 : lw_okq (⟨"TensorForge$Reaches", "takeWork", "(JI)V"⟩, 4) := ⟨⟨by decide +kernel, by decide +kernel⟩, List.mem_of_getElem? (i := 163) (by decide +kernel), List.mem_of_getElem? (i := 544) (by decide +kernel), List.mem_of_getElem? (i := 545) (by decide +kernel)⟩
theorem lw_p6 : lw_okq (⟨"TensorForge$Reaches", "workOnSums", "(IIZ)V"⟩, 4) := ⟨⟨by decide +kernel, by decide +kernel⟩, List.mem_of_getElem? (i := 163) (by decide +kernel), List.mem_of_getElem? (i := 548) (by decide +kernel), List.mem_of_getElem? (i := 549) (by decide +kernel)⟩
theorem lw_p7 : lw_okq (⟨"TensorForge$Assembler", "readInstruction", "()Z"⟩, 4) := ⟨⟨by decide +kernel, by decide +kernel⟩, List.mem_of_getElem? (i := 315) (by decide +kernel), List.mem_of_getElem? (i := 574) (by decide +kernel), List.mem_of_getElem? (i := 575) (by decide +kernel)⟩
theorem lw_p8 : lw_okq (⟨"TensorForge$Assembler", "kindTold", "()I"⟩, 4) := ⟨⟨by decide +kernel, by decide +kernel⟩, List.mem_of_getElem? (i := 315) (by decide +kernel), List.mem_of_getElem? (i := 578) (by decide +kernel), List.mem_of_getElem? (i := 579) (by decide +kernel)⟩
theorem lw_p9 : lw_okq (⟨"TensorForge$Assembler", "readPart", "()Z"⟩, 4) := ⟨⟨by decide +kernel, by decide +kernel⟩, List.mem_of_getElem? (i := 315) (by decide +kernel), List.mem_of_getElem? (i := 650) (by decide +kernel), List.mem_of_getElem? (i := 651) (by decide +kernel)⟩
theorem lw_p10 : lw_okq (⟨"TensorForge$Assembler", "readNumber", "(I)Z"⟩, 4) := ⟨⟨by decide +kernel, by decide +kernel⟩, List.mem_of_getElem? (i := 315) (by decide +kernel), List.mem_of_getElem? (i := 655) (by decide +kernel), List.mem_of_getElem? (i := 656) (by decide +kernel)⟩
theorem lw_p11 : lw_okq (⟨"TensorForge$Assembler", "setOnce", "(II)Z"⟩, 4) := ⟨⟨by decide +kernel, by decide +kernel⟩, List.mem_of_getElem? (i := 315) (by decide +kernel), List.mem_of_getElem? (i := 667) (by decide +kernel), List.mem_of_getElem? (i := 668) (by decide +kernel)⟩
theorem lw_p12 : lw_okq (⟨"TensorForge$Assembler", "readNeighbour", "(II)Z"⟩, 4) := ⟨⟨by decide +kernel, by decide +kernel⟩, List.mem_of_getElem? (i := 315) (by decide +kernel), List.mem_of_getElem? (i := 683) (by decide +kernel), List.mem_of_getElem? (i := 684) (by decide +kernel)⟩
theorem lw_p13 : lw_okq (⟨"TensorForge", "takeSpareWords", "(I)V"⟩, 12) := ⟨⟨by decide +kernel, by decide +kernel⟩, List.mem_of_getElem? (i := 29) (by decide +kernel), List.mem_of_getElem? (i := 690) (by decide +kernel), List.mem_of_getElem? (i := 691) (by decide +kernel)⟩
theorem lw_p14 : lw_okq (⟨"TensorForge$Run", "prepare", "([JI)V"⟩, 10) := ⟨⟨by decide +kernel, by decide +kernel⟩, List.mem_of_getElem? (i := 231) (by decide +kernel), List.mem_of_getElem? (i := 702) (by decide +kernel), List.mem_of_getElem? (i := 703) (by decide +kernel)⟩
theorem lw_p15 : lw_okq (⟨"TensorForge$Run", "nextOf", "(II)I"⟩, 10) := ⟨⟨by decide +kernel, by decide +kernel⟩, List.mem_of_getElem? (i := 231) (by decide +kernel), List.mem_of_getElem? (i := 716) (by decide +kernel), List.mem_of_getElem? (i := 717) (by decide +kernel)⟩
def lw_privs_1 : List (MethodName × Nat) := [(⟨"TensorForge$Machine", "shapeFits", "(J)Z"⟩, 14), (⟨"TensorForge$Machine", "numberFits", "(J)Z"⟩, 14), (⟨"TensorForge$Reaches", "forget", "()V"⟩, 4), (⟨"TensorForge$Reaches", "reads", "(III)V"⟩, 4), (⟨"TensorForge$Reaches", "writes", "(III)V"⟩, 4), (⟨"TensorForge$Reaches", "takeWork", "(JI)V"⟩, 4), (⟨"TensorForge$Reaches", "workOnSums", "(IIZ)V"⟩, 4), (⟨"TensorForge$Assembler", "readInstruction", "()Z"⟩, 4), (⟨"TensorForge$Assembler", "kindTold", "()I"⟩, 4), (⟨"TensorForge$Assembler", "readPart", "()Z"⟩, 4), (⟨"TensorForge$Assembler", "readNumber", "(I)Z"⟩, 4), (⟨"TensorForge$Assembler", "setOnce", "(II)Z"⟩, 4), (⟨"TensorForge$Assembler", "readNeighbour", "(II)Z"⟩, 4), (⟨"TensorForge", "takeSpareWords", "(I)V"⟩, 12), (⟨"TensorForge$Run", "prepare", "([JI)V"⟩, 10), (⟨"TensorForge$Run", "nextOf", "(II)I"⟩, 10)]
theorem lw_r1 : ∀ q ∈ lw_privs_1, lw_okq q := List.forall_mem_cons.mpr ⟨lw_p0, List.forall_mem_cons.mpr ⟨lw_p1, List.forall_mem_cons.mpr ⟨lw_p2, List.forall_mem_cons.mpr ⟨lw_p3, List.forall_mem_cons.mpr ⟨lw_p4, List.forall_mem_cons.mpr ⟨lw_p5, List.forall_mem_cons.mpr ⟨lw_p6, List.forall_mem_cons.mpr ⟨lw_p7, List.forall_mem_cons.mpr ⟨lw_p8, List.forall_mem_cons.mpr ⟨lw_p9, List.forall_mem_cons.mpr ⟨lw_p10, List.forall_mem_cons.mpr ⟨lw_p11, List.forall_mem_cons.mpr ⟨lw_p12, List.forall_mem_cons.mpr ⟨lw_p13, List.forall_mem_cons.mpr ⟨lw_p14, List.forall_mem_cons.mpr ⟨lw_p15, fun _ h => absurd h List.not_mem_nil⟩⟩⟩⟩⟩⟩⟩⟩⟩⟩⟩⟩⟩⟩⟩⟩
theorem lw_p16 : lw_okq (⟨"TensorForge$Run", "firstForbidden", "()I"⟩, 10) := ⟨⟨by decide +kernel, by decide +kernel⟩, List.mem_of_getElem? (i := 231) (by decide +kernel), List.mem_of_getElem? (i := 721) (by decide +kernel), List.mem_of_getElem? (i := 722) (by decide +kernel)⟩
theorem lw_p17 : lw_okq (⟨"TensorForge$Run", "tell", "(III)V"⟩, 10) := ⟨⟨by decide +kernel, by decide +kernel⟩, List.mem_of_getElem? (i := 231) (by decide +kernel), List.mem_of_getElem? (i := 726) (by decide +kernel), List.mem_of_getElem? (i := 727) (by decide +kernel)⟩
theorem lw_p18 : lw_okq (⟨"TensorForge$Run", "endUpTo", "(I)V"⟩, 10) := ⟨⟨by decide +kernel, by decide +kernel⟩, List.mem_of_getElem? (i := 231) (by decide +kernel), List.mem_of_getElem? (i := 730) (by decide +kernel), List.mem_of_getElem? (i := 731) (by decide +kernel)⟩
theorem lw_p19 : lw_okq (⟨"TensorForge$Run", "pushTokens", "(IJ)V"⟩, 10) := ⟨⟨by decide +kernel, by decide +kernel⟩, List.mem_of_getElem? (i := 231) (by decide +kernel), List.mem_of_getElem? (i := 734) (by decide +kernel), List.mem_of_getElem? (i := 735) (by decide +kernel)⟩
theorem lw_p20 : lw_okq (⟨"TensorForge$Run", "addTokens", "(II)V"⟩, 10) := ⟨⟨by decide +kernel, by decide +kernel⟩, List.mem_of_getElem? (i := 231) (by decide +kernel), List.mem_of_getElem? (i := 742) (by decide +kernel), List.mem_of_getElem? (i := 743) (by decide +kernel)⟩
theorem lw_p21 : lw_okq (⟨"TensorForge$Run", "beginAt", "(I)I"⟩, 10) := ⟨⟨by decide +kernel, by decide +kernel⟩, List.mem_of_getElem? (i := 231) (by decide +kernel), List.mem_of_getElem? (i := 749) (by decide +kernel), List.mem_of_getElem? (i := 750) (by decide +kernel)⟩
theorem lw_p22 : lw_okq (⟨"TensorForge$Run", "hasTokens", "(IJ)Z"⟩, 10) := ⟨⟨by decide +kernel, by decide +kernel⟩, List.mem_of_getElem? (i := 231) (by decide +kernel), List.mem_of_getElem? (i := 753) (by decide +kernel), List.mem_of_getElem? (i := 754) (by decide +kernel)⟩
theorem lw_p23 : lw_okq (⟨"TensorForge$Run", "tokens", "(I)I"⟩, 10) := ⟨⟨by decide +kernel, by decide +kernel⟩, List.mem_of_getElem? (i := 231) (by decide +kernel), List.mem_of_getElem? (i := 761) (by decide +kernel), List.mem_of_getElem? (i := 762) (by decide +kernel)⟩
theorem lw_p24 : lw_okq (⟨"TensorForge$Run", "races", "()Z"⟩, 10) := ⟨⟨by decide +kernel, by decide +kernel⟩, List.mem_of_getElem? (i := 231) (by decide +kernel), List.mem_of_getElem? (i := 769) (by decide +kernel), List.mem_of_getElem? (i := 770) (by decide +kernel)⟩
theorem lw_p25 : lw_okq (⟨"TensorForge$Run", "begin", "(III)V"⟩, 10) := ⟨⟨by decide +kernel, by decide +kernel⟩, List.mem_of_getElem? (i := 231) (by decide +kernel), List.mem_of_getElem? (i := 780) (by decide +kernel), List.mem_of_getElem? (i := 781) (by decide +kernel)⟩
theorem lw_p26 : lw_okq (⟨"TensorForge$Run", "popTokens", "(IJ)V"⟩, 10) := ⟨⟨by decide +kernel, by decide +kernel⟩, List.mem_of_getElem? (i := 231) (by decide +kernel), List.mem_of_getElem? (i := 787) (by decide +kernel), List.mem_of_getElem? (i := 788) (by decide +kernel)⟩
theorem lw_p27 : lw_okq (⟨"TensorForge$Machine", "decode", "(J)V"⟩, 14) := ⟨⟨by decide +kernel, by decide +kernel⟩, List.mem_of_getElem? (i := 155) (by decide +kernel), List.mem_of_getElem? (i := 795) (by decide +kernel), List.mem_of_getElem? (i := 796) (by decide +kernel)⟩
theorem lw_p28 : lw_okq (⟨"TensorForge$Machine", "loadBytes", "([B)V"⟩, 14) := ⟨⟨by decide +kernel, by decide +kernel⟩, List.mem_of_getElem? (i := 155) (by decide +kernel), List.mem_of_getElem? (i := 799) (by decide +kernel), List.mem_of_getElem? (i := 800) (by decide +kernel)⟩
theorem lw_p29 : lw_okq (⟨"TensorForge$Machine", "clearCells", "()V"⟩, 14) := ⟨⟨by decide +kernel, by decide +kernel⟩, List.mem_of_getElem? (i := 155) (by decide +kernel), List.mem_of_getElem? (i := 803) (by decide +kernel), List.mem_of_getElem? (i := 804) (by decide +kernel)⟩
theorem lw_p30 : lw_okq (⟨"TensorForge$Machine", "loadSums", "()V"⟩, 14) := ⟨⟨by decide +kernel, by decide +kernel⟩, List.mem_of_getElem? (i := 155) (by decide +kernel), List.mem_of_getElem? (i := 807) (by decide +kernel), List.mem_of_getElem? (i := 808) (by decide +kernel)⟩
theorem lw_p31 : lw_okq (⟨"TensorForge$Machine", "multiply", "()V"⟩, 14) := ⟨⟨by decide +kernel, by decide +kernel⟩, List.mem_of_getElem? (i := 155) (by decide +kernel), List.mem_of_getElem? (i := 814) (by decide +kernel), List.mem_of_getElem? (i := 815) (by decide +kernel)⟩
def lw_privs_2 : List (MethodName × Nat) := [(⟨"TensorForge$Run", "firstForbidden", "()I"⟩, 10), (⟨"TensorForge$Run", "tell", "(III)V"⟩, 10), (⟨"TensorForge$Run", "endUpTo", "(I)V"⟩, 10), (⟨"TensorForge$Run", "pushTokens", "(IJ)V"⟩, 10), (⟨"TensorForge$Run", "addTokens", "(II)V"⟩, 10), (⟨"TensorForge$Run", "beginAt", "(I)I"⟩, 10), (⟨"TensorForge$Run", "hasTokens", "(IJ)Z"⟩, 10), (⟨"TensorForge$Run", "tokens", "(I)I"⟩, 10), (⟨"TensorForge$Run", "races", "()Z"⟩, 10), (⟨"TensorForge$Run", "begin", "(III)V"⟩, 10), (⟨"TensorForge$Run", "popTokens", "(IJ)V"⟩, 10), (⟨"TensorForge$Machine", "decode", "(J)V"⟩, 14), (⟨"TensorForge$Machine", "loadBytes", "([B)V"⟩, 14), (⟨"TensorForge$Machine", "clearCells", "()V"⟩, 14), (⟨"TensorForge$Machine", "loadSums", "()V"⟩, 14), (⟨"TensorForge$Machine", "multiply", "()V"⟩, 14)]
theorem lw_r2 : ∀ q ∈ lw_privs_2, lw_okq q := List.forall_mem_cons.mpr ⟨lw_p16, List.forall_mem_cons.mpr ⟨lw_p17, List.forall_mem_cons.mpr ⟨lw_p18, List.forall_mem_cons.mpr ⟨lw_p19, List.forall_mem_cons.mpr ⟨lw_p20, List.forall_mem_cons.mpr ⟨lw_p21, List.forall_mem_cons.mpr ⟨lw_p22, List.forall_mem_cons.mpr ⟨lw_p23, List.forall_mem_cons.mpr ⟨lw_p24, List.forall_mem_cons.mpr ⟨lw_p25, List.forall_mem_cons.mpr ⟨lw_p26, List.forall_mem_cons.mpr ⟨lw_p27, List.forall_mem_cons.mpr ⟨lw_p28, List.forall_mem_cons.mpr ⟨lw_p29, List.forall_mem_cons.mpr ⟨lw_p30, List.forall_mem_cons.mpr ⟨lw_p31, fun _ h => absurd h List.not_mem_nil⟩⟩⟩⟩⟩⟩⟩⟩⟩⟩⟩⟩⟩⟩⟩⟩
theorem lw_p32 : lw_okq (⟨"TensorForge$Machine", "combine", "()V"⟩, 14) := ⟨⟨by decide +kernel, by decide +kernel⟩, List.mem_of_getElem? (i := 155) (by decide +kernel), List.mem_of_getElem? (i := 818) (by decide +kernel), List.mem_of_getElem? (i := 819) (by decide +kernel)⟩
theorem lw_p33 : lw_okq (⟨"TensorForge$Machine", "narrow", "()V"⟩, 14) := ⟨⟨by decide +kernel, by decide +kernel⟩, List.mem_of_getElem? (i := 155) (by decide +kernel), List.mem_of_getElem? (i := 823) (by decide +kernel), List.mem_of_getElem? (i := 824) (by decide +kernel)⟩
theorem lw_p34 : lw_okq (⟨"TensorForge$Machine", "store", "()V"⟩, 14) := ⟨⟨by decide +kernel, by decide +kernel⟩, List.mem_of_getElem? (i := 155) (by decide +kernel), List.mem_of_getElem? (i := 838) (by decide +kernel), List.mem_of_getElem? (i := 839) (by decide +kernel)⟩
theorem lw_p35 : lw_okq (⟨"TensorForge$Run", "soonestEnd", "()I"⟩, 10) := ⟨⟨by decide +kernel, by decide +kernel⟩, List.mem_of_getElem? (i := 231) (by decide +kernel), List.mem_of_getElem? (i := 842) (by decide +kernel), List.mem_of_getElem? (i := 843) (by decide +kernel)⟩
theorem lw_p36 : lw_okq (⟨"TensorForge$Run", "leastNext", "()I"⟩, 10) := ⟨⟨by decide +kernel, by decide +kernel⟩, List.mem_of_getElem? (i := 231) (by decide +kernel), List.mem_of_getElem? (i := 846) (by decide +kernel), List.mem_of_getElem? (i := 847) (by decide +kernel)⟩
theorem lw_p37 : lw_okq (⟨"TensorForge$Layer", "sumOf", "([BLTensorForge$Layer;LTensorForge$Layer;III)I"⟩, 15) := ⟨⟨by decide +kernel, by decide +kernel⟩, List.mem_of_getElem? (i := 44) (by decide +kernel), List.mem_of_getElem? (i := 871) (by decide +kernel), List.mem_of_getElem? (i := 872) (by decide +kernel)⟩
theorem lw_p38 : lw_okq (⟨"TensorForge$Layer", "convolved", "([BLTensorForge$Layer;III)I"⟩, 15) := ⟨⟨by decide +kernel, by decide +kernel⟩, List.mem_of_getElem? (i := 44) (by decide +kernel), List.mem_of_getElem? (i := 875) (by decide +kernel), List.mem_of_getElem? (i := 876) (by decide +kernel)⟩
theorem lw_p39 : lw_okq (⟨"TensorForge$Layer", "product", "([BLTensorForge$Layer;II)I"⟩, 15) := ⟨⟨by decide +kernel, by decide +kernel⟩, List.mem_of_getElem? (i := 44) (by decide +kernel), List.mem_of_getElem? (i := 892) (by decide +kernel), List.mem_of_getElem? (i := 893) (by decide +kernel)⟩
theorem lw_p40 : lw_okq (⟨"TensorForge$Layer", "greatest", "([BLTensorForge$Layer;III)I"⟩, 15) := ⟨⟨by decide +kernel, by decide +kernel⟩, List.mem_of_getElem? (i := 44) (by decide +kernel), List.mem_of_getElem? (i := 899) (by decide +kernel), List.mem_of_getElem? (i := 900) (by decide +kernel)⟩
theorem lw_p41 : lw_okq (⟨"TensorForge$NetworkReader", "readLayer", "()Z"⟩, 9) := ⟨⟨by decide +kernel, by decide +kernel⟩, List.mem_of_getElem? (i := 335) (by decide +kernel), List.mem_of_getElem? (i := 921) (by decide +kernel), List.mem_of_getElem? (i := 922) (by decide +kernel)⟩
theorem lw_p42 : lw_okq (⟨"TensorForge$NetworkReader", "readTensor", "()I"⟩, 9) := ⟨⟨by decide +kernel, by decide +kernel⟩, List.mem_of_getElem? (i := 335) (by decide +kernel), List.mem_of_getElem? (i := 929) (by decide +kernel), List.mem_of_getElem? (i := 930) (by decide +kernel)⟩
theorem lw_p43 : lw_okq (⟨"TensorForge$NetworkReader", "tensorNamed", "()I"⟩, 9) := ⟨⟨by decide +kernel, by decide +kernel⟩, List.mem_of_getElem? (i := 335) (by decide +kernel), List.mem_of_getElem? (i := 933) (by decide +kernel), List.mem_of_getElem? (i := 934) (by decide +kernel)⟩
theorem lw_p44 : lw_okq (⟨"TensorForge$NetworkReader", "readOptions", "()Z"⟩, 9) := ⟨⟨by decide +kernel, by decide +kernel⟩, List.mem_of_getElem? (i := 335) (by decide +kernel), List.mem_of_getElem? (i := 946) (by decide +kernel), List.mem_of_getElem? (i := 947) (by decide +kernel)⟩
theorem lw_p45 : lw_okq (⟨"TensorForge$NetworkReader", "optionTold", "()I"⟩, 9) := ⟨⟨by decide +kernel, by decide +kernel⟩, List.mem_of_getElem? (i := 335) (by decide +kernel), List.mem_of_getElem? (i := 950) (by decide +kernel), List.mem_of_getElem? (i := 951) (by decide +kernel)⟩
theorem lw_p46 : lw_okq (⟨"TensorForge$NetworkReader", "readOption", "(I)Z"⟩, 9) := ⟨⟨by decide +kernel, by decide +kernel⟩, List.mem_of_getElem? (i := 335) (by decide +kernel), List.mem_of_getElem? (i := 962) (by decide +kernel), List.mem_of_getElem? (i := 963) (by decide +kernel)⟩
theorem lw_p47 : lw_okq (⟨"TensorForge$NetworkReader", "readName", "()Z"⟩, 9) := ⟨⟨by decide +kernel, by decide +kernel⟩, List.mem_of_getElem? (i := 335) (by decide +kernel), List.mem_of_getElem? (i := 966) (by decide +kernel), List.mem_of_getElem? (i := 967) (by decide +kernel)⟩
def lw_privs_3 : List (MethodName × Nat) := [(⟨"TensorForge$Machine", "combine", "()V"⟩, 14), (⟨"TensorForge$Machine", "narrow", "()V"⟩, 14), (⟨"TensorForge$Machine", "store", "()V"⟩, 14), (⟨"TensorForge$Run", "soonestEnd", "()I"⟩, 10), (⟨"TensorForge$Run", "leastNext", "()I"⟩, 10), (⟨"TensorForge$Layer", "sumOf", "([BLTensorForge$Layer;LTensorForge$Layer;III)I"⟩, 15), (⟨"TensorForge$Layer", "convolved", "([BLTensorForge$Layer;III)I"⟩, 15), (⟨"TensorForge$Layer", "product", "([BLTensorForge$Layer;II)I"⟩, 15), (⟨"TensorForge$Layer", "greatest", "([BLTensorForge$Layer;III)I"⟩, 15), (⟨"TensorForge$NetworkReader", "readLayer", "()Z"⟩, 9), (⟨"TensorForge$NetworkReader", "readTensor", "()I"⟩, 9), (⟨"TensorForge$NetworkReader", "tensorNamed", "()I"⟩, 9), (⟨"TensorForge$NetworkReader", "readOptions", "()Z"⟩, 9), (⟨"TensorForge$NetworkReader", "optionTold", "()I"⟩, 9), (⟨"TensorForge$NetworkReader", "readOption", "(I)Z"⟩, 9), (⟨"TensorForge$NetworkReader", "readName", "()Z"⟩, 9)]
theorem lw_r3 : ∀ q ∈ lw_privs_3, lw_okq q := List.forall_mem_cons.mpr ⟨lw_p32, List.forall_mem_cons.mpr ⟨lw_p33, List.forall_mem_cons.mpr ⟨lw_p34, List.forall_mem_cons.mpr ⟨lw_p35, List.forall_mem_cons.mpr ⟨lw_p36, List.forall_mem_cons.mpr ⟨lw_p37, List.forall_mem_cons.mpr ⟨lw_p38, List.forall_mem_cons.mpr ⟨lw_p39, List.forall_mem_cons.mpr ⟨lw_p40, List.forall_mem_cons.mpr ⟨lw_p41, List.forall_mem_cons.mpr ⟨lw_p42, List.forall_mem_cons.mpr ⟨lw_p43, List.forall_mem_cons.mpr ⟨lw_p44, List.forall_mem_cons.mpr ⟨lw_p45, List.forall_mem_cons.mpr ⟨lw_p46, List.forall_mem_cons.mpr ⟨lw_p47, fun _ h => absurd h List.not_mem_nil⟩⟩⟩⟩⟩⟩⟩⟩⟩⟩⟩⟩⟩⟩⟩⟩
theorem lw_p48 : lw_okq (⟨"TensorForge$NetworkReader", "beginsLineOrIsX", "()Z"⟩, 9) := ⟨⟨by decide +kernel, by decide +kernel⟩, List.mem_of_getElem? (i := 335) (by decide +kernel), List.mem_of_getElem? (i := 974) (by decide +kernel), List.mem_of_getElem? (i := 975) (by decide +kernel)⟩
theorem lw_p49 : lw_okq (⟨"TensorForge$NetworkReader", "readKernelFrom", "(ILTensorForge$Layer;)Z"⟩, 9) := ⟨⟨by decide +kernel, by decide +kernel⟩, List.mem_of_getElem? (i := 335) (by decide +kernel), List.mem_of_getElem? (i := 981) (by decide +kernel), List.mem_of_getElem? (i := 982) (by decide +kernel)⟩
theorem lw_p50 : lw_okq (⟨"TensorForge$Layer", "parametersSize", "(LTensorForge$Layer;)I"⟩, 15) := ⟨⟨by decide +kernel, by decide +kernel⟩, List.mem_of_getElem? (i := 44) (by decide +kernel), List.mem_of_getElem? (i := 1006) (by decide +kernel), List.mem_of_getElem? (i := 1007) (by decide +kernel)⟩
theorem lw_p51 : lw_okq (⟨"TensorForge$NetworkReader", "readInput", "()Z"⟩, 9) := ⟨⟨by decide +kernel, by decide +kernel⟩, List.mem_of_getElem? (i := 335) (by decide +kernel), List.mem_of_getElem? (i := 1019) (by decide +kernel), List.mem_of_getElem? (i := 1020) (by decide +kernel)⟩
theorem lw_p52 : lw_okq (⟨"TensorForge$NetworkReader", "keepName", "(I)V"⟩, 9) := ⟨⟨by decide +kernel, by decide +kernel⟩, List.mem_of_getElem? (i := 335) (by decide +kernel), List.mem_of_getElem? (i := 1037) (by decide +kernel), List.mem_of_getElem? (i := 1038) (by decide +kernel)⟩
theorem lw_p53 : lw_okq (⟨"java/lang/Throwable", "fillInStackTrace", "(I)Ljava/lang/Throwable;"⟩, 6) := ⟨⟨by decide +kernel, by decide +kernel⟩, List.mem_of_getElem? (i := 1088) (by decide +kernel), List.mem_of_getElem? (i := 1086) (by decide +kernel), List.mem_of_getElem? (i := 1087) (by decide +kernel)⟩
theorem lw_p54 : lw_okq (⟨"TensorForge$Line", "addToken", "(Ljava/lang/String;)V"⟩, 2) := ⟨⟨by decide +kernel, by decide +kernel⟩, List.mem_of_getElem? (i := 428) (by decide +kernel), List.mem_of_getElem? (i := 1259) (by decide +kernel), List.mem_of_getElem? (i := 1260) (by decide +kernel)⟩
theorem lw_p55 : lw_okq (⟨"TensorForge$Line", "addSign", "(C)V"⟩, 2) := ⟨⟨by decide +kernel, by decide +kernel⟩, List.mem_of_getElem? (i := 428) (by decide +kernel), List.mem_of_getElem? (i := 1263) (by decide +kernel), List.mem_of_getElem? (i := 1264) (by decide +kernel)⟩
theorem lw_p56 : lw_okq (⟨"TensorForge$Line", "addUnlessNothing", "(Ljava/lang/String;JI)V"⟩, 2) := ⟨⟨by decide +kernel, by decide +kernel⟩, List.mem_of_getElem? (i := 428) (by decide +kernel), List.mem_of_getElem? (i := 1270) (by decide +kernel), List.mem_of_getElem? (i := 1271) (by decide +kernel)⟩
theorem lw_p57 : lw_okq (⟨"TensorForge$Line", "addNumbered", "(Ljava/lang/String;I)V"⟩, 2) := ⟨⟨by decide +kernel, by decide +kernel⟩, List.mem_of_getElem? (i := 428) (by decide +kernel), List.mem_of_getElem? (i := 1275) (by decide +kernel), List.mem_of_getElem? (i := 1276) (by decide +kernel)⟩
theorem lw_p58 : lw_okq (⟨"TensorForge$Line", "addNumber", "(I)V"⟩, 2) := ⟨⟨by decide +kernel, by decide +kernel⟩, List.mem_of_getElem? (i := 428) (by decide +kernel), List.mem_of_getElem? (i := 1279) (by decide +kernel), List.mem_of_getElem? (i := 1280) (by decide +kernel)⟩
theorem lw_p59 : lw_okq (⟨"TensorForge$Line", "addPair", "(Ljava/lang/String;II)V"⟩, 2) := ⟨⟨by decide +kernel, by decide +kernel⟩, List.mem_of_getElem? (i := 428) (by decide +kernel), List.mem_of_getElem? (i := 1284) (by decide +kernel), List.mem_of_getElem? (i := 1285) (by decide +kernel)⟩
theorem lw_p60 : lw_okq (⟨"TensorForge$Line", "addIf", "(ZLjava/lang/String;)V"⟩, 2) := ⟨⟨by decide +kernel, by decide +kernel⟩, List.mem_of_getElem? (i := 428) (by decide +kernel), List.mem_of_getElem? (i := 1294) (by decide +kernel), List.mem_of_getElem? (i := 1295) (by decide +kernel)⟩
theorem lw_p61 : lw_okq (⟨"TensorForge", "needRun", "()V"⟩, 12) := ⟨⟨by decide +kernel, by decide +kernel⟩, List.mem_of_getElem? (i := 29) (by decide +kernel), List.mem_of_getElem? (i := 1321) (by decide +kernel), List.mem_of_getElem? (i := 1322) (by decide +kernel)⟩
theorem lw_p62 : lw_okq (⟨"TensorForge", "added", "()I"⟩, 12) := ⟨⟨by decide +kernel, by decide +kernel⟩, List.mem_of_getElem? (i := 29) (by decide +kernel), List.mem_of_getElem? (i := 1368) (by decide +kernel), List.mem_of_getElem? (i := 1369) (by decide +kernel)⟩
theorem lw_p63 : lw_okq (⟨"TensorForge$Compiler", "makeTile", "()V"⟩, 17) := ⟨⟨by decide +kernel, by decide +kernel⟩, List.mem_of_getElem? (i := 369) (by decide +kernel), List.mem_of_getElem? (i := 1417) (by decide +kernel), List.mem_of_getElem? (i := 1418) (by decide +kernel)⟩
def lw_privs_4 : List (MethodName × Nat) := [(⟨"TensorForge$NetworkReader", "beginsLineOrIsX", "()Z"⟩, 9), (⟨"TensorForge$NetworkReader", "readKernelFrom", "(ILTensorForge$Layer;)Z"⟩, 9), (⟨"TensorForge$Layer", "parametersSize", "(LTensorForge$Layer;)I"⟩, 15), (⟨"TensorForge$NetworkReader", "readInput", "()Z"⟩, 9), (⟨"TensorForge$NetworkReader", "keepName", "(I)V"⟩, 9), (⟨"java/lang/Throwable", "fillInStackTrace", "(I)Ljava/lang/Throwable;"⟩, 6), (⟨"TensorForge$Line", "addToken", "(Ljava/lang/String;)V"⟩, 2), (⟨"TensorForge$Line", "addSign", "(C)V"⟩, 2), (⟨"TensorForge$Line", "addUnlessNothing", "(Ljava/lang/String;JI)V"⟩, 2), (⟨"TensorForge$Line", "addNumbered", "(Ljava/lang/String;I)V"⟩, 2), (⟨"TensorForge$Line", "addNumber", "(I)V"⟩, 2), (⟨"TensorForge$Line", "addPair", "(Ljava/lang/String;II)V"⟩, 2), (⟨"TensorForge$Line", "addIf", "(ZLjava/lang/String;)V"⟩, 2), (⟨"TensorForge", "needRun", "()V"⟩, 12), (⟨"TensorForge", "added", "()I"⟩, 12), (⟨"TensorForge$Compiler", "makeTile", "()V"⟩, 17)]
theorem lw_r4 : ∀ q ∈ lw_privs_4, lw_okq q := List.forall_mem_cons.mpr ⟨lw_p48, List.forall_mem_cons.mpr ⟨lw_p49, List.forall_mem_cons.mpr ⟨lw_p50, List.forall_mem_cons.mpr ⟨lw_p51, List.forall_mem_cons.mpr ⟨lw_p52, List.forall_mem_cons.mpr ⟨lw_p53, List.forall_mem_cons.mpr ⟨lw_p54, List.forall_mem_cons.mpr ⟨lw_p55, List.forall_mem_cons.mpr ⟨lw_p56, List.forall_mem_cons.mpr ⟨lw_p57, List.forall_mem_cons.mpr ⟨lw_p58, List.forall_mem_cons.mpr ⟨lw_p59, List.forall_mem_cons.mpr ⟨lw_p60, List.forall_mem_cons.mpr ⟨lw_p61, List.forall_mem_cons.mpr ⟨lw_p62, List.forall_mem_cons.mpr ⟨lw_p63, fun _ h => absurd h List.not_mem_nil⟩⟩⟩⟩⟩⟩⟩⟩⟩⟩⟩⟩⟩⟩⟩⟩
theorem lw_p64 : lw_okq (⟨"TensorForge$Compiler", "makeGroup", "(ZZ)V"⟩, 17) := ⟨⟨by decide +kernel, by decide +kernel⟩, List.mem_of_getElem? (i := 369) (by decide +kernel), List.mem_of_getElem? (i := 1421) (by decide +kernel), List.mem_of_getElem? (i := 1422) (by decide +kernel)⟩
theorem lw_p65 : lw_okq (⟨"TensorForge$Compiler", "loadParameters", "(Z)V"⟩, 17) := ⟨⟨by decide +kernel, by decide +kernel⟩, List.mem_of_getElem? (i := 369) (by decide +kernel), List.mem_of_getElem? (i := 1425) (by decide +kernel), List.mem_of_getElem? (i := 1426) (by decide +kernel)⟩
theorem lw_p66 : lw_okq (⟨"TensorForge$Compiler", "tileHalf", "()I"⟩, 17) := ⟨⟨by decide +kernel, by decide +kernel⟩, List.mem_of_getElem? (i := 369) (by decide +kernel), List.mem_of_getElem? (i := 1432) (by decide +kernel), List.mem_of_getElem? (i := 1433) (by decide +kernel)⟩
theorem lw_p67 : lw_okq (⟨"TensorForge$Compiler", "emit", "(J)V"⟩, 17) := ⟨⟨by decide +kernel, by decide +kernel⟩, List.mem_of_getElem? (i := 369) (by decide +kernel), List.mem_of_getElem? (i := 1438) (by decide +kernel), List.mem_of_getElem? (i := 1439) (by decide +kernel)⟩
theorem lw_p68 : lw_okq (⟨"TensorForge$Compiler", "groupHalf", "()I"⟩, 17) := ⟨⟨by decide +kernel, by decide +kernel⟩, List.mem_of_getElem? (i := 369) (by decide +kernel), List.mem_of_getElem? (i := 1442) (by decide +kernel), List.mem_of_getElem? (i := 1443) (by decide +kernel)⟩
theorem lw_p69 : lw_okq (⟨"TensorForge$Compiler", "loadMet", "(I)V"⟩, 17) := ⟨⟨by decide +kernel, by decide +kernel⟩, List.mem_of_getElem? (i := 369) (by decide +kernel), List.mem_of_getElem? (i := 1447) (by decide +kernel), List.mem_of_getElem? (i := 1448) (by decide +kernel)⟩
theorem lw_p70 : lw_okq (⟨"TensorForge$Compiler", "clearPlaces", "(II)V"⟩, 17) := ⟨⟨by decide +kernel, by decide +kernel⟩, List.mem_of_getElem? (i := 369) (by decide +kernel), List.mem_of_getElem? (i := 1451) (by decide +kernel), List.mem_of_getElem? (i := 1452) (by decide +kernel)⟩
theorem lw_p71 : lw_okq (⟨"TensorForge$Compiler", "metColumn", "(I)I"⟩, 17) := ⟨⟨by decide +kernel, by decide +kernel⟩, List.mem_of_getElem? (i := 369) (by decide +kernel), List.mem_of_getElem? (i := 1455) (by decide +kernel), List.mem_of_getElem? (i := 1456) (by decide +kernel)⟩
theorem lw_p72 : lw_okq (⟨"TensorForge$Compiler", "loadPlaces", "(IIII)V"⟩, 17) := ⟨⟨by decide +kernel, by decide +kernel⟩, List.mem_of_getElem? (i := 369) (by decide +kernel), List.mem_of_getElem? (i := 1460) (by decide +kernel), List.mem_of_getElem? (i := 1461) (by decide +kernel)⟩
theorem lw_p73 : lw_okq (⟨"TensorForge$Compiler", "mark", "(II)V"⟩, 17) := ⟨⟨by decide +kernel, by decide +kernel⟩, List.mem_of_getElem? (i := 369) (by decide +kernel), List.mem_of_getElem? (i := 1464) (by decide +kernel), List.mem_of_getElem? (i := 1465) (by decide +kernel)⟩
theorem lw_p74 : lw_okq (⟨"TensorForge$Compiler", "workOf", "(Z)J"⟩, 17) := ⟨⟨by decide +kernel, by decide +kernel⟩, List.mem_of_getElem? (i := 369) (by decide +kernel), List.mem_of_getElem? (i := 1472) (by decide +kernel), List.mem_of_getElem? (i := 1473) (by decide +kernel)⟩
theorem lw_p75 : lw_okq (⟨"TensorForge$Compiler", "makeWaits", "()V"⟩, 17) := ⟨⟨by decide +kernel, by decide +kernel⟩, List.mem_of_getElem? (i := 369) (by decide +kernel), List.mem_of_getElem? (i := 1477) (by decide +kernel), List.mem_of_getElem? (i := 1478) (by decide +kernel)⟩
theorem lw_p76 : lw_okq (⟨"TensorForge$Line", "addOptions", "(LTensorForge$Layer;)V"⟩, 2) := ⟨⟨by decide +kernel, by decide +kernel⟩, List.mem_of_getElem? (i := 428) (by decide +kernel), List.mem_of_getElem? (i := 1499) (by decide +kernel), List.mem_of_getElem? (i := 1500) (by decide +kernel)⟩
theorem lw_p77 : lw_okq (⟨"TensorForge$Network", "leastSpot", "(I)I"⟩, 2) := ⟨⟨by decide +kernel, by decide +kernel⟩, List.mem_of_getElem? (i := 37) (by decide +kernel), List.mem_of_getElem? (i := 1517) (by decide +kernel), List.mem_of_getElem? (i := 1518) (by decide +kernel)⟩
theorem lw_p78 : lw_okq (⟨"TensorForge$Network", "isNeeded", "(II)Z"⟩, 2) := ⟨⟨by decide +kernel, by decide +kernel⟩, List.mem_of_getElem? (i := 37) (by decide +kernel), List.mem_of_getElem? (i := 1521) (by decide +kernel), List.mem_of_getElem? (i := 1522) (by decide +kernel)⟩
theorem lw_p79 : lw_okq (⟨"TensorForge", "needUnitAndCycle", "(II)V"⟩, 12) := ⟨⟨by decide +kernel, by decide +kernel⟩, List.mem_of_getElem? (i := 29) (by decide +kernel), List.mem_of_getElem? (i := 1542) (by decide +kernel), List.mem_of_getElem? (i := 1543) (by decide +kernel)⟩
def lw_privs_5 : List (MethodName × Nat) := [(⟨"TensorForge$Compiler", "makeGroup", "(ZZ)V"⟩, 17), (⟨"TensorForge$Compiler", "loadParameters", "(Z)V"⟩, 17), (⟨"TensorForge$Compiler", "tileHalf", "()I"⟩, 17), (⟨"TensorForge$Compiler", "emit", "(J)V"⟩, 17), (⟨"TensorForge$Compiler", "groupHalf", "()I"⟩, 17), (⟨"TensorForge$Compiler", "loadMet", "(I)V"⟩, 17), (⟨"TensorForge$Compiler", "clearPlaces", "(II)V"⟩, 17), (⟨"TensorForge$Compiler", "metColumn", "(I)I"⟩, 17), (⟨"TensorForge$Compiler", "loadPlaces", "(IIII)V"⟩, 17), (⟨"TensorForge$Compiler", "mark", "(II)V"⟩, 17), (⟨"TensorForge$Compiler", "workOf", "(Z)J"⟩, 17), (⟨"TensorForge$Compiler", "makeWaits", "()V"⟩, 17), (⟨"TensorForge$Line", "addOptions", "(LTensorForge$Layer;)V"⟩, 2), (⟨"TensorForge$Network", "leastSpot", "(I)I"⟩, 2), (⟨"TensorForge$Network", "isNeeded", "(II)Z"⟩, 2), (⟨"TensorForge", "needUnitAndCycle", "(II)V"⟩, 12)]
theorem lw_r5 : ∀ q ∈ lw_privs_5, lw_okq q := List.forall_mem_cons.mpr ⟨lw_p64, List.forall_mem_cons.mpr ⟨lw_p65, List.forall_mem_cons.mpr ⟨lw_p66, List.forall_mem_cons.mpr ⟨lw_p67, List.forall_mem_cons.mpr ⟨lw_p68, List.forall_mem_cons.mpr ⟨lw_p69, List.forall_mem_cons.mpr ⟨lw_p70, List.forall_mem_cons.mpr ⟨lw_p71, List.forall_mem_cons.mpr ⟨lw_p72, List.forall_mem_cons.mpr ⟨lw_p73, List.forall_mem_cons.mpr ⟨lw_p74, List.forall_mem_cons.mpr ⟨lw_p75, List.forall_mem_cons.mpr ⟨lw_p76, List.forall_mem_cons.mpr ⟨lw_p77, List.forall_mem_cons.mpr ⟨lw_p78, List.forall_mem_cons.mpr ⟨lw_p79, fun _ h => absurd h List.not_mem_nil⟩⟩⟩⟩⟩⟩⟩⟩⟩⟩⟩⟩⟩⟩⟩⟩
theorem lw_p80 : lw_okq (⟨"TensorForge$Run", "hadBegun", "(II)Z"⟩, 10) := ⟨⟨by decide +kernel, by decide +kernel⟩, List.mem_of_getElem? (i := 231) (by decide +kernel), List.mem_of_getElem? (i := 1551) (by decide +kernel), List.mem_of_getElem? (i := 1552) (by decide +kernel)⟩
theorem lw_p81 : lw_okq (⟨"TensorForge$Run", "hadEnded", "(II)Z"⟩, 10) := ⟨⟨by decide +kernel, by decide +kernel⟩, List.mem_of_getElem? (i := 231) (by decide +kernel), List.mem_of_getElem? (i := 1555) (by decide +kernel), List.mem_of_getElem? (i := 1556) (by decide +kernel)⟩
theorem lw_p82 : lw_okq (⟨"TensorForge$Run", "firstNotBegun", "(II)I"⟩, 10) := ⟨⟨by decide +kernel, by decide +kernel⟩, List.mem_of_getElem? (i := 231) (by decide +kernel), List.mem_of_getElem? (i := 1570) (by decide +kernel), List.mem_of_getElem? (i := 1571) (by decide +kernel)⟩
theorem lw_p83 : lw_okq (⟨"TensorForge$Run", "pushesUpTo", "(III)I"⟩, 10) := ⟨⟨by decide +kernel, by decide +kernel⟩, List.mem_of_getElem? (i := 231) (by decide +kernel), List.mem_of_getElem? (i := 1575) (by decide +kernel), List.mem_of_getElem? (i := 1576) (by decide +kernel)⟩
theorem lw_p84 : lw_okq (⟨"TensorForge$Run", "popsUpTo", "(III)I"⟩, 10) := ⟨⟨by decide +kernel, by decide +kernel⟩, List.mem_of_getElem? (i := 231) (by decide +kernel), List.mem_of_getElem? (i := 1579) (by decide +kernel), List.mem_of_getElem? (i := 1580) (by decide +kernel)⟩
theorem lw_p85 : lw_okq (⟨"TensorForgeModel", "form", "(III)V"⟩, 69) := ⟨⟨by decide +kernel, by decide +kernel⟩, List.mem_of_getElem? (i := 1583) (by decide +kernel), List.mem_of_getElem? (i := 1608) (by decide +kernel), List.mem_of_getElem? (i := 1609) (by decide +kernel)⟩
theorem lw_p86 : lw_okq (⟨"TensorForgeModel", "refuse", "(ZZZ)Z"⟩, 69) := ⟨⟨by decide +kernel, by decide +kernel⟩, List.mem_of_getElem? (i := 1583) (by decide +kernel), List.mem_of_getElem? (i := 1833) (by decide +kernel), List.mem_of_getElem? (i := 1834) (by decide +kernel)⟩
theorem lw_p87 : lw_okq (⟨"TensorForgeModel", "sizeOf", "(I)I"⟩, 69) := ⟨⟨by decide +kernel, by decide +kernel⟩, List.mem_of_getElem? (i := 1583) (by decide +kernel), List.mem_of_getElem? (i := 1837) (by decide +kernel), List.mem_of_getElem? (i := 1838) (by decide +kernel)⟩
theorem lw_p88 : lw_okq (⟨"TensorForgeModel", "isIllegal", "(J)Z"⟩, 69) := ⟨⟨by decide +kernel, by decide +kernel⟩, List.mem_of_getElem? (i := 1583) (by decide +kernel), List.mem_of_getElem? (i := 1888) (by decide +kernel), List.mem_of_getElem? (i := 1889) (by decide +kernel)⟩
theorem lw_p89 : lw_okq (⟨"TensorForgeModel", "take", "(J)V"⟩, 69) := ⟨⟨by decide +kernel, by decide +kernel⟩, List.mem_of_getElem? (i := 1583) (by decide +kernel), List.mem_of_getElem? (i := 1892) (by decide +kernel), List.mem_of_getElem? (i := 1893) (by decide +kernel)⟩
theorem lw_p90 : lw_okq (⟨"TensorForgeModel", "unit", "()I"⟩, 69) := ⟨⟨by decide +kernel, by decide +kernel⟩, List.mem_of_getElem? (i := 1583) (by decide +kernel), List.mem_of_getElem? (i := 1900) (by decide +kernel), List.mem_of_getElem? (i := 1901) (by decide +kernel)⟩
theorem lw_p91 : lw_okq (⟨"TensorForgeModel", "reaches", "()V"⟩, 69) := ⟨⟨by decide +kernel, by decide +kernel⟩, List.mem_of_getElem? (i := 1583) (by decide +kernel), List.mem_of_getElem? (i := 1904) (by decide +kernel), List.mem_of_getElem? (i := 1905) (by decide +kernel)⟩
theorem lw_p92 : lw_okq (⟨"TensorForgeModel", "reach", "([IIII)V"⟩, 69) := ⟨⟨by decide +kernel, by decide +kernel⟩, List.mem_of_getElem? (i := 1583) (by decide +kernel), List.mem_of_getElem? (i := 1908) (by decide +kernel), List.mem_of_getElem? (i := 1909) (by decide +kernel)⟩
theorem lw_p93 : lw_okq (⟨"TensorForgeModel", "rowsEnd", "(II)I"⟩, 69) := ⟨⟨by decide +kernel, by decide +kernel⟩, List.mem_of_getElem? (i := 1583) (by decide +kernel), List.mem_of_getElem? (i := 1912) (by decide +kernel), List.mem_of_getElem? (i := 1913) (by decide +kernel)⟩
theorem lw_p94 : lw_okq (⟨"TensorForgeModel", "firstIllegal", "()I"⟩, 69) := ⟨⟨by decide +kernel, by decide +kernel⟩, List.mem_of_getElem? (i := 1583) (by decide +kernel), List.mem_of_getElem? (i := 1920) (by decide +kernel), List.mem_of_getElem? (i := 1921) (by decide +kernel)⟩
theorem lw_p95 : lw_okq (⟨"TensorForgeModel", "startRun", "()V"⟩, 69) := ⟨⟨by decide +kernel, by decide +kernel⟩, List.mem_of_getElem? (i := 1583) (by decide +kernel), List.mem_of_getElem? (i := 1924) (by decide +kernel), List.mem_of_getElem? (i := 1925) (by decide +kernel)⟩
def lw_privs_6 : List (MethodName × Nat) := [(⟨"TensorForge$Run", "hadBegun", "(II)Z"⟩, 10), (⟨"TensorForge$Run", "hadEnded", "(II)Z"⟩, 10), (⟨"TensorForge$Run", "firstNotBegun", "(II)I"⟩, 10), (⟨"TensorForge$Run", "pushesUpTo", "(III)I"⟩, 10), (⟨"TensorForge$Run", "popsUpTo", "(III)I"⟩, 10), (⟨"TensorForgeModel", "form", "(III)V"⟩, 69), (⟨"TensorForgeModel", "refuse", "(ZZZ)Z"⟩, 69), (⟨"TensorForgeModel", "sizeOf", "(I)I"⟩, 69), (⟨"TensorForgeModel", "isIllegal", "(J)Z"⟩, 69), (⟨"TensorForgeModel", "take", "(J)V"⟩, 69), (⟨"TensorForgeModel", "unit", "()I"⟩, 69), (⟨"TensorForgeModel", "reaches", "()V"⟩, 69), (⟨"TensorForgeModel", "reach", "([IIII)V"⟩, 69), (⟨"TensorForgeModel", "rowsEnd", "(II)I"⟩, 69), (⟨"TensorForgeModel", "firstIllegal", "()I"⟩, 69), (⟨"TensorForgeModel", "startRun", "()V"⟩, 69)]
theorem lw_r6 : ∀ q ∈ lw_privs_6, lw_okq q := List.forall_mem_cons.mpr ⟨lw_p80, List.forall_mem_cons.mpr ⟨lw_p81, List.forall_mem_cons.mpr ⟨lw_p82, List.forall_mem_cons.mpr ⟨lw_p83, List.forall_mem_cons.mpr ⟨lw_p84, List.forall_mem_cons.mpr ⟨lw_p85, List.forall_mem_cons.mpr ⟨lw_p86, List.forall_mem_cons.mpr ⟨lw_p87, List.forall_mem_cons.mpr ⟨lw_p88, List.forall_mem_cons.mpr ⟨lw_p89, List.forall_mem_cons.mpr ⟨lw_p90, List.forall_mem_cons.mpr ⟨lw_p91, List.forall_mem_cons.mpr ⟨lw_p92, List.forall_mem_cons.mpr ⟨lw_p93, List.forall_mem_cons.mpr ⟨lw_p94, List.forall_mem_cons.mpr ⟨lw_p95, fun _ h => absurd h List.not_mem_nil⟩⟩⟩⟩⟩⟩⟩⟩⟩⟩⟩⟩⟩⟩⟩⟩
theorem lw_p96 : lw_okq (⟨"TensorForgeModel", "findNext", "(I)V"⟩, 69) := ⟨⟨by decide +kernel, by decide +kernel⟩, List.mem_of_getElem? (i := 1583) (by decide +kernel), List.mem_of_getElem? (i := 1928) (by decide +kernel), List.mem_of_getElem? (i := 1929) (by decide +kernel)⟩
theorem lw_p97 : lw_okq (⟨"TensorForgeModel", "stop", "(III)I"⟩, 69) := ⟨⟨by decide +kernel, by decide +kernel⟩, List.mem_of_getElem? (i := 1583) (by decide +kernel), List.mem_of_getElem? (i := 1932) (by decide +kernel), List.mem_of_getElem? (i := 1933) (by decide +kernel)⟩
theorem lw_p98 : lw_okq (⟨"TensorForgeModel", "cycle", "(I)I"⟩, 69) := ⟨⟨by decide +kernel, by decide +kernel⟩, List.mem_of_getElem? (i := 1583) (by decide +kernel), List.mem_of_getElem? (i := 1936) (by decide +kernel), List.mem_of_getElem? (i := 1937) (by decide +kernel)⟩
theorem lw_p99 : lw_okq (⟨"TensorForgeModel", "pushAll", "(I)V"⟩, 69) := ⟨⟨by decide +kernel, by decide +kernel⟩, List.mem_of_getElem? (i := 1583) (by decide +kernel), List.mem_of_getElem? (i := 1940) (by decide +kernel), List.mem_of_getElem? (i := 1941) (by decide +kernel)⟩
theorem lw_p100 : lw_okq (⟨"TensorForgeModel", "isBusy", "(II)Z"⟩, 69) := ⟨⟨by decide +kernel, by decide +kernel⟩, List.mem_of_getElem? (i := 1583) (by decide +kernel), List.mem_of_getElem? (i := 1947) (by decide +kernel), List.mem_of_getElem? (i := 1948) (by decide +kernel)⟩
theorem lw_p101 : lw_okq (⟨"TensorForgeModel", "hasTokens", "(I)Z"⟩, 69) := ⟨⟨by decide +kernel, by decide +kernel⟩, List.mem_of_getElem? (i := 1583) (by decide +kernel), List.mem_of_getElem? (i := 1951) (by decide +kernel), List.mem_of_getElem? (i := 1952) (by decide +kernel)⟩
theorem lw_p102 : lw_okq (⟨"TensorForgeModel", "races", "(II)Z"⟩, 69) := ⟨⟨by decide +kernel, by decide +kernel⟩, List.mem_of_getElem? (i := 1583) (by decide +kernel), List.mem_of_getElem? (i := 1958) (by decide +kernel), List.mem_of_getElem? (i := 1959) (by decide +kernel)⟩
theorem lw_p103 : lw_okq (⟨"TensorForgeModel", "beginNext", "(II)V"⟩, 69) := ⟨⟨by decide +kernel, by decide +kernel⟩, List.mem_of_getElem? (i := 1583) (by decide +kernel), List.mem_of_getElem? (i := 1965) (by decide +kernel), List.mem_of_getElem? (i := 1966) (by decide +kernel)⟩
theorem lw_p104 : lw_okq (⟨"TensorForgeModel", "cycles", "()I"⟩, 69) := ⟨⟨by decide +kernel, by decide +kernel⟩, List.mem_of_getElem? (i := 1583) (by decide +kernel), List.mem_of_getElem? (i := 1969) (by decide +kernel), List.mem_of_getElem? (i := 1970) (by decide +kernel)⟩
theorem lw_p105 : lw_okq (⟨"TensorForgeModel", "doWord", "()V"⟩, 69) := ⟨⟨by decide +kernel, by decide +kernel⟩, List.mem_of_getElem? (i := 1583) (by decide +kernel), List.mem_of_getElem? (i := 1973) (by decide +kernel), List.mem_of_getElem? (i := 1974) (by decide +kernel)⟩
theorem lw_p106 : lw_okq (⟨"TensorForgeModel", "doPlace", "(II)V"⟩, 69) := ⟨⟨by decide +kernel, by decide +kernel⟩, List.mem_of_getElem? (i := 1583) (by decide +kernel), List.mem_of_getElem? (i := 1977) (by decide +kernel), List.mem_of_getElem? (i := 1978) (by decide +kernel)⟩
theorem lw_p107 : lw_okq (⟨"TensorForgeModel", "intAt", "(I)I"⟩, 69) := ⟨⟨by decide +kernel, by decide +kernel⟩, List.mem_of_getElem? (i := 1583) (by decide +kernel), List.mem_of_getElem? (i := 1981) (by decide +kernel), List.mem_of_getElem? (i := 1982) (by decide +kernel)⟩
theorem lw_p108 : lw_okq (⟨"TensorForgeModel", "readLine", "()I"⟩, 69) := ⟨⟨by decide +kernel, by decide +kernel⟩, List.mem_of_getElem? (i := 1583) (by decide +kernel), List.mem_of_getElem? (i := 2012) (by decide +kernel), List.mem_of_getElem? (i := 2013) (by decide +kernel)⟩
theorem lw_p109 : lw_okq (⟨"TensorForgeModel", "advance", "()V"⟩, 69) := ⟨⟨by decide +kernel, by decide +kernel⟩, List.mem_of_getElem? (i := 1583) (by decide +kernel), List.mem_of_getElem? (i := 2016) (by decide +kernel), List.mem_of_getElem? (i := 2017) (by decide +kernel)⟩
theorem lw_p110 : lw_okq (⟨"TensorForgeModel", "wordAt", "(II)I"⟩, 69) := ⟨⟨by decide +kernel, by decide +kernel⟩, List.mem_of_getElem? (i := 1583) (by decide +kernel), List.mem_of_getElem? (i := 2022) (by decide +kernel), List.mem_of_getElem? (i := 2023) (by decide +kernel)⟩
theorem lw_p111 : lw_okq (⟨"TensorForgeModel", "part", "()I"⟩, 69) := ⟨⟨by decide +kernel, by decide +kernel⟩, List.mem_of_getElem? (i := 1583) (by decide +kernel), List.mem_of_getElem? (i := 2029) (by decide +kernel), List.mem_of_getElem? (i := 2030) (by decide +kernel)⟩
def lw_privs_7 : List (MethodName × Nat) := [(⟨"TensorForgeModel", "findNext", "(I)V"⟩, 69), (⟨"TensorForgeModel", "stop", "(III)I"⟩, 69), (⟨"TensorForgeModel", "cycle", "(I)I"⟩, 69), (⟨"TensorForgeModel", "pushAll", "(I)V"⟩, 69), (⟨"TensorForgeModel", "isBusy", "(II)Z"⟩, 69), (⟨"TensorForgeModel", "hasTokens", "(I)Z"⟩, 69), (⟨"TensorForgeModel", "races", "(II)Z"⟩, 69), (⟨"TensorForgeModel", "beginNext", "(II)V"⟩, 69), (⟨"TensorForgeModel", "cycles", "()I"⟩, 69), (⟨"TensorForgeModel", "doWord", "()V"⟩, 69), (⟨"TensorForgeModel", "doPlace", "(II)V"⟩, 69), (⟨"TensorForgeModel", "intAt", "(I)I"⟩, 69), (⟨"TensorForgeModel", "readLine", "()I"⟩, 69), (⟨"TensorForgeModel", "advance", "()V"⟩, 69), (⟨"TensorForgeModel", "wordAt", "(II)I"⟩, 69), (⟨"TensorForgeModel", "part", "()I"⟩, 69)]
theorem lw_r7 : ∀ q ∈ lw_privs_7, lw_okq q := List.forall_mem_cons.mpr ⟨lw_p96, List.forall_mem_cons.mpr ⟨lw_p97, List.forall_mem_cons.mpr ⟨lw_p98, List.forall_mem_cons.mpr ⟨lw_p99, List.forall_mem_cons.mpr ⟨lw_p100, List.forall_mem_cons.mpr ⟨lw_p101, List.forall_mem_cons.mpr ⟨lw_p102, List.forall_mem_cons.mpr ⟨lw_p103, List.forall_mem_cons.mpr ⟨lw_p104, List.forall_mem_cons.mpr ⟨lw_p105, List.forall_mem_cons.mpr ⟨lw_p106, List.forall_mem_cons.mpr ⟨lw_p107, List.forall_mem_cons.mpr ⟨lw_p108, List.forall_mem_cons.mpr ⟨lw_p109, List.forall_mem_cons.mpr ⟨lw_p110, List.forall_mem_cons.mpr ⟨lw_p111, fun _ h => absurd h List.not_mem_nil⟩⟩⟩⟩⟩⟩⟩⟩⟩⟩⟩⟩⟩⟩⟩⟩
theorem lw_p112 : lw_okq (⟨"TensorForgeModel", "setNumber", "(I)Z"⟩, 69) := ⟨⟨by decide +kernel, by decide +kernel⟩, List.mem_of_getElem? (i := 1583) (by decide +kernel), List.mem_of_getElem? (i := 2033) (by decide +kernel), List.mem_of_getElem? (i := 2034) (by decide +kernel)⟩
theorem lw_p113 : lw_okq (⟨"TensorForgeModel", "wordOfFields", "()J"⟩, 69) := ⟨⟨by decide +kernel, by decide +kernel⟩, List.mem_of_getElem? (i := 1583) (by decide +kernel), List.mem_of_getElem? (i := 2039) (by decide +kernel), List.mem_of_getElem? (i := 2040) (by decide +kernel)⟩
theorem lw_p114 : lw_okq (⟨"TensorForgeModel", "takeMade", "()V"⟩, 69) := ⟨⟨by decide +kernel, by decide +kernel⟩, List.mem_of_getElem? (i := 1583) (by decide +kernel), List.mem_of_getElem? (i := 2043) (by decide +kernel), List.mem_of_getElem? (i := 2044) (by decide +kernel)⟩
theorem lw_p115 : lw_okq (⟨"TensorForgeModel", "sayWord", "(I)V"⟩, 69) := ⟨⟨by decide +kernel, by decide +kernel⟩, List.mem_of_getElem? (i := 1583) (by decide +kernel), List.mem_of_getElem? (i := 2051) (by decide +kernel), List.mem_of_getElem? (i := 2052) (by decide +kernel)⟩
theorem lw_p116 : lw_okq (⟨"TensorForgeModel", "say", "(J)V"⟩, 69) := ⟨⟨by decide +kernel, by decide +kernel⟩, List.mem_of_getElem? (i := 1583) (by decide +kernel), List.mem_of_getElem? (i := 2055) (by decide +kernel), List.mem_of_getElem? (i := 2056) (by decide +kernel)⟩
theorem lw_p117 : lw_okq (⟨"TensorForgeModel", "sayField", "(II)V"⟩, 69) := ⟨⟨by decide +kernel, by decide +kernel⟩, List.mem_of_getElem? (i := 1583) (by decide +kernel), List.mem_of_getElem? (i := 2061) (by decide +kernel), List.mem_of_getElem? (i := 2062) (by decide +kernel)⟩
theorem lw_p118 : lw_okq (⟨"TensorForgeModel", "sayNumber", "(I)V"⟩, 69) := ⟨⟨by decide +kernel, by decide +kernel⟩, List.mem_of_getElem? (i := 1583) (by decide +kernel), List.mem_of_getElem? (i := 2065) (by decide +kernel), List.mem_of_getElem? (i := 2066) (by decide +kernel)⟩
theorem lw_p119 : lw_okq (⟨"TensorForgeModel", "sayFlag", "(I)V"⟩, 69) := ⟨⟨by decide +kernel, by decide +kernel⟩, List.mem_of_getElem? (i := 1583) (by decide +kernel), List.mem_of_getElem? (i := 2069) (by decide +kernel), List.mem_of_getElem? (i := 2070) (by decide +kernel)⟩
theorem lw_p120 : lw_okq (⟨"TensorForgeModel", "isTensor", "(I)Z"⟩, 69) := ⟨⟨by decide +kernel, by decide +kernel⟩, List.mem_of_getElem? (i := 1583) (by decide +kernel), List.mem_of_getElem? (i := 2083) (by decide +kernel), List.mem_of_getElem? (i := 2084) (by decide +kernel)⟩
theorem lw_p121 : lw_okq (⟨"TensorForgeModel", "add", "(IIIII)I"⟩, 69) := ⟨⟨by decide +kernel, by decide +kernel⟩, List.mem_of_getElem? (i := 1583) (by decide +kernel), List.mem_of_getElem? (i := 2094) (by decide +kernel), List.mem_of_getElem? (i := 2095) (by decide +kernel)⟩
theorem lw_p122 : lw_okq (⟨"TensorForgeModel", "setLayer", "(IIIIII)V"⟩, 69) := ⟨⟨by decide +kernel, by decide +kernel⟩, List.mem_of_getElem? (i := 1583) (by decide +kernel), List.mem_of_getElem? (i := 2098) (by decide +kernel), List.mem_of_getElem? (i := 2099) (by decide +kernel)⟩
theorem lw_p123 : lw_okq (⟨"TensorForgeModel", "convolved", "(IIII)I"⟩, 69) := ⟨⟨by decide +kernel, by decide +kernel⟩, List.mem_of_getElem? (i := 1583) (by decide +kernel), List.mem_of_getElem? (i := 2118) (by decide +kernel), List.mem_of_getElem? (i := 2119) (by decide +kernel)⟩
theorem lw_p124 : lw_okq (⟨"TensorForgeModel", "isThere", "(III)Z"⟩, 69) := ⟨⟨by decide +kernel, by decide +kernel⟩, List.mem_of_getElem? (i := 1583) (by decide +kernel), List.mem_of_getElem? (i := 2122) (by decide +kernel), List.mem_of_getElem? (i := 2123) (by decide +kernel)⟩
theorem lw_p125 : lw_okq (⟨"TensorForgeModel", "cellAt", "(IIII)I"⟩, 69) := ⟨⟨by decide +kernel, by decide +kernel⟩, List.mem_of_getElem? (i := 1583) (by decide +kernel), List.mem_of_getElem? (i := 2126) (by decide +kernel), List.mem_of_getElem? (i := 2127) (by decide +kernel)⟩
theorem lw_p126 : lw_okq (⟨"TensorForgeModel", "pooled", "(IIII)I"⟩, 69) := ⟨⟨by decide +kernel, by decide +kernel⟩, List.mem_of_getElem? (i := 1583) (by decide +kernel), List.mem_of_getElem? (i := 2130) (by decide +kernel), List.mem_of_getElem? (i := 2131) (by decide +kernel)⟩
theorem lw_p127 : lw_okq (⟨"TensorForgeModel", "layer", "(I)V"⟩, 69) := ⟨⟨by decide +kernel, by decide +kernel⟩, List.mem_of_getElem? (i := 1583) (by decide +kernel), List.mem_of_getElem? (i := 2138) (by decide +kernel), List.mem_of_getElem? (i := 2139) (by decide +kernel)⟩
def lw_privs_8 : List (MethodName × Nat) := [(⟨"TensorForgeModel", "setNumber", "(I)Z"⟩, 69), (⟨"TensorForgeModel", "wordOfFields", "()J"⟩, 69), (⟨"TensorForgeModel", "takeMade", "()V"⟩, 69), (⟨"TensorForgeModel", "sayWord", "(I)V"⟩, 69), (⟨"TensorForgeModel", "say", "(J)V"⟩, 69), (⟨"TensorForgeModel", "sayField", "(II)V"⟩, 69), (⟨"TensorForgeModel", "sayNumber", "(I)V"⟩, 69), (⟨"TensorForgeModel", "sayFlag", "(I)V"⟩, 69), (⟨"TensorForgeModel", "isTensor", "(I)Z"⟩, 69), (⟨"TensorForgeModel", "add", "(IIIII)I"⟩, 69), (⟨"TensorForgeModel", "setLayer", "(IIIIII)V"⟩, 69), (⟨"TensorForgeModel", "convolved", "(IIII)I"⟩, 69), (⟨"TensorForgeModel", "isThere", "(III)Z"⟩, 69), (⟨"TensorForgeModel", "cellAt", "(IIII)I"⟩, 69), (⟨"TensorForgeModel", "pooled", "(IIII)I"⟩, 69), (⟨"TensorForgeModel", "layer", "(I)V"⟩, 69)]
theorem lw_r8 : ∀ q ∈ lw_privs_8, lw_okq q := List.forall_mem_cons.mpr ⟨lw_p112, List.forall_mem_cons.mpr ⟨lw_p113, List.forall_mem_cons.mpr ⟨lw_p114, List.forall_mem_cons.mpr ⟨lw_p115, List.forall_mem_cons.mpr ⟨lw_p116, List.forall_mem_cons.mpr ⟨lw_p117, List.forall_mem_cons.mpr ⟨lw_p118, List.forall_mem_cons.mpr ⟨lw_p119, List.forall_mem_cons.mpr ⟨lw_p120, List.forall_mem_cons.mpr ⟨lw_p121, List.forall_mem_cons.mpr ⟨lw_p122, List.forall_mem_cons.mpr ⟨lw_p123, List.forall_mem_cons.mpr ⟨lw_p124, List.forall_mem_cons.mpr ⟨lw_p125, List.forall_mem_cons.mpr ⟨lw_p126, List.forall_mem_cons.mpr ⟨lw_p127, fun _ h => absurd h List.not_mem_nil⟩⟩⟩⟩⟩⟩⟩⟩⟩⟩⟩⟩⟩⟩⟩⟩
theorem lw_p128 : lw_okq (⟨"TensorForgeModel", "tile", "(I)V"⟩, 69) := ⟨⟨by decide +kernel, by decide +kernel⟩, List.mem_of_getElem? (i := 1583) (by decide +kernel), List.mem_of_getElem? (i := 2145) (by decide +kernel), List.mem_of_getElem? (i := 2146) (by decide +kernel)⟩
theorem lw_p129 : lw_okq (⟨"TensorForgeModel", "group", "(IIIIIZ)V"⟩, 69) := ⟨⟨by decide +kernel, by decide +kernel⟩, List.mem_of_getElem? (i := 1583) (by decide +kernel), List.mem_of_getElem? (i := 2149) (by decide +kernel), List.mem_of_getElem? (i := 2150) (by decide +kernel)⟩
theorem lw_p130 : lw_okq (⟨"TensorForgeModel", "groupLoads", "(IIIIIZZ)V"⟩, 69) := ⟨⟨by decide +kernel, by decide +kernel⟩, List.mem_of_getElem? (i := 1583) (by decide +kernel), List.mem_of_getElem? (i := 2153) (by decide +kernel), List.mem_of_getElem? (i := 2154) (by decide +kernel)⟩
theorem lw_p131 : lw_okq (⟨"TensorForgeModel", "set", "(IIII)V"⟩, 69) := ⟨⟨by decide +kernel, by decide +kernel⟩, List.mem_of_getElem? (i := 1583) (by decide +kernel), List.mem_of_getElem? (i := 2157) (by decide +kernel), List.mem_of_getElem? (i := 2158) (by decide +kernel)⟩
theorem lw_p132 : lw_okq (⟨"TensorForgeModel", "quarter", "()I"⟩, 69) := ⟨⟨by decide +kernel, by decide +kernel⟩, List.mem_of_getElem? (i := 1583) (by decide +kernel), List.mem_of_getElem? (i := 2161) (by decide +kernel), List.mem_of_getElem? (i := 2162) (by decide +kernel)⟩
theorem lw_p133 : lw_okq (⟨"TensorForgeModel", "with", "(IIII)V"⟩, 69) := ⟨⟨by decide +kernel, by decide +kernel⟩, List.mem_of_getElem? (i := 1583) (by decide +kernel), List.mem_of_getElem? (i := 2165) (by decide +kernel), List.mem_of_getElem? (i := 2166) (by decide +kernel)⟩
theorem lw_p134 : lw_okq (⟨"TensorForgeModel", "load", "(Z)V"⟩, 69) := ⟨⟨by decide +kernel, by decide +kernel⟩, List.mem_of_getElem? (i := 1583) (by decide +kernel), List.mem_of_getElem? (i := 2169) (by decide +kernel), List.mem_of_getElem? (i := 2170) (by decide +kernel)⟩
theorem lw_p135 : lw_okq (⟨"TensorForgeModel", "emit", "(I)V"⟩, 69) := ⟨⟨by decide +kernel, by decide +kernel⟩, List.mem_of_getElem? (i := 1583) (by decide +kernel), List.mem_of_getElem? (i := 2173) (by decide +kernel), List.mem_of_getElem? (i := 2174) (by decide +kernel)⟩
theorem lw_p136 : lw_okq (⟨"TensorForgeModel", "half", "()I"⟩, 69) := ⟨⟨by decide +kernel, by decide +kernel⟩, List.mem_of_getElem? (i := 1583) (by decide +kernel), List.mem_of_getElem? (i := 2177) (by decide +kernel), List.mem_of_getElem? (i := 2178) (by decide +kernel)⟩
theorem lw_p137 : lw_okq (⟨"TensorForgeModel", "works", "(IIZZ)V"⟩, 69) := ⟨⟨by decide +kernel, by decide +kernel⟩, List.mem_of_getElem? (i := 1583) (by decide +kernel), List.mem_of_getElem? (i := 2181) (by decide +kernel), List.mem_of_getElem? (i := 2182) (by decide +kernel)⟩
theorem lw_p138 : lw_okq (⟨"TensorForgeModel", "keepNetwork", "(Z)V"⟩, 69) := ⟨⟨by decide +kernel, by decide +kernel⟩, List.mem_of_getElem? (i := 1583) (by decide +kernel), List.mem_of_getElem? (i := 2189) (by decide +kernel), List.mem_of_getElem? (i := 2190) (by decide +kernel)⟩
theorem lw_p139 : lw_okq (⟨"TensorForgeModel", "keepRow", "([IIIZ)V"⟩, 69) := ⟨⟨by decide +kernel, by decide +kernel⟩, List.mem_of_getElem? (i := 1583) (by decide +kernel), List.mem_of_getElem? (i := 2193) (by decide +kernel), List.mem_of_getElem? (i := 2194) (by decide +kernel)⟩
theorem lw_p140 : lw_okq (⟨"TensorForgeModel", "advanceNet", "()V"⟩, 69) := ⟨⟨by decide +kernel, by decide +kernel⟩, List.mem_of_getElem? (i := 1583) (by decide +kernel), List.mem_of_getElem? (i := 2197) (by decide +kernel), List.mem_of_getElem? (i := 2198) (by decide +kernel)⟩
theorem lw_p141 : lw_okq (⟨"TensorForgeModel", "readLayer", "()Z"⟩, 69) := ⟨⟨by decide +kernel, by decide +kernel⟩, List.mem_of_getElem? (i := 1583) (by decide +kernel), List.mem_of_getElem? (i := 2201) (by decide +kernel), List.mem_of_getElem? (i := 2202) (by decide +kernel)⟩
theorem lw_p142 : lw_okq (⟨"TensorForgeModel", "isWord", "(J)Z"⟩, 69) := ⟨⟨by decide +kernel, by decide +kernel⟩, List.mem_of_getElem? (i := 1583) (by decide +kernel), List.mem_of_getElem? (i := 2206) (by decide +kernel), List.mem_of_getElem? (i := 2207) (by decide +kernel)⟩
theorem lw_p143 : lw_okq (⟨"TensorForgeModel", "takeTensor", "()I"⟩, 69) := ⟨⟨by decide +kernel, by decide +kernel⟩, List.mem_of_getElem? (i := 1583) (by decide +kernel), List.mem_of_getElem? (i := 2212) (by decide +kernel), List.mem_of_getElem? (i := 2213) (by decide +kernel)⟩
def lw_privs_9 : List (MethodName × Nat) := [(⟨"TensorForgeModel", "tile", "(I)V"⟩, 69), (⟨"TensorForgeModel", "group", "(IIIIIZ)V"⟩, 69), (⟨"TensorForgeModel", "groupLoads", "(IIIIIZZ)V"⟩, 69), (⟨"TensorForgeModel", "set", "(IIII)V"⟩, 69), (⟨"TensorForgeModel", "quarter", "()I"⟩, 69), (⟨"TensorForgeModel", "with", "(IIII)V"⟩, 69), (⟨"TensorForgeModel", "load", "(Z)V"⟩, 69), (⟨"TensorForgeModel", "emit", "(I)V"⟩, 69), (⟨"TensorForgeModel", "half", "()I"⟩, 69), (⟨"TensorForgeModel", "works", "(IIZZ)V"⟩, 69), (⟨"TensorForgeModel", "keepNetwork", "(Z)V"⟩, 69), (⟨"TensorForgeModel", "keepRow", "([IIIZ)V"⟩, 69), (⟨"TensorForgeModel", "advanceNet", "()V"⟩, 69), (⟨"TensorForgeModel", "readLayer", "()Z"⟩, 69), (⟨"TensorForgeModel", "isWord", "(J)Z"⟩, 69), (⟨"TensorForgeModel", "takeTensor", "()I"⟩, 69)]
theorem lw_r9 : ∀ q ∈ lw_privs_9, lw_okq q := List.forall_mem_cons.mpr ⟨lw_p128, List.forall_mem_cons.mpr ⟨lw_p129, List.forall_mem_cons.mpr ⟨lw_p130, List.forall_mem_cons.mpr ⟨lw_p131, List.forall_mem_cons.mpr ⟨lw_p132, List.forall_mem_cons.mpr ⟨lw_p133, List.forall_mem_cons.mpr ⟨lw_p134, List.forall_mem_cons.mpr ⟨lw_p135, List.forall_mem_cons.mpr ⟨lw_p136, List.forall_mem_cons.mpr ⟨lw_p137, List.forall_mem_cons.mpr ⟨lw_p138, List.forall_mem_cons.mpr ⟨lw_p139, List.forall_mem_cons.mpr ⟨lw_p140, List.forall_mem_cons.mpr ⟨lw_p141, List.forall_mem_cons.mpr ⟨lw_p142, List.forall_mem_cons.mpr ⟨lw_p143, fun _ h => absurd h List.not_mem_nil⟩⟩⟩⟩⟩⟩⟩⟩⟩⟩⟩⟩⟩⟩⟩⟩
theorem lw_p144 : lw_okq (⟨"TensorForgeModel", "named", "(J)I"⟩, 69) := ⟨⟨by decide +kernel, by decide +kernel⟩, List.mem_of_getElem? (i := 1583) (by decide +kernel), List.mem_of_getElem? (i := 2216) (by decide +kernel), List.mem_of_getElem? (i := 2217) (by decide +kernel)⟩
theorem lw_p145 : lw_okq (⟨"TensorForgeModel", "takeParts", "(I)Z"⟩, 69) := ⟨⟨by decide +kernel, by decide +kernel⟩, List.mem_of_getElem? (i := 1583) (by decide +kernel), List.mem_of_getElem? (i := 2220) (by decide +kernel), List.mem_of_getElem? (i := 2221) (by decide +kernel)⟩
theorem lw_p146 : lw_okq (⟨"TensorForgeModel", "partOf", "()I"⟩, 69) := ⟨⟨by decide +kernel, by decide +kernel⟩, List.mem_of_getElem? (i := 1583) (by decide +kernel), List.mem_of_getElem? (i := 2224) (by decide +kernel), List.mem_of_getElem? (i := 2225) (by decide +kernel)⟩
theorem lw_p147 : lw_okq (⟨"TensorForgeModel", "takePart", "(I)Z"⟩, 69) := ⟨⟨by decide +kernel, by decide +kernel⟩, List.mem_of_getElem? (i := 1583) (by decide +kernel), List.mem_of_getElem? (i := 2233) (by decide +kernel), List.mem_of_getElem? (i := 2234) (by decide +kernel)⟩
theorem lw_p148 : lw_okq (⟨"TensorForgeModel", "takeNet", "(I)Z"⟩, 69) := ⟨⟨by decide +kernel, by decide +kernel⟩, List.mem_of_getElem? (i := 1583) (by decide +kernel), List.mem_of_getElem? (i := 2237) (by decide +kernel), List.mem_of_getElem? (i := 2238) (by decide +kernel)⟩
theorem lw_p149 : lw_okq (⟨"TensorForgeModel", "takeX", "()Z"⟩, 69) := ⟨⟨by decide +kernel, by decide +kernel⟩, List.mem_of_getElem? (i := 1583) (by decide +kernel), List.mem_of_getElem? (i := 2241) (by decide +kernel), List.mem_of_getElem? (i := 2242) (by decide +kernel)⟩
theorem lw_p150 : lw_okq (⟨"TensorForgeModel", "isKeyword", "(J)Z"⟩, 69) := ⟨⟨by decide +kernel, by decide +kernel⟩, List.mem_of_getElem? (i := 1583) (by decide +kernel), List.mem_of_getElem? (i := 2245) (by decide +kernel), List.mem_of_getElem? (i := 2246) (by decide +kernel)⟩
theorem lw_p151 : lw_okq (⟨"TensorForgeModel", "readInput", "()Z"⟩, 69) := ⟨⟨by decide +kernel, by decide +kernel⟩, List.mem_of_getElem? (i := 1583) (by decide +kernel), List.mem_of_getElem? (i := 2253) (by decide +kernel), List.mem_of_getElem? (i := 2254) (by decide +kernel)⟩
theorem lw_p152 : lw_okq (⟨"TensorForgeModel", "sayCode", "(J)V"⟩, 69) := ⟨⟨by decide +kernel, by decide +kernel⟩, List.mem_of_getElem? (i := 1583) (by decide +kernel), List.mem_of_getElem? (i := 2262) (by decide +kernel), List.mem_of_getElem? (i := 2263) (by decide +kernel)⟩
theorem lw_p153 : lw_okq (⟨"TensorForgeModel", "sayCount", "(I)V"⟩, 69) := ⟨⟨by decide +kernel, by decide +kernel⟩, List.mem_of_getElem? (i := 1583) (by decide +kernel), List.mem_of_getElem? (i := 2266) (by decide +kernel), List.mem_of_getElem? (i := 2267) (by decide +kernel)⟩
theorem lw_p154 : lw_okq (⟨"TensorForgeModel", "sayLayer", "(I)V"⟩, 69) := ⟨⟨by decide +kernel, by decide +kernel⟩, List.mem_of_getElem? (i := 1583) (by decide +kernel), List.mem_of_getElem? (i := 2270) (by decide +kernel), List.mem_of_getElem? (i := 2271) (by decide +kernel)⟩
theorem lw_p155 : lw_okq (⟨"TensorForgeModel", "placeAll", "()I"⟩, 69) := ⟨⟨by decide +kernel, by decide +kernel⟩, List.mem_of_getElem? (i := 1583) (by decide +kernel), List.mem_of_getElem? (i := 2278) (by decide +kernel), List.mem_of_getElem? (i := 2279) (by decide +kernel)⟩
theorem lw_p156 : lw_okq (⟨"TensorForgeModel", "meets", "(II)Z"⟩, 69) := ⟨⟨by decide +kernel, by decide +kernel⟩, List.mem_of_getElem? (i := 1583) (by decide +kernel), List.mem_of_getElem? (i := 2282) (by decide +kernel), List.mem_of_getElem? (i := 2283) (by decide +kernel)⟩
theorem lw_p157 : lw_okq (⟨"TensorForgeModel", "isNeeded", "(II)Z"⟩, 69) := ⟨⟨by decide +kernel, by decide +kernel⟩, List.mem_of_getElem? (i := 1583) (by decide +kernel), List.mem_of_getElem? (i := 2286) (by decide +kernel), List.mem_of_getElem? (i := 2287) (by decide +kernel)⟩
theorem lw_p158 : lw_okq (⟨"TensorForgeModel", "takes", "(II)Z"⟩, 69) := ⟨⟨by decide +kernel, by decide +kernel⟩, List.mem_of_getElem? (i := 1583) (by decide +kernel), List.mem_of_getElem? (i := 2290) (by decide +kernel), List.mem_of_getElem? (i := 2291) (by decide +kernel)⟩
theorem lw_p159 : lw_okq (⟨"TensorForgeModel", "isToldOfRun", "(II)Z"⟩, 69) := ⟨⟨by decide +kernel, by decide +kernel⟩, List.mem_of_getElem? (i := 1583) (by decide +kernel), List.mem_of_getElem? (i := 2298) (by decide +kernel), List.mem_of_getElem? (i := 2299) (by decide +kernel)⟩
def lw_privs_10 : List (MethodName × Nat) := [(⟨"TensorForgeModel", "named", "(J)I"⟩, 69), (⟨"TensorForgeModel", "takeParts", "(I)Z"⟩, 69), (⟨"TensorForgeModel", "partOf", "()I"⟩, 69), (⟨"TensorForgeModel", "takePart", "(I)Z"⟩, 69), (⟨"TensorForgeModel", "takeNet", "(I)Z"⟩, 69), (⟨"TensorForgeModel", "takeX", "()Z"⟩, 69), (⟨"TensorForgeModel", "isKeyword", "(J)Z"⟩, 69), (⟨"TensorForgeModel", "readInput", "()Z"⟩, 69), (⟨"TensorForgeModel", "sayCode", "(J)V"⟩, 69), (⟨"TensorForgeModel", "sayCount", "(I)V"⟩, 69), (⟨"TensorForgeModel", "sayLayer", "(I)V"⟩, 69), (⟨"TensorForgeModel", "placeAll", "()I"⟩, 69), (⟨"TensorForgeModel", "meets", "(II)Z"⟩, 69), (⟨"TensorForgeModel", "isNeeded", "(II)Z"⟩, 69), (⟨"TensorForgeModel", "takes", "(II)Z"⟩, 69), (⟨"TensorForgeModel", "isToldOfRun", "(II)Z"⟩, 69)]
theorem lw_r10 : ∀ q ∈ lw_privs_10, lw_okq q := List.forall_mem_cons.mpr ⟨lw_p144, List.forall_mem_cons.mpr ⟨lw_p145, List.forall_mem_cons.mpr ⟨lw_p146, List.forall_mem_cons.mpr ⟨lw_p147, List.forall_mem_cons.mpr ⟨lw_p148, List.forall_mem_cons.mpr ⟨lw_p149, List.forall_mem_cons.mpr ⟨lw_p150, List.forall_mem_cons.mpr ⟨lw_p151, List.forall_mem_cons.mpr ⟨lw_p152, List.forall_mem_cons.mpr ⟨lw_p153, List.forall_mem_cons.mpr ⟨lw_p154, List.forall_mem_cons.mpr ⟨lw_p155, List.forall_mem_cons.mpr ⟨lw_p156, List.forall_mem_cons.mpr ⟨lw_p157, List.forall_mem_cons.mpr ⟨lw_p158, List.forall_mem_cons.mpr ⟨lw_p159, fun _ h => absurd h List.not_mem_nil⟩⟩⟩⟩⟩⟩⟩⟩⟩⟩⟩⟩⟩⟩⟩⟩
theorem lw_p160 : lw_okq (⟨"TensorForgeModel", "underWay", "(II)I"⟩, 69) := ⟨⟨by decide +kernel, by decide +kernel⟩, List.mem_of_getElem? (i := 1583) (by decide +kernel), List.mem_of_getElem? (i := 2302) (by decide +kernel), List.mem_of_getElem? (i := 2303) (by decide +kernel)⟩
theorem lw_p161 : lw_okq (⟨"TensorForgeModel", "isTokenThere", "(IZI)Z"⟩, 69) := ⟨⟨by decide +kernel, by decide +kernel⟩, List.mem_of_getElem? (i := 1583) (by decide +kernel), List.mem_of_getElem? (i := 2310) (by decide +kernel), List.mem_of_getElem? (i := 2311) (by decide +kernel)⟩
def lw_privs_11 : List (MethodName × Nat) := [(⟨"TensorForgeModel", "underWay", "(II)I"⟩, 69), (⟨"TensorForgeModel", "isTokenThere", "(IZI)Z"⟩, 69)]
theorem lw_r11 : ∀ q ∈ lw_privs_11, lw_okq q := List.forall_mem_cons.mpr ⟨lw_p160, List.forall_mem_cons.mpr ⟨lw_p161, fun _ h => absurd h List.not_mem_nil⟩⟩
def lw_privs : List (MethodName × Nat) := lw_privs_1 ++ (lw_privs_2 ++ (lw_privs_3 ++ (lw_privs_4 ++ (lw_privs_5 ++ (lw_privs_6 ++ (lw_privs_7 ++ (lw_privs_8 ++ (lw_privs_9 ++ (lw_privs_10 ++ (lw_privs_11))))))))))
def lw_tbl : List Cond := k2_sels lw_privs ++ tables_1
theorem lw_privs_ok : ∀ q ∈ lw_privs, lw_okq q := by
  show ∀ q ∈ lw_privs_1 ++ (lw_privs_2 ++ (lw_privs_3 ++ (lw_privs_4 ++ (lw_privs_5 ++ (lw_privs_6 ++ (lw_privs_7 ++ (lw_privs_8 ++ (lw_privs_9 ++ (lw_privs_10 ++ (lw_privs_11)))))))))), lw_okq q
  exact List.forall_mem_append.mpr ⟨lw_r1, List.forall_mem_append.mpr ⟨lw_r2, List.forall_mem_append.mpr ⟨lw_r3, List.forall_mem_append.mpr ⟨lw_r4, List.forall_mem_append.mpr ⟨lw_r5, List.forall_mem_append.mpr ⟨lw_r6, List.forall_mem_append.mpr ⟨lw_r7, List.forall_mem_append.mpr ⟨lw_r8, List.forall_mem_append.mpr ⟨lw_r9, List.forall_mem_append.mpr ⟨lw_r10, lw_r11⟩⟩⟩⟩⟩⟩⟩⟩⟩⟩
/-- the words that hold at every later state too -/
def mm_tb : List Cond := lw_tbl.filter goodWord
theorem mm_tb_in (ws : List Cond) (ps : List Nat) (hp : ws = ps.filterMap (fun i => tables_1[i]?)) (h : ws.all goodWord = true) : ∀ w ∈ ws, w ∈ mm_tb := by
  intro w hw
  have h1 := List.all_eq_true.mp h w hw
  rw [hp] at hw
  obtain ⟨i, -, hi⟩ := List.mem_filterMap.mp hw
  exact List.mem_filter.mpr ⟨List.mem_append_right _ (List.mem_of_getElem? hi), h1⟩
theorem mm_tb_1 {w : Cond} (i : Nat) (hi : tables_1[i]? = some w) (h : goodWord w = true) : w ∈ mm_tb := List.mem_filter.mpr ⟨List.mem_append_right _ (List.mem_of_getElem? hi), h⟩
theorem mm_tb_s {w : Cond} (i : Nat) (hi : (k2_sels lw_privs)[i]? = some w) (h : goodWord w = true) : w ∈ mm_tb := List.mem_filter.mpr ⟨List.mem_append_left _ (List.mem_of_getElem? hi), h⟩
theorem mm_tb_good {s : State} {args : Array Value} (h : ∀ w ∈ mm_tb, w.before args s = true) {U : State} (hW : s.WarmedH U.vm) (a : Array Value) : ∀ w ∈ mm_tb, w.before a U = true :=
  fun w hw => word_at hW (good_of_word (List.mem_filter.mp hw).2) (h w hw)
end
section
/-! the classes: names, fields, types; by program out of the words (wip/names.py) -/
def R_TF : String := "TensorForge"
def F_TF : u_T := fun k => match k with
  | 0 => ("TensorForge", "machine", "LTensorForge$Machine;", true)
  | 1 => ("TensorForge", "latest", "LTensorForge$Run;", true)
  | 2 => ("TensorForge", "text", "LTensorForge$Text;", true)
  | 3 => ("TensorForge", "assembler", "LTensorForge$Assembler;", true)
  | 4 => ("TensorForge", "reader", "LTensorForge$NetworkReader;", true)
  | 5 => ("TensorForge", "compiler", "LTensorForge$Compiler;", true)
  | 6 => ("TensorForge", "printed", "LTensorForge$Line;", true)
  | 7 => ("TensorForge", "net", "LTensorForge$Network;", false)
  | 8 => ("TensorForge", "spareNet", "LTensorForge$Network;", false)
  | 9 => ("TensorForge", "words", "[J", false)
  | 10 => ("TensorForge", "spareWords", "[J", false)
  | _ => ("TensorForge", "count", "I", false)
def t_TF : Nat → FieldType := fun k => match k with
  | 0 => .object "TensorForge$Machine"
  | 1 => .object "TensorForge$Run"
  | 2 => .object "TensorForge$Text"
  | 3 => .object "TensorForge$Assembler"
  | 4 => .object "TensorForge$NetworkReader"
  | 5 => .object "TensorForge$Compiler"
  | 6 => .object "TensorForge$Line"
  | 7 => .object "TensorForge$Network"
  | 8 => .object "TensorForge$Network"
  | 9 => .array .long
  | 10 => .array .long
  | _ => .int
theorem n_TF : ∀ a, a < 12 → ∀ b, b < 12 → a ≠ b → (F_TF a).2.1 ≠ (F_TF b).2.1 := by decide +kernel
theorem t_TF_ok : ∀ k, k < 12 → parseFieldDescriptor (F_TF k).2.2.1 = some (t_TF k) := by decide +kernel
theorem i_TF : ∀ w ∈ u_ws R_TF F_TF 12, w ∈ mm_tb := mm_tb_in _ [452, 454, 456, 458, 460, 462, 464, 466, 468, 470, 472, 474] (by decide +kernel) (by decide +kernel)
def R_Network : String := "TensorForge$Network"
def F_Network : u_T := fun k => match k with
  | 0 => ("TensorForge$Network", "layers", "[LTensorForge$Layer;", true)
  | _ => ("TensorForge$Network", "tensors", "I", false)
def t_Network : Nat → FieldType := fun k => match k with
  | 0 => .array (.object "TensorForge$Layer")
  | _ => .int
theorem n_Network : ∀ a, a < 2 → ∀ b, b < 2 → a ≠ b → (F_Network a).2.1 ≠ (F_Network b).2.1 := by decide +kernel
theorem t_Network_ok : ∀ k, k < 2 → parseFieldDescriptor (F_Network k).2.2.1 = some (t_Network k) := by decide +kernel
theorem i_Network : ∀ w ∈ u_ws R_Network F_Network 2, w ∈ mm_tb := mm_tb_in _ [149, 151] (by decide +kernel) (by decide +kernel)
def R_Layer : String := "TensorForge$Layer"
def F_Layer : u_T := fun k => match k with
  | 0 => ("TensorForge$Layer", "kind", "I", false)
  | 1 => ("TensorForge$Layer", "one", "I", false)
  | 2 => ("TensorForge$Layer", "two", "I", false)
  | 3 => ("TensorForge$Layer", "kernelHeight", "I", false)
  | 4 => ("TensorForge$Layer", "kernelWidth", "I", false)
  | 5 => ("TensorForge$Layer", "step", "I", false)
  | 6 => ("TensorForge$Layer", "edge", "I", false)
  | 7 => ("TensorForge$Layer", "shift", "I", false)
  | 8 => ("TensorForge$Layer", "relu", "Z", false)
  | 9 => ("TensorForge$Layer", "address", "I", false)
  | 10 => ("TensorForge$Layer", "height", "I", false)
  | 11 => ("TensorForge$Layer", "width", "I", false)
  | 12 => ("TensorForge$Layer", "channels", "I", false)
  | 13 => ("TensorForge$Layer", "begin", "I", false)
  | _ => ("TensorForge$Layer", "spot", "I", false)
def t_Layer : Nat → FieldType := fun k => match k with
  | 0 => .int
  | 1 => .int
  | 2 => .int
  | 3 => .int
  | 4 => .int
  | 5 => .int
  | 6 => .int
  | 7 => .int
  | 8 => .boolean
  | 9 => .int
  | 10 => .int
  | 11 => .int
  | 12 => .int
  | 13 => .int
  | _ => .int
theorem n_Layer : ∀ a, a < 15 → ∀ b, b < 15 → a ≠ b → (F_Layer a).2.1 ≠ (F_Layer b).2.1 := by decide +kernel
theorem t_Layer_ok : ∀ k, k < 15 → parseFieldDescriptor (F_Layer k).2.2.1 = some (t_Layer k) := by decide +kernel
theorem i_Layer : ∀ w ∈ u_ws R_Layer F_Layer 15, w ∈ mm_tb := mm_tb_in _ [112, 114, 116, 118, 120, 122, 124, 126, 128, 130, 132, 134, 136, 138, 140] (by decide +kernel) (by decide +kernel)
def R_Machine : String := "TensorForge$Machine"
def F_Machine : u_T := fun k => match k with
  | 0 => ("TensorForge$Machine", "memory", "[B", true)
  | 1 => ("TensorForge$Machine", "cells", "[B", true)
  | 2 => ("TensorForge$Machine", "weights", "[B", true)
  | 3 => ("TensorForge$Machine", "sums", "[I", true)
  | 4 => ("TensorForge$Machine", "results", "[B", true)
  | 5 => ("TensorForge$Machine", "probe", "LTensorForge$Reaches;", true)
  | 6 => ("TensorForge$Machine", "side", "I", false)
  | 7 => ("TensorForge$Machine", "address", "I", false)
  | 8 => ("TensorForge$Machine", "rows", "I", false)
  | 9 => ("TensorForge$Machine", "columns", "I", false)
  | 10 => ("TensorForge$Machine", "a", "I", false)
  | 11 => ("TensorForge$Machine", "b", "I", false)
  | 12 => ("TensorForge$Machine", "stride", "I", false)
  | _ => ("TensorForge$Machine", "n", "I", false)
def t_Machine : Nat → FieldType := fun k => match k with
  | 0 => .array .byte
  | 1 => .array .byte
  | 2 => .array .byte
  | 3 => .array .int
  | 4 => .array .byte
  | 5 => .object "TensorForge$Reaches"
  | 6 => .int
  | 7 => .int
  | 8 => .int
  | 9 => .int
  | 10 => .int
  | 11 => .int
  | 12 => .int
  | _ => .int
theorem n_Machine : ∀ a, a < 14 → ∀ b, b < 14 → a ≠ b → (F_Machine a).2.1 ≠ (F_Machine b).2.1 := by decide +kernel
theorem t_Machine_ok : ∀ k, k < 14 → parseFieldDescriptor (F_Machine k).2.2.1 = some (t_Machine k) := by decide +kernel
theorem i_Machine : ∀ w ∈ u_ws R_Machine F_Machine 14, w ∈ mm_tb := mm_tb_in _ [201, 203, 205, 207, 209, 211, 213, 215, 217, 219, 221, 223, 225, 227] (by decide +kernel) (by decide +kernel)
def R_Reaches : String := "TensorForge$Reaches"
def F_Reaches : u_T := fun k => match k with
  | 0 => ("TensorForge$Reaches", "readFrom", "[I", true)
  | 1 => ("TensorForge$Reaches", "readTo", "[I", true)
  | 2 => ("TensorForge$Reaches", "writeFrom", "[I", true)
  | _ => ("TensorForge$Reaches", "writeTo", "[I", true)
def t_Reaches : Nat → FieldType := fun k => match k with
  | 0 => .array .int
  | 1 => .array .int
  | 2 => .array .int
  | _ => .array .int
theorem n_Reaches : ∀ a, a < 4 → ∀ b, b < 4 → a ≠ b → (F_Reaches a).2.1 ≠ (F_Reaches b).2.1 := by decide +kernel
theorem t_Reaches_ok : ∀ k, k < 4 → parseFieldDescriptor (F_Reaches k).2.2.1 = some (t_Reaches k) := by decide +kernel
theorem i_Reaches : ∀ w ∈ u_ws R_Reaches F_Reaches 4, w ∈ mm_tb := mm_tb_in _ [172, 174, 176, 178] (by decide +kernel) (by decide +kernel)
def R_Run : String := "TensorForge$Run"
def F_Run : u_T := fun k => match k with
  | 0 => ("TensorForge$Run", "machine", "LTensorForge$Machine;", true)
  | 1 => ("TensorForge$Run", "told", "[I", true)
  | 2 => ("TensorForge$Run", "words", "[J", true)
  | 3 => ("TensorForge$Run", "began", "[I", true)
  | 4 => ("TensorForge$Run", "ended", "[I", true)
  | 5 => ("TensorForge$Run", "next", "[I", true)
  | 6 => ("TensorForge$Run", "underWay", "[I", true)
  | 7 => ("TensorForge$Run", "reaches", "[LTensorForge$Reaches;", true)
  | 8 => ("TensorForge$Run", "candidate", "LTensorForge$Reaches;", false)
  | _ => ("TensorForge$Run", "count", "I", false)
def t_Run : Nat → FieldType := fun k => match k with
  | 0 => .object "TensorForge$Machine"
  | 1 => .array .int
  | 2 => .array .long
  | 3 => .array .int
  | 4 => .array .int
  | 5 => .array .int
  | 6 => .array .int
  | 7 => .array (.object "TensorForge$Reaches")
  | 8 => .object "TensorForge$Reaches"
  | _ => .int
theorem n_Run : ∀ a, a < 10 → ∀ b, b < 10 → a ≠ b → (F_Run a).2.1 ≠ (F_Run b).2.1 := by decide +kernel
theorem t_Run_ok : ∀ k, k < 10 → parseFieldDescriptor (F_Run k).2.2.1 = some (t_Run k) := by decide +kernel
theorem i_Run : ∀ w ∈ u_ws R_Run F_Run 10, w ∈ mm_tb := mm_tb_in _ [254, 256, 258, 260, 262, 264, 266, 268, 270, 272] (by decide +kernel) (by decide +kernel)
def R_Text : String := "TensorForge$Text"
def F_Text : u_T := fun k => match k with
  | 0 => ("TensorForge$Text", "signs", "[C", true)
  | 1 => ("TensorForge$Text", "count", "I", false)
  | 2 => ("TensorForge$Text", "lineEnd", "I", false)
  | 3 => ("TensorForge$Text", "at", "I", false)
  | 4 => ("TensorForge$Text", "sort", "I", false)
  | 5 => ("TensorForge$Text", "from", "I", false)
  | _ => ("TensorForge$Text", "number", "I", false)
def t_Text : Nat → FieldType := fun k => match k with
  | 0 => .array .char
  | 1 => .int
  | 2 => .int
  | 3 => .int
  | 4 => .int
  | 5 => .int
  | _ => .int
theorem n_Text : ∀ a, a < 7 → ∀ b, b < 7 → a ≠ b → (F_Text a).2.1 ≠ (F_Text b).2.1 := by decide +kernel
theorem t_Text_ok : ∀ k, k < 7 → parseFieldDescriptor (F_Text k).2.2.1 = some (t_Text k) := by decide +kernel
theorem i_Text : ∀ w ∈ u_ws R_Text F_Text 7, w ∈ mm_tb := mm_tb_in _ [298, 300, 302, 304, 306, 308, 310] (by decide +kernel) (by decide +kernel)
def R_Assembler : String := "TensorForge$Assembler"
def F_Assembler : u_T := fun k => match k with
  | 0 => ("TensorForge$Assembler", "text", "LTensorForge$Text;", true)
  | 1 => ("TensorForge$Assembler", "made", "I", false)
  | 2 => ("TensorForge$Assembler", "built", "J", false)
  | _ => ("TensorForge$Assembler", "seen", "I", false)
def t_Assembler : Nat → FieldType := fun k => match k with
  | 0 => .object "TensorForge$Text"
  | 1 => .int
  | 2 => .long
  | _ => .int
theorem n_Assembler : ∀ a, a < 4 → ∀ b, b < 4 → a ≠ b → (F_Assembler a).2.1 ≠ (F_Assembler b).2.1 := by decide +kernel
theorem t_Assembler_ok : ∀ k, k < 4 → parseFieldDescriptor (F_Assembler k).2.2.1 = some (t_Assembler k) := by decide +kernel
theorem i_Assembler : ∀ w ∈ u_ws R_Assembler F_Assembler 4, w ∈ mm_tb := mm_tb_in _ [325, 327, 329, 331] (by decide +kernel) (by decide +kernel)
def R_NetworkReader : String := "TensorForge$NetworkReader"
def F_NetworkReader : u_T := fun k => match k with
  | 0 => ("TensorForge$NetworkReader", "text", "LTensorForge$Text;", true)
  | 1 => ("TensorForge$NetworkReader", "net", "LTensorForge$Network;", false)
  | 2 => ("TensorForge$NetworkReader", "nameFrom", "[I", true)
  | 3 => ("TensorForge$NetworkReader", "nameSize", "[I", true)
  | 4 => ("TensorForge$NetworkReader", "lineNameFrom", "I", false)
  | 5 => ("TensorForge$NetworkReader", "lineNameSize", "I", false)
  | 6 => ("TensorForge$NetworkReader", "allowed", "I", false)
  | 7 => ("TensorForge$NetworkReader", "needed", "I", false)
  | _ => ("TensorForge$NetworkReader", "seen", "I", false)
def t_NetworkReader : Nat → FieldType := fun k => match k with
  | 0 => .object "TensorForge$Text"
  | 1 => .object "TensorForge$Network"
  | 2 => .array .int
  | 3 => .array .int
  | 4 => .int
  | 5 => .int
  | 6 => .int
  | 7 => .int
  | _ => .int
theorem n_NetworkReader : ∀ a, a < 9 → ∀ b, b < 9 → a ≠ b → (F_NetworkReader a).2.1 ≠ (F_NetworkReader b).2.1 := by decide +kernel
theorem t_NetworkReader_ok : ∀ k, k < 9 → parseFieldDescriptor (F_NetworkReader k).2.2.1 = some (t_NetworkReader k) := by decide +kernel
theorem i_NetworkReader : ∀ w ∈ u_ws R_NetworkReader F_NetworkReader 9, w ∈ mm_tb := mm_tb_in _ [349, 351, 353, 355, 357, 359, 361, 363, 365] (by decide +kernel) (by decide +kernel)
def R_Compiler : String := "TensorForge$Compiler"
def F_Compiler : u_T := fun k => match k with
  | 0 => ("TensorForge$Compiler", "words", "[J", false)
  | 1 => ("TensorForge$Compiler", "made", "I", false)
  | 2 => ("TensorForge$Compiler", "side", "I", false)
  | 3 => ("TensorForge$Compiler", "layer", "LTensorForge$Layer;", false)
  | 4 => ("TensorForge$Compiler", "first", "LTensorForge$Layer;", false)
  | 5 => ("TensorForge$Compiler", "second", "LTensorForge$Layer;", false)
  | 6 => ("TensorForge$Compiler", "tile", "I", false)
  | 7 => ("TensorForge$Compiler", "channel", "I", false)
  | 8 => ("TensorForge$Compiler", "columns", "I", false)
  | 9 => ("TensorForge$Compiler", "row", "I", false)
  | 10 => ("TensorForge$Compiler", "start", "I", false)
  | 11 => ("TensorForge$Compiler", "places", "I", false)
  | 12 => ("TensorForge$Compiler", "group", "I", false)
  | 13 => ("TensorForge$Compiler", "kernelRow", "I", false)
  | 14 => ("TensorForge$Compiler", "kernelColumn", "I", false)
  | 15 => ("TensorForge$Compiler", "block", "I", false)
  | _ => ("TensorForge$Compiler", "depth", "I", false)
def t_Compiler : Nat → FieldType := fun k => match k with
  | 0 => .array .long
  | 1 => .int
  | 2 => .int
  | 3 => .object "TensorForge$Layer"
  | 4 => .object "TensorForge$Layer"
  | 5 => .object "TensorForge$Layer"
  | 6 => .int
  | 7 => .int
  | 8 => .int
  | 9 => .int
  | 10 => .int
  | 11 => .int
  | 12 => .int
  | 13 => .int
  | 14 => .int
  | 15 => .int
  | _ => .int
theorem n_Compiler : ∀ a, a < 17 → ∀ b, b < 17 → a ≠ b → (F_Compiler a).2.1 ≠ (F_Compiler b).2.1 := by decide +kernel
theorem t_Compiler_ok : ∀ k, k < 17 → parseFieldDescriptor (F_Compiler k).2.2.1 = some (t_Compiler k) := by decide +kernel
theorem i_Compiler : ∀ w ∈ u_ws R_Compiler F_Compiler 17, w ∈ mm_tb := mm_tb_in _ [392, 394, 396, 398, 400, 402, 404, 406, 408, 410, 412, 414, 416, 418, 420, 422, 424] (by decide +kernel) (by decide +kernel)
def R_Line : String := "TensorForge$Line"
def F_Line : u_T := fun k => match k with
  | 0 => ("TensorForge$Line", "signs", "[C", true)
  | _ => ("TensorForge$Line", "count", "I", false)
def t_Line : Nat → FieldType := fun k => match k with
  | 0 => .array .char
  | _ => .int
theorem n_Line : ∀ a, a < 2 → ∀ b, b < 2 → a ≠ b → (F_Line a).2.1 ≠ (F_Line b).2.1 := by decide +kernel
theorem t_Line_ok : ∀ k, k < 2 → parseFieldDescriptor (F_Line k).2.2.1 = some (t_Line k) := by decide +kernel
theorem i_Line : ∀ w ∈ u_ws R_Line F_Line 2, w ∈ mm_tb := mm_tb_in _ [435, 437] (by decide +kernel) (by decide +kernel)
def R_Md : String := "TensorForgeModel"
def F_Md : u_T := fun k => match k with
  | 0 => ("TensorForgeModel", "thrown", "I", false)
  | 1 => ("TensorForgeModel", "side", "I", false)
  | 2 => ("TensorForgeModel", "memory", "[I", true)
  | 3 => ("TensorForgeModel", "cells", "[I", true)
  | 4 => ("TensorForgeModel", "weights", "[I", true)
  | 5 => ("TensorForgeModel", "sums", "[I", true)
  | 6 => ("TensorForgeModel", "results", "[I", true)
  | 7 => ("TensorForgeModel", "length", "I", false)
  | 8 => ("TensorForgeModel", "words", "[J", true)
  | 9 => ("TensorForgeModel", "made", "[J", true)
  | 10 => ("TensorForgeModel", "makes", "I", false)
  | 11 => ("TensorForgeModel", "field", "[I", true)
  | 12 => ("TensorForgeModel", "reads", "[I", true)
  | 13 => ("TensorForgeModel", "writes", "[I", true)
  | 14 => ("TensorForgeModel", "stopped", "I", false)
  | 15 => ("TensorForgeModel", "culprit", "I", false)
  | 16 => ("TensorForgeModel", "stopCycle", "I", false)
  | 17 => ("TensorForgeModel", "worked", "[I", true)
  | 18 => ("TensorForgeModel", "tokens", "[I", true)
  | 19 => ("TensorForgeModel", "ran", "I", false)
  | 20 => ("TensorForgeModel", "units", "[I", true)
  | 21 => ("TensorForgeModel", "begins", "[I", true)
  | 22 => ("TensorForgeModel", "ends", "[I", true)
  | 23 => ("TensorForgeModel", "pushed", "[Z", true)
  | 24 => ("TensorForgeModel", "flags", "[I", true)
  | 25 => ("TensorForgeModel", "under", "[I", true)
  | 26 => ("TensorForgeModel", "next", "[I", true)
  | 27 => ("TensorForgeModel", "signs", "[I", true)
  | 28 => ("TensorForgeModel", "size", "I", false)
  | 29 => ("TensorForgeModel", "names", "[J", true)
  | 30 => ("TensorForgeModel", "token", "I", false)
  | 31 => ("TensorForgeModel", "tokenValue", "I", false)
  | 32 => ("TensorForgeModel", "at", "I", false)
  | 33 => ("TensorForgeModel", "lineEnd", "I", false)
  | 34 => ("TensorForgeModel", "listed", "I", false)
  | 35 => ("TensorForgeModel", "list", "[I", true)
  | 36 => ("TensorForgeModel", "tensors", "I", false)
  | 37 => ("TensorForgeModel", "heights", "[I", true)
  | 38 => ("TensorForgeModel", "widths", "[I", true)
  | 39 => ("TensorForgeModel", "channels", "[I", true)
  | 40 => ("TensorForgeModel", "froms", "[I", true)
  | 41 => ("TensorForgeModel", "kinds", "[I", true)
  | 42 => ("TensorForgeModel", "ones", "[I", true)
  | 43 => ("TensorForgeModel", "twos", "[I", true)
  | 44 => ("TensorForgeModel", "kernelRows", "[I", true)
  | 45 => ("TensorForgeModel", "kernelColumns", "[I", true)
  | 46 => ("TensorForgeModel", "steps", "[I", true)
  | 47 => ("TensorForgeModel", "edges", "[I", true)
  | 48 => ("TensorForgeModel", "shifts", "[I", true)
  | 49 => ("TensorForgeModel", "parameters", "[I", true)
  | 50 => ("TensorForgeModel", "tiles", "I", false)
  | 51 => ("TensorForgeModel", "groups", "I", false)
  | 52 => ("TensorForgeModel", "places", "I", false)
  | 53 => ("TensorForgeModel", "wide", "I", false)
  | 54 => ("TensorForgeModel", "firstPlace", "I", false)
  | 55 => ("TensorForgeModel", "tileRow", "I", false)
  | 56 => ("TensorForgeModel", "firstChannel", "I", false)
  | 57 => ("TensorForgeModel", "loads", "I", false)
  | 58 => ("TensorForgeModel", "ownReads", "[I", true)
  | 59 => ("TensorForgeModel", "ownWrites", "[I", true)
  | 60 => ("TensorForgeModel", "loadsLeft", "I", false)
  | 61 => ("TensorForgeModel", "wordCode", "J", false)
  | 62 => ("TensorForgeModel", "tensorNames", "[J", true)
  | 63 => ("TensorForgeModel", "told", "[I", true)
  | 64 => ("TensorForgeModel", "toldName", "J", false)
  | 65 => ("TensorForgeModel", "toldBits", "I", false)
  | 66 => ("TensorForgeModel", "keptTensors", "I", false)
  | 67 => ("TensorForgeModel", "kept", "[I", true)
  | _ => ("TensorForgeModel", "placesBefore", "[I", true)
def t_Md : Nat → FieldType := fun k => match k with
  | 0 => .int
  | 1 => .int
  | 2 => .array .int
  | 3 => .array .int
  | 4 => .array .int
  | 5 => .array .int
  | 6 => .array .int
  | 7 => .int
  | 8 => .array .long
  | 9 => .array .long
  | 10 => .int
  | 11 => .array .int
  | 12 => .array .int
  | 13 => .array .int
  | 14 => .int
  | 15 => .int
  | 16 => .int
  | 17 => .array .int
  | 18 => .array .int
  | 19 => .int
  | 20 => .array .int
  | 21 => .array .int
  | 22 => .array .int
  | 23 => .array .boolean
  | 24 => .array .int
  | 25 => .array .int
  | 26 => .array .int
  | 27 => .array .int
  | 28 => .int
  | 29 => .array .long
  | 30 => .int
  | 31 => .int
  | 32 => .int
  | 33 => .int
  | 34 => .int
  | 35 => .array .int
  | 36 => .int
  | 37 => .array .int
  | 38 => .array .int
  | 39 => .array .int
  | 40 => .array .int
  | 41 => .array .int
  | 42 => .array .int
  | 43 => .array .int
  | 44 => .array .int
  | 45 => .array .int
  | 46 => .array .int
  | 47 => .array .int
  | 48 => .array .int
  | 49 => .array .int
  | 50 => .int
  | 51 => .int
  | 52 => .int
  | 53 => .int
  | 54 => .int
  | 55 => .int
  | 56 => .int
  | 57 => .int
  | 58 => .array .int
  | 59 => .array .int
  | 60 => .int
  | 61 => .long
  | 62 => .array .long
  | 63 => .array .int
  | 64 => .long
  | 65 => .int
  | 66 => .int
  | 67 => .array .int
  | _ => .array .int
theorem n_Md : ∀ a, a < 69 → ∀ b, b < 69 → a ≠ b → (F_Md a).2.1 ≠ (F_Md b).2.1 := by decide +kernel
theorem t_Md_ok : ∀ k, k < 69 → parseFieldDescriptor (F_Md k).2.2.1 = some (t_Md k) := by decide +kernel
theorem i_Md : ∀ w ∈ u_ws R_Md F_Md 69, w ∈ mm_tb := mm_tb_in _ [1680, 1682, 1684, 1686, 1688, 1690, 1692, 1694, 1696, 1698, 1700, 1702, 1704, 1706, 1708, 1710, 1712, 1714, 1716, 1718, 1720, 1722, 1724, 1726, 1728, 1730, 1732, 1734, 1736, 1738, 1740, 1742, 1744, 1746, 1748, 1750, 1752, 1754, 1756, 1758, 1760, 1762, 1764, 1766, 1768, 1770, 1772, 1774, 1776, 1778, 1780, 1782, 1784, 1786, 1788, 1790, 1792, 1794, 1796, 1798, 1800, 1802, 1804, 1806, 1808, 1810, 1812, 1814, 1816] (by decide +kernel) (by decide +kernel)
abbrev mm_cl : List vw_C := [(R_TF, F_TF, 12), (R_Network, F_Network, 2), (R_Layer, F_Layer, 15), (R_Machine, F_Machine, 14), (R_Reaches, F_Reaches, 4), (R_Run, F_Run, 10), (R_Text, F_Text, 7), (R_Assembler, F_Assembler, 4), (R_NetworkReader, F_NetworkReader, 9), (R_Compiler, F_Compiler, 17), (R_Line, F_Line, 2), (R_Md, F_Md, 69)]
-- class 0: TensorForge
-- class 1: TensorForge$Network
-- class 2: TensorForge$Layer
-- class 3: TensorForge$Machine
-- class 4: TensorForge$Reaches
-- class 5: TensorForge$Run
-- class 6: TensorForge$Text
-- class 7: TensorForge$Assembler
-- class 8: TensorForge$NetworkReader
-- class 9: TensorForge$Compiler
-- class 10: TensorForge$Line
-- class 11: TensorForgeModel
abbrev mm_ty : List FieldType := [.object "TensorForge$Layer", .long, .byte, .int, .object "TensorForge$Reaches", .char, .boolean]
/-! string constants: the texts; (class, entry, number of the text) -/
def mm_txt : List String := ["cells", "weights", "clear", "sums", "multiply", "combine", "narrow", "store", "wait", "?", "at", "by", "x", "a", "b", "step", "n", "pop", "before", "behind", "push", "conv", "pool", "add", "outputs", "edge", "shift", "relu", "as", "input", "a side is 2 to 8", "four bytes aren't there", "there is no such buffer", "there is no such place", "there is no such word", "a program has at most 600 words", "there are not so many words", "there is no such field", "a byte is no sign of a text", "a text has at most 1500 signs", "there are not so many signs", "there is no such word or sign", "pop before", "pop behind", "push before", "push behind", "nothing such is told of a run", "no program has run", "the program had no such word", "nothing such is told of an instruction", "an input can't have this form", "there is no such tensor", "a layer can't be so", "there is no room for the layer", "nothing such is told of a tensor", "the network has no room in a program", "there is no such line or sign", "a tensor would end beyond 2048", "there is no such unit or cycle"]
def mm_strs : List (String × Nat × Nat) := [("TensorForge$Words", 35, 0), ("TensorForge$Words", 37, 1), ("TensorForge$Words", 39, 2), ("TensorForge$Words", 41, 3), ("TensorForge$Words", 43, 4), ("TensorForge$Words", 45, 5), ("TensorForge$Words", 47, 6), ("TensorForge$Words", 49, 7), ("TensorForge$Words", 51, 8), ("TensorForge$Words", 53, 9), ("TensorForge$Assembler", 65, 10), ("TensorForge$Assembler", 71, 11), ("TensorForge$Assembler", 73, 12), ("TensorForge$Assembler", 78, 13), ("TensorForge$Assembler", 80, 14), ("TensorForge$Assembler", 82, 15), ("TensorForge$Assembler", 84, 16), ("TensorForge$Assembler", 86, 17), ("TensorForge$Assembler", 107, 18), ("TensorForge$Assembler", 109, 19), ("TensorForge$Assembler", 92, 20), ("TensorForge$NetworkReader", 110, 21), ("TensorForge$NetworkReader", 114, 22), ("TensorForge$NetworkReader", 116, 23), ("TensorForge$NetworkReader", 142, 11), ("TensorForge$NetworkReader", 144, 24), ("TensorForge$NetworkReader", 146, 10), ("TensorForge$NetworkReader", 148, 15), ("TensorForge$NetworkReader", 150, 25), ("TensorForge$NetworkReader", 152, 26), ("TensorForge$NetworkReader", 154, 27), ("TensorForge$NetworkReader", 156, 28), ("TensorForge$NetworkReader", 85, 29), ("TensorForge$NetworkReader", 97, 12), ("TensorForge", 89, 30), ("TensorForge", 103, 31), ("TensorForge", 112, 32), ("TensorForge", 118, 33), ("TensorForge", 124, 34), ("TensorForge", 128, 35), ("TensorForge", 131, 36), ("TensorForge", 135, 37), ("TensorForge", 149, 38), ("TensorForge", 154, 39), ("TensorForge", 160, 40), ("TensorForge", 172, 41), ("TensorForge$Line", 33, 10), ("TensorForge$Line", 43, 11), ("TensorForge$Line", 120, 12), ("TensorForge$Line", 49, 13), ("TensorForge$Line", 51, 14), ("TensorForge$Line", 53, 15), ("TensorForge$Line", 55, 16), ("TensorForge$Line", 57, 42), ("TensorForge$Line", 63, 43), ("TensorForge$Line", 65, 44), ("TensorForge$Line", 67, 45), ("TensorForge", 189, 46), ("TensorForge", 335, 47), ("TensorForge", 195, 48), ("TensorForge", 197, 49), ("TensorForge", 214, 50), ("TensorForge", 254, 51), ("TensorForge", 329, 52), ("TensorForge", 331, 53), ("TensorForge", 256, 54), ("TensorForge", 286, 55), ("TensorForge", 299, 56), ("TensorForge$Line", 78, 21), ("TensorForge$Line", 93, 24), ("TensorForge$Line", 101, 22), ("TensorForge$Line", 103, 23), ("TensorForge$Line", 112, 29), ("TensorForge$Line", 131, 25), ("TensorForge$Line", 135, 26), ("TensorForge$Line", 140, 27), ("TensorForge", 309, 57), ("TensorForge", 338, 58)]
def mm_byt : List (List Int32) := [[99, 101, 108, 108, 115], [119, 101, 105, 103, 104, 116, 115], [99, 108, 101, 97, 114], [115, 117, 109, 115], [109, 117, 108, 116, 105, 112, 108, 121], [99, 111, 109, 98, 105, 110, 101], [110, 97, 114, 114, 111, 119], [115, 116, 111, 114, 101], [119, 97, 105, 116], [63], [97, 116], [98, 121], [120], [97], [98], [115, 116, 101, 112], [110], [112, 111, 112], [98, 101, 102, 111, 114, 101], [98, 101, 104, 105, 110, 100], [112, 117, 115, 104], [99, 111, 110, 118], [112, 111, 111, 108], [97, 100, 100], [111, 117, 116, 112, 117, 116, 115], [101, 100, 103, 101], [115, 104, 105, 102, 116], [114, 101, 108, 117], [97, 115], [105, 110, 112, 117, 116], [97, 32, 115, 105, 100, 101, 32, 105, 115, 32, 50, 32, 116, 111, 32, 56], [102, 111, 117, 114, 32, 98, 121, 116, 101, 115, 32, 97, 114, 101, 110, 39, 116, 32, 116, 104, 101, 114, 101], [116, 104, 101, 114, 101, 32, 105, 115, 32, 110, 111, 32, 115, 117, 99, 104, 32, 98, 117, 102, 102, 101, 114], [116, 104, 101, 114, 101, 32, 105, 115, 32, 110, 111, 32, 115, 117, 99, 104, 32, 112, 108, 97, 99, 101], [116, 104, 101, 114, 101, 32, 105, 115, 32, 110, 111, 32, 115, 117, 99, 104, 32, 119, 111, 114, 100], [97, 32, 112, 114, 111, 103, 114, 97, 109, 32, 104, 97, 115, 32, 97, 116, 32, 109, 111, 115, 116, 32, 54, 48, 48, 32, 119, 111, 114, 100, 115], [116, 104, 101, 114, 101, 32, 97, 114, 101, 32, 110, 111, 116, 32, 115, 111, 32, 109, 97, 110, 121, 32, 119, 111, 114, 100, 115], [116, 104, 101, 114, 101, 32, 105, 115, 32, 110, 111, 32, 115, 117, 99, 104, 32, 102, 105, 101, 108, 100], [97, 32, 98, 121, 116, 101, 32, 105, 115, 32, 110, 111, 32, 115, 105, 103, 110, 32, 111, 102, 32, 97, 32, 116, 101, 120, 116], [97, 32, 116, 101, 120, 116, 32, 104, 97, 115, 32, 97, 116, 32, 109, 111, 115, 116, 32, 49, 53, 48, 48, 32, 115, 105, 103, 110, 115], [116, 104, 101, 114, 101, 32, 97, 114, 101, 32, 110, 111, 116, 32, 115, 111, 32, 109, 97, 110, 121, 32, 115, 105, 103, 110, 115], [116, 104, 101, 114, 101, 32, 105, 115, 32, 110, 111, 32, 115, 117, 99, 104, 32, 119, 111, 114, 100, 32, 111, 114, 32, 115, 105, 103, 110], [112, 111, 112, 32, 98, 101, 102, 111, 114, 101], [112, 111, 112, 32, 98, 101, 104, 105, 110, 100], [112, 117, 115, 104, 32, 98, 101, 102, 111, 114, 101], [112, 117, 115, 104, 32, 98, 101, 104, 105, 110, 100], [110, 111, 116, 104, 105, 110, 103, 32, 115, 117, 99, 104, 32, 105, 115, 32, 116, 111, 108, 100, 32, 111, 102, 32, 97, 32, 114, 117, 110], [110, 111, 32, 112, 114, 111, 103, 114, 97, 109, 32, 104, 97, 115, 32, 114, 117, 110], [116, 104, 101, 32, 112, 114, 111, 103, 114, 97, 109, 32, 104, 97, 100, 32, 110, 111, 32, 115, 117, 99, 104, 32, 119, 111, 114, 100], [110, 111, 116, 104, 105, 110, 103, 32, 115, 117, 99, 104, 32, 105, 115, 32, 116, 111, 108, 100, 32, 111, 102, 32, 97, 110, 32, 105, 110, 115, 116, 114, 117, 99, 116, 105, 111, 110], [97, 110, 32, 105, 110, 112, 117, 116, 32, 99, 97, 110, 39, 116, 32, 104, 97, 118, 101, 32, 116, 104, 105, 115, 32, 102, 111, 114, 109], [116, 104, 101, 114, 101, 32, 105, 115, 32, 110, 111, 32, 115, 117, 99, 104, 32, 116, 101, 110, 115, 111, 114], [97, 32, 108, 97, 121, 101, 114, 32, 99, 97, 110, 39, 116, 32, 98, 101, 32, 115, 111], [116, 104, 101, 114, 101, 32, 105, 115, 32, 110, 111, 32, 114, 111, 111, 109, 32, 102, 111, 114, 32, 116, 104, 101, 32, 108, 97, 121, 101, 114], [110, 111, 116, 104, 105, 110, 103, 32, 115, 117, 99, 104, 32, 105, 115, 32, 116, 111, 108, 100, 32, 111, 102, 32, 97, 32, 116, 101, 110, 115, 111, 114], [116, 104, 101, 32, 110, 101, 116, 119, 111, 114, 107, 32, 104, 97, 115, 32, 110, 111, 32, 114, 111, 111, 109, 32, 105, 110, 32, 97, 32, 112, 114, 111, 103, 114, 97, 109], [116, 104, 101, 114, 101, 32, 105, 115, 32, 110, 111, 32, 115, 117, 99, 104, 32, 108, 105, 110, 101, 32, 111, 114, 32, 115, 105, 103, 110], [97, 32, 116, 101, 110, 115, 111, 114, 32, 119, 111, 117, 108, 100, 32, 101, 110, 100, 32, 98, 101, 121, 111, 110, 100, 32, 50, 48, 52, 56], [116, 104, 101, 114, 101, 32, 105, 115, 32, 110, 111, 32, 115, 117, 99, 104, 32, 117, 110, 105, 116, 32, 111, 114, 32, 99, 121, 99, 108, 101]]
def mm_len : List Nat := [5, 7, 5, 4, 8, 7, 6, 5, 4, 1, 2, 2, 1, 1, 1, 4, 1, 3, 6, 6, 4, 4, 4, 3, 7, 4, 5, 4, 2, 5, 16, 23, 23, 22, 21, 31, 27, 22, 27, 29, 27, 29, 10, 10, 11, 11, 29, 18, 28, 38, 29, 23, 19, 30, 32, 36, 29, 30, 30]
def mm_nw : List Cond := [(Cond.castable "java/lang/IllegalArgumentException" "java/lang/IllegalArgumentException"),
  (Cond.declares ({ cls := "java/lang/RuntimeException", name := "<init>", desc := "()V" } : MethodName)),
  (Cond.declares ({ cls := "java/lang/RuntimeException", name := "<init>", desc := "(Ljava/lang/String;)V" } : MethodName)),
  (Cond.declares ({ cls := "java/lang/Exception", name := "<init>", desc := "()V" } : MethodName)),
  (Cond.declares ({ cls := "java/lang/Exception", name := "<init>", desc := "(Ljava/lang/String;)V" } : MethodName)),
  (Cond.declares ({ cls := "java/lang/Throwable", name := "<init>", desc := "()V" } : MethodName)),
  (Cond.declares ({ cls := "java/lang/Throwable", name := "<init>", desc := "(Ljava/lang/String;)V" } : MethodName)),
  (Cond.castable "java/lang/IndexOutOfBoundsException" "java/lang/IndexOutOfBoundsException"),
  (Cond.castable "java/lang/UnsupportedOperationException" "java/lang/UnsupportedOperationException"),
  (Cond.castable "java/lang/IllegalStateException" "java/lang/IllegalStateException")]
theorem mm_nw_ok : ∀ w ∈ mm_nw, (∃ C T, w = Cond.castable C T) ∨ ∃ x, w = Cond.declares x := by
  intro w hw
  simp only [mm_nw, List.mem_cons, List.not_mem_nil, or_false] at hw
  rcases hw with rfl | rfl | rfl | rfl | rfl | rfl | rfl | rfl | rfl | rfl <;> first | exact Or.inl ⟨_, _, rfl⟩ | exact Or.inr ⟨_, rfl⟩
end
section
/-! A heap of places: our own cells are numbered from 1000 on in the order in which they are made, cells that were there before have numbers below 1000; a cell's references are such numbers. -/
abbrev mm_E : Type := (Nat × vp_A) ⊕ (Nat × List Value)
abbrev mm_M : Type := Nat → Option mm_E
/-- classes and slots; array classes by the number of their type; where our cells begin; the addresses of the old cells -/
abbrev mm_G : Type := va_G × (Nat → ClassId) × Nat × (Nat → Nat)
def mm_ad (g : mm_G) (a : Nat) : Nat := if a < 1000 then g.2.2.2 a else g.2.2.1 + (a - 1000)
def mm_tr (g : mm_G) (v : Value) : Value := match v with
  | .ref a => .ref (mm_ad g a)
  | v => v
def mm_trA (g : mm_G) (x : vp_A) : vp_A := match x with
  | (n, .inr (.inr (.inr (.inr f)))) => (n, .inr (.inr (.inr (.inr (fun i => (f i).map (mm_ad g))))))
  | x => x
def mm_trE (g : mm_G) (e : mm_E) : va_E := match e with
  | .inl (t, x) => .inl (g.2.1 t, mm_trA g x)
  | .inr (ci, fs) => .inr (ci, fs.map (mm_tr g))
def mm_up (M : mm_M) (a : Nat) (e : mm_E) : mm_M := fun b => if b = a then some e else M b
theorem mm_up_s {M : mm_M} {a : Nat} {e : mm_E} : mm_up M a e a = some e := by simp [mm_up]
theorem mm_up_n {M : mm_M} {a b : Nat} {e : mm_E} (h : b ≠ a) : mm_up M a e b = M b := by simp [mm_up, h]
theorem mm_ad_lt {g : mm_G} {a b : Nat} (ha : 1000 ≤ a) (h : a < b) : mm_ad g a < mm_ad g b := by
  unfold mm_ad
  rw [if_neg (by omega), if_neg (by omega)]
  omega
theorem mm_ad_inj {g : mm_G} {a b : Nat} (ha : 1000 ≤ a) (hb : 1000 ≤ b) (h : mm_ad g a = mm_ad g b) : a = b := by
  rcases Nat.lt_trichotomy a b with q | q | q
  · have := mm_ad_lt (g := g) ha q
    omega
  · exact q
  · have := mm_ad_lt (g := g) hb q
    omega
/-- the heap holds the cells: all that were made so far, in their order (some of them of no interest) -/
def mm_H (g : mm_G) (M : mm_M) (n : Nat) (H : Heap) : Prop := 1000 ≤ n ∧ H.size + 1000 = g.2.2.1 + n ∧ ∀ (a : Nat) (e : mm_E), M a = some e → 1000 ≤ a ∧ a < n ∧ va_at g.1 mm_cl (mm_ad g a, mm_trE g e) H
def mm_A (g : mm_G) : Nat → Prop := fun q => g.2.2.1 ≤ q
theorem mm_ad_A {g : mm_G} {a : Nat} (h : 1000 ≤ a) : mm_A g (mm_ad g a) := by
  unfold mm_A mm_ad
  rw [if_neg (by omega)]
  omega
theorem mm_one {D : va_G} {cl : List vw_C} {q : Nat × va_E} {H : Heap} (h : va_at D cl q H) : va_P D cl [q] H := by
  intro k r hk
  cases k with
  | zero => cases hk; exact h
  | succ k => simp at hk
theorem mm_H.P {g : mm_G} {M : mm_M} {n : Nat} {H : Heap} (h : mm_H g M n H) {a : Nat} {e : mm_E} (hm : M a = some e) : va_P g.1 mm_cl [(mm_ad g a, mm_trE g e)] H := mm_one (h.2.2 a e hm).2.2
/-- behind a write of one cell -/
theorem mm_H.set {g : mm_G} {M : mm_M} {n : Nat} {H H1 : Heap} (h : mm_H g M n H) {a : Nat} {e e1 : mm_E} (hm : M a = some e) (hz : H1.size = H.size) (ho : ∀ q : Nat, q ≠ mm_ad g a → H1[q]? = H[q]?) (hP : va_at g.1 mm_cl (mm_ad g a, mm_trE g e1) H1) : mm_H g (mm_up M a e1) n H1 := by
  refine ⟨h.1, by rw [hz]; exact h.2.1, fun b f hb => ?_⟩
  by_cases q : b = a
  · subst q
    rw [mm_up_s] at hb
    cases hb
    exact ⟨(h.2.2 b e hm).1, (h.2.2 b e hm).2.1, hP⟩
  · rw [mm_up_n q] at hb
    obtain ⟨h1, h2, h3⟩ := h.2.2 b f hb
    exact ⟨h1, h2, h3.kept (ho _ (fun z => q (mm_ad_inj h1 (h.2.2 a e hm).1 z)))⟩
theorem mm_H.end {g : mm_G} {M : mm_M} {n : Nat} {H : Heap} (h : mm_H g M n H) : mm_ad g n = H.size := by
  unfold mm_ad
  have h1 := h.1
  have h2 := h.2.1
  rw [if_neg (by omega)]
  omega
/-- behind a new cell -/
theorem mm_H.push {g : mm_G} {M : mm_M} {n : Nat} {H H1 : Heap} (h : mm_H g M n H) {e1 : mm_E} (hz : H1.size = H.size + 1) (ho : ∀ q : Nat, q < H.size → H1[q]? = H[q]?) (hP : va_at g.1 mm_cl (mm_ad g n, mm_trE g e1) H1) : mm_H g (mm_up M n e1) (n + 1) H1 := by
  have h1 := h.1
  have h2 := h.2.1
  refine ⟨by omega, by omega, fun b f hb => ?_⟩
  by_cases z : b = n
  · subst z
    rw [mm_up_s] at hb
    cases hb
    exact ⟨h1, by omega, hP⟩
  · rw [mm_up_n z] at hb
    obtain ⟨q1, q2, q3⟩ := h.2.2 b f hb
    exact ⟨q1, by omega, q3.kept (ho _ q3.lt)⟩
/-- cells of no interest come -/
theorem mm_H.more {g : mm_G} {M : mm_M} {n k : Nat} {H H1 : Heap} (h : mm_H g M n H) (hz : H1.size = H.size + k) (ho : ∀ q : Nat, q < H.size → H1[q]? = H[q]?) : mm_H g M (n + k) H1 := by
  have h1 := h.1
  have h2 := h.2.1
  refine ⟨by omega, by omega, fun b f hb => ?_⟩
  obtain ⟨q1, q2, q3⟩ := h.2.2 b f hb
  exact ⟨q1, by omega, q3.kept (ho _ q3.lt)⟩
/-- the locals: what is known of them -/
def mm_lg : List (Option Value) → Nat → Option Value
  | [], _ => none
  | a :: _, 0 => a
  | _ :: l, i + 1 => mm_lg l i
def mm_lset : List (Option Value) → Nat → Option Value → List (Option Value)
  | [], 0, v => [v]
  | [], i + 1, v => none :: mm_lset [] i v
  | _ :: l, 0, v => v :: l
  | a :: l, i + 1, v => a :: mm_lset l i v
theorem mm_lg_set : ∀ (l : List (Option Value)) (i : Nat) (v : Option Value) (j : Nat), mm_lg (mm_lset l i v) j = if j = i then v else mm_lg l j
  | [], 0, v, 0 => rfl
  | [], 0, v, j + 1 => rfl
  | [], i + 1, v, 0 => rfl
  | [], i + 1, v, j + 1 => by
    show mm_lg (mm_lset [] i v) j = _
    rw [mm_lg_set [] i v j]
    by_cases h : j = i
    · rw [if_pos h, if_pos (by omega)]
    · rw [if_neg h, if_neg (by omega)]; rfl
  | a :: l, 0, v, 0 => rfl
  | a :: l, 0, v, j + 1 => rfl
  | a :: l, i + 1, v, 0 => rfl
  | a :: l, i + 1, v, j + 1 => by
    show mm_lg (mm_lset l i v) j = _
    rw [mm_lg_set l i v j]
    by_cases h : j = i
    · rw [if_pos h, if_pos (by omega)]
    · rw [if_neg h, if_neg (by omega)]; rfl
/-- a value of two words is lost when its second word is written -/
def mm_c2 (o : Option Value) : Option Value := match o with
  | some (.long _) => none
  | some (.double _) => none
  | o => o
theorem mm_c2_of {o : Option Value} {v : Value} (h : mm_c2 o = some v) : o = some v ∧ ¬ v.category = 2 := by
  cases o with
  | none => cases h
  | some w => cases w <;> first | (cases h; done) | (cases h; exact ⟨rfl, by simp [Value.category]⟩)
def mm_st1 (ls : List (Option Value)) (i : Nat) (v : Value) : List (Option Value) := match i with
  | 0 => mm_lset ls 0 (some v)
  | i + 1 => mm_lset (mm_lset ls i (mm_c2 (mm_lg ls i))) (i + 1) (some v)
def mm_st2 (ls : List (Option Value)) (i : Nat) (v : Value) : List (Option Value) := mm_lset (mm_st1 ls i v) (i + 1) none
theorem mm_st1_of {ls : List (Option Value)} {i j : Nat} {v w : Value} (h : mm_lg (mm_st1 ls i v) j = some w) : (j = i ∧ w = v) ∨ (j ≠ i ∧ mm_lg ls j = some w ∧ ¬ (j + 1 = i ∧ w.category = 2)) := by
  cases i with
  | zero =>
    simp only [mm_st1, mm_lg_set] at h
    by_cases q : j = 0
    · rw [if_pos q] at h
      exact Or.inl ⟨q, (Option.some.inj h).symm⟩
    · rw [if_neg q] at h
      exact Or.inr ⟨q, h, fun z => by omega⟩
  | succ i =>
    simp only [mm_st1, mm_lg_set] at h
    by_cases q : j = i + 1
    · rw [if_pos q] at h
      exact Or.inl ⟨q, (Option.some.inj h).symm⟩
    · rw [if_neg q] at h
      by_cases q2 : j = i
      · rw [if_pos q2] at h
        obtain ⟨h1, h2⟩ := mm_c2_of h
        subst q2
        exact Or.inr ⟨q, h1, fun z => h2 z.2⟩
      · rw [if_neg q2] at h
        exact Or.inr ⟨q, h, fun z => by omega⟩
theorem mm_st2_of {ls : List (Option Value)} {i j : Nat} {v w : Value} (h : mm_lg (mm_st2 ls i v) j = some w) : (j = i ∧ w = v) ∨ (j ≠ i ∧ j ≠ i + 1 ∧ mm_lg ls j = some w ∧ ¬ (j + 1 = i ∧ w.category = 2)) := by
  simp only [mm_st2, mm_lg_set] at h
  by_cases q : j = i + 1
  · rw [if_pos q] at h; cases h
  · rw [if_neg q] at h
    rcases mm_st1_of h with h | ⟨h1, h2, h3⟩
    · exact Or.inl h
    · exact Or.inr ⟨h1, q, h2, h3⟩
theorem mm_tr_cat (g : mm_G) (v : Value) : (mm_tr g v).category = v.category := by cases v <;> rfl
def mm_L (g : mm_G) (nL : Nat) (ls : List (Option Value)) (lsM : Array Slot) : Prop := lsM.size = nL ∧ lv_wf lsM ∧ ∀ (i : Nat) (v : Value), mm_lg ls i = some v → lsM[i]? = some (.val (mm_tr g v))
def mm_kn (g : mm_G) (nL : Nat) (ls : List (Option Value)) : List (Nat × Value) := (List.range nL).filterMap (fun i => (mm_lg ls i).map (fun v => (i, mm_tr g v)))
theorem mm_kn_mem {g : mm_G} {nL : Nat} {ls : List (Option Value)} {q : Nat × Value} : q ∈ mm_kn g nL ls ↔ ∃ i v, i < nL ∧ mm_lg ls i = some v ∧ q = (i, mm_tr g v) := by
  unfold mm_kn
  rw [List.mem_filterMap]
  constructor
  · rintro ⟨a, ha, h⟩
    cases hm : mm_lg ls a with
    | none => rw [hm] at h; cases h
    | some e => rw [hm] at h; exact ⟨a, e, List.mem_range.mp ha, hm, (Option.some.inj h).symm⟩
  · rintro ⟨a, e, ha, hm, rfl⟩
    exact ⟨a, List.mem_range.mpr ha, by rw [hm]; rfl⟩
theorem mm_L.has {g : mm_G} {nL : Nat} {ls : List (Option Value)} {lsM : Array Slot} (h : mm_L g nL ls lsM) : lv_has lsM nL (mm_kn g nL ls) := by
  refine ⟨h.1, h.2.1, fun q hq => ?_⟩
  obtain ⟨i, v, -, hv, rfl⟩ := mm_kn_mem.mp hq
  exact h.2.2 i v hv
theorem mm_L.lt {g : mm_G} {nL : Nat} {ls : List (Option Value)} {lsM : Array Slot} (h : mm_L g nL ls lsM) {i : Nat} {v : Value} (hv : mm_lg ls i = some v) : i < nL := by
  have := lv_lt (h.2.2 i v hv)
  rw [h.1] at this
  exact this
theorem mm_L.st1 {g : mm_G} {nL i : Nat} {ls : List (Option Value)} {lsM ls1 : Array Slot} {v : Value} (h : mm_L g nL ls lsM) (h1 : lv_has ls1 nL ((i, mm_tr g v) :: (mm_kn g nL ls).filter (fun q => !(q.1 == i) && !(q.1 + 1 == i && q.2.category == 2)))) : mm_L g nL (mm_st1 ls i v) ls1 := by
  refine ⟨h1.1, h1.2.1, fun j w hw => ?_⟩
  rcases mm_st1_of hw with ⟨rfl, rfl⟩ | ⟨q1, q2, q3⟩
  · exact h1.2.2 (j, mm_tr g w) List.mem_cons_self
  · refine h1.2.2 (j, mm_tr g w) (List.mem_cons_of_mem _ (List.mem_filter.mpr ⟨mm_kn_mem.mpr ⟨j, w, h.lt q2, q2, rfl⟩, ?_⟩))
    simp only [Bool.and_eq_true, Bool.not_eq_true', beq_eq_false_iff_ne, ne_eq, Bool.and_eq_false_iff, mm_tr_cat]
    refine ⟨q1, ?_⟩
    by_cases z : j + 1 = i
    · exact Or.inr (fun z2 => q3 ⟨z, z2⟩)
    · exact Or.inl z
theorem mm_L.st2 {g : mm_G} {nL i : Nat} {ls : List (Option Value)} {lsM ls1 : Array Slot} {v : Value} (h : mm_L g nL ls lsM) (h1 : lv_has ls1 nL ((i, mm_tr g v) :: (mm_kn g nL ls).filter (fun q => !(q.1 == i) && (!(q.1 == i + 1) && !(q.1 + 1 == i && q.2.category == 2))))) : mm_L g nL (mm_st2 ls i v) ls1 := by
  refine ⟨h1.1, h1.2.1, fun j w hw => ?_⟩
  rcases mm_st2_of hw with ⟨rfl, rfl⟩ | ⟨q1, q2, q3, q4⟩
  · exact h1.2.2 (j, mm_tr g w) List.mem_cons_self
  · refine h1.2.2 (j, mm_tr g w) (List.mem_cons_of_mem _ (List.mem_filter.mpr ⟨mm_kn_mem.mpr ⟨j, w, h.lt q3, q3, rfl⟩, ?_⟩))
    simp only [Bool.and_eq_true, Bool.not_eq_true', beq_eq_false_iff_ne, ne_eq, Bool.and_eq_false_iff, mm_tr_cat]
    refine ⟨q1, q2, ?_⟩
    by_cases z : j + 1 = i
    · exact Or.inr (fun z2 => q4 ⟨z, z2⟩)
    · exact Or.inl z
theorem mm_L.less {g : mm_G} {nL : Nat} {ls ls1 : List (Option Value)} {lsM : Array Slot} (h : mm_L g nL ls lsM) (hs : ∀ (i : Nat) (v : Value), mm_lg ls1 i = some v → mm_lg ls i = some v) : mm_L g nL ls1 lsM := ⟨h.1, h.2.1, fun i v hv => h.2.2 i v (hs i v hv)⟩
end
section
/-! The judgement: from this place of the method, with these locals, this stack and these cells, the method comes to an end with Q. -/
abbrev mm_Y : Type := MethodName × ByteArray × Nat × Option FieldType
/-- an end: an answer, or the number of an exception's class; the cells; how many -/
abbrev mm_O : Type := (Option Value ⊕ Nat) × mm_M × Nat
def mm_xn (k : Nat) : String := match k with
  | 0 => "java/lang/IllegalArgumentException"
  | 1 => "java/lang/IndexOutOfBoundsException"
  | 2 => "java/lang/UnsupportedOperationException"
  | _ => "java/lang/IllegalStateException"
def mm_Xc (k : Nat) (x : Addr) (t : State) : Prop := ∃ cell : Cell, t.heap[x]? = some cell ∧ cell.vm.isStatics = false ∧ t.vm.findClass (mm_xn k) = some cell.cls
def mm_tys (g : mm_G) : List (ClassId × FieldType) := mm_ty.mapIdx (fun i t => (g.2.1 i, t))
theorem mm_tys_at {g : mm_G} {t : Nat} {ty : FieldType} (h : mm_ty[t]? = some ty) : (mm_tys g)[t]? = some (g.2.1 t, ty) := by
  unfold mm_tys
  rw [List.getElem?_mapIdx, h]
  rfl
/-- what holds all the time: classes and array classes; the static tables -/
def mm_sta : List (String × String × List Int32) := [("TensorForge$Reaches", "SIZES", [4096, 512, 512, 256, 256]), ("TensorForge$Words", "LOWEST_BIT", [0, 4, 5, 6, 7, 8, 20, 26, 31, 40, 49, 59]), ("TensorForge$Words", "MOST", [15, 1, 1, 1, 1, 4095, 63, 31, 511, 511, 1023, 31]), ("TensorForge$Words", "NAMED", [0, 0x5E0, 0x5E0, 0x1C0, 0x5E0, 0xFC0, 0xBC0, 0xBC0, 0x5E0, 0x800])]
def mm_Ist (g : mm_G) (U : State) (H : Heap) : Prop := ∀ (i : Nat) (q : String × String × List Int32), mm_sta[i]? = some q → va_Z q.1 q.2.1 "[I" (.ref (g.2.2.2 i)) (mm_A g) U H ∧ va_T .int (g.2.2.2 i) q.2.2.length (fun j => .int (q.2.2.getD j 0)) (mm_A g) U H
/-- what a throw needs beside the good words -/
def mm_Iex (g : mm_G) (U : State) (H : Heap) : Prop := (∀ w ∈ mm_nw, va_Nw w U) ∧ va_Zq "java/lang/Throwable" "UNASSIGNED_STACK" "[Ljava/lang/StackTraceElement;" (mm_A g) U H ∧ va_Zq "java/lang/Throwable" "SUPPRESSED_SENTINEL" "Ljava/util/List;" (mm_A g) U H ∧ ∀ a b : Nat, a < 4 → b < 4 → a ≠ b → va_Nc (mm_xn a) (mm_xn b) U
/-- a static field lies where it lay -/
def mm_Ls (C n d : String) (A : Nat → Prop) (U : State) (H : Heap) : Prop := ∃ (c i a : Nat) (k : Class) (f : Field) (cell : Cell), (U.vm.findClass C = some c ∧ U.fieldFound? C n d = some (c, k, i, f)) ∧ (f.isStatic = true ∧ k.statics = some a ∧ k.staticTypes[f.slot]? = some f.type) ∧ (¬ A a ∧ H[a]? = some cell) ∧ cell.vm.isStatics = true ∧ cell.cls = c ∧ f.slot < cell.slots.size
theorem mm_Ls.moved {C n d : String} {A : Nat → Prop} {u U : State} {H : Heap} (hvm : u.vm.Alike U.vm) (h : mm_Ls C n d A u H) : mm_Ls C n d A U H := by
  obtain ⟨c, i, a, k, f, cell, ⟨h1, h2⟩, ⟨h3, h4, h5⟩, h6, h7⟩ := h
  obtain ⟨k1, hk1, he⟩ := State.fieldFound?_setVm hvm h2
  exact ⟨c, i, a, k1, f, cell, ⟨by rw [hvm.findClass]; exact h1, hk1⟩, ⟨h3, by rw [he]; exact h4, by rw [he]; exact h5⟩, h6, h7⟩
theorem mm_Ls.kept {C n d : String} {A : Nat → Prop} {U : State} {H H1 : Heap} (h : mm_Ls C n d A U H) (hq : ∀ a : Nat, a < H.size → ¬ A a → H1[a]? = H[a]?) : mm_Ls C n d A U H1 := by
  obtain ⟨c, i, a, k, f, cell, h1, h3, ⟨h5, h6⟩, h7⟩ := h
  exact ⟨c, i, a, k, f, cell, h1, h3, ⟨h5, by rw [hq a (Array.getElem?_eq_some_iff.mp h6).1 h5]; exact h6⟩, h7⟩
theorem mm_Ls.use {C n d : String} {A : Nat → Prop} {s : State} {args : Array Value} (h : mm_Ls C n d A s s.heap) : (Cond.laysStatic C n d).before args s = true := by
  obtain ⟨c, i, a, k, f, cell, ⟨h1, h2⟩, ⟨h3, h4, h5⟩, ⟨-, h6⟩, h7, h8, h9⟩ := h
  exact Cond.laysStatic_of h1 h2 h3 h4 h6 h7 h8 h9 h5
/-- the texts -/
def mm_Itx (g : mm_G) (U : State) (H : Heap) : Prop := (∀ q ∈ mm_strs, vk_R q.1 q.2.1 (mm_txt.getD q.2.2 "") (g.2.2.2 (100 + q.2.2)) U) ∧ vk_S mm_txt.length mm_len mm_byt (fun i => g.2.2.2 (100 + i)) (fun i => g.2.2.2 (500 + i)) (mm_A g) U H ∧ va_Z "java/lang/String" "COMPACT_STRINGS" "Z" (.int 1) (mm_A g) U H ∧ (va_Z "jdk/internal/util/Preconditions" "SIOOBE_FORMATTER" "Ljava/util/function/BiFunction;" .null (mm_A g) U H ∨ va_Z "jdk/internal/util/Preconditions" "SIOOBE_FORMATTER" "Ljava/util/function/BiFunction;" (.ref (g.2.2.2 999)) (mm_A g) U H) ∧ mm_Ls "java/lang/Throwable" "UNASSIGNED_STACK" "[Ljava/lang/StackTraceElement;" (mm_A g) U H ∧ mm_Ls "java/lang/Throwable" "SUPPRESSED_SENTINEL" "Ljava/util/List;" (mm_A g) U H
def mm_I (g : mm_G) (U : State) (H : Heap) : Prop := va_K g.1 mm_cl (mm_tys g) U ∧ mm_Ist g U H ∧ mm_Iex g U H ∧ mm_Itx g U H
theorem mm_I.moved {g : mm_G} {u U : State} {H : Heap} (hW : u.WarmedH U.vm) (h : mm_I g u H) : mm_I g U H := by
  have hvm := hW.alike
  refine ⟨va_K.moved hvm h.1, fun i q hq => ⟨va_Z.moved hvm (h.2.1 i q hq).1, va_T.moved hvm (h.2.1 i q hq).2⟩, ⟨fun w hw => ?_, va_Zq.moved hvm h.2.2.1.2.1, va_Zq.moved hvm h.2.2.1.2.2.1, fun a b ha hb hab => (h.2.2.1.2.2.2 a b ha hb hab).moved hvm⟩, fun q hq => (h.2.2.2.1 q hq).warm hW, h.2.2.2.2.1.moved hvm, va_Z.moved hvm h.2.2.2.2.2.1, h.2.2.2.2.2.2.1.imp (fun z => va_Z.moved hvm z) (fun z => va_Z.moved hvm z), h.2.2.2.2.2.2.2.1.moved hvm, h.2.2.2.2.2.2.2.2.moved hvm⟩
  have h1 := h.2.2.1.1 w hw
  rcases mm_nw_ok w hw with ⟨C, T, rfl⟩ | ⟨x, rfl⟩
  · exact va_Nw.warmC hW h1
  · exact va_Nw.warmD hW h1
theorem mm_I.kept {g : mm_G} {U : State} {H H1 : Heap} (h : mm_I g U H) (hq : ∀ a : Nat, a < H.size → ¬ mm_A g a → H1[a]? = H[a]?) : mm_I g U H1 := ⟨h.1, fun i q hi => ⟨(h.2.1 i q hi).1.kept hq, (h.2.1 i q hi).2.kept hq⟩, ⟨h.2.2.1.1, h.2.2.1.2.1.kept hq, h.2.2.1.2.2.1.kept hq, h.2.2.1.2.2.2⟩, h.2.2.2.1, h.2.2.2.2.1.kept hq, h.2.2.2.2.2.1.kept hq, h.2.2.2.2.2.2.1.imp (fun z => z.kept hq) (fun z => z.kept hq), h.2.2.2.2.2.2.2.1.kept hq, h.2.2.2.2.2.2.2.2.kept hq⟩
def mm_Cx (g : mm_G) (Y : mm_Y) (p : Program) (s : State) (m : MethodId) (args : Array Value) (meth : Method) (c : Code) : Prop :=
  p.tables.exec = Jvm.exec ∧ c.code = Y.2.1 ∧ c.maxLocals = Y.2.2.1 ∧ meth.sig.returnType = Y.2.2.2 ∧ s.vm.findClass Y.1.cls = some m.cls ∧ (∀ w ∈ mm_tb, w.before args s = true) ∧ meth.locks = false ∧ (meth.name = Y.1.name ∧ s.methodNamed? Y.1 = some m) ∧ mm_I g s s.heap ∧ g.2.2.1 ≤ s.heap.size
/-- how a method ends -/
def mm_Po (g : mm_G) (mc ms : Nat) (s : State) (Q : mm_O → Prop) (o : Outcome) (t : State) : Prop := ∃ (u : mm_O) (L : List Loc), Q u ∧ mm_H g u.2.1 u.2.2 t.heap ∧ (∀ q : Nat, q < g.2.2.1 → t.heap[q]? = s.heap[q]?) ∧ (∀ q ∈ L, mm_A g q.base) ∧ s.WarmedH t.vm ∧ s.sameButNew ({ t with vm := s.vm } : State) L mc ms ∧ (match u.1 with
  | .inl v => o = .returned (v.map (mm_tr g))
  | .inr k => ∃ x : Addr, o = .threw x ∧ mm_Xc k x t)
def mm_Fin (g : mm_G) (mc ms : Nat) (below : List Frame) (s : State) (Q : mm_O → Prop) (t : State) : Prop := ∃ o, t.status = .running ∧ Ended t below o ∧ mm_Po g mc ms s Q o t
def mm_Ev (g : mm_G) (l : Launch) (Y : mm_Y) (rm : Room) (Q : mm_O → Prop) (pc : Nat) (ls : List (Option Value)) (st : List Value) (M : mm_M) (n k j : Nat) : Prop :=
  ∀ (p : Program) (e : Env) (s : State) (m : MethodId) (args : Array Value) (below : List Frame) (meth : Method) (c : Code) (H : Heap) (locs : List Loc) (lsM : Array Slot),
    mm_Cx g Y p s m args meth c → mm_H g M n H → va_S (mm_A g) s.heap H locs → mm_L g Y.2.2.1 ls lsM → W p l e rm s m args below meth c H locs k j (mm_Fin g rm.cells rm.slots below s Q) (F0 m pc lsM (st.map (mm_tr g)))
section MMEV
variable {g : mm_G} {l : Launch} {Y : mm_Y} {rm : Room} {Q : mm_O → Prop} {pc : Nat} {ls : List (Option Value)} {st : List Value} {M : mm_M} {n k j : Nat}

theorem mm_iconst {z : Int} {v : Int32} (hv : Int32.ofInt z = v) (hd : decode Y.2.1 pc = .ok (.iconst z, 1)) (kk : mm_Ev g l Y rm Q (pc + 1) ls (.int v :: st) M n k j) : mm_Ev g l Y rm Q pc ls (st) M n k j := by
  intro p e s m args below meth c H locs lsM hC hH hS hL
  exact lv_iconst hC.1 hC.2.1 hd hv (kk p e s m args below meth c H locs lsM hC hH hS hL)
theorem mm_bipush {z : Int} {v : Int32} (hv : (Int8.ofInt z).toInt32 = v) (hd : decode Y.2.1 pc = .ok (.bipush z, 2)) (kk : mm_Ev g l Y rm Q (pc + 2) ls (.int v :: st) M n k j) : mm_Ev g l Y rm Q pc ls (st) M n k j := by
  intro p e s m args below meth c H locs lsM hC hH hS hL
  exact lv_bipush hC.1 hC.2.1 hd hv (kk p e s m args below meth c H locs lsM hC hH hS hL)
theorem mm_sipush {z : Int} {v : Int32} (hv : (Int16.ofInt z).toInt32 = v) (hd : decode Y.2.1 pc = .ok (.sipush z, 3)) (kk : mm_Ev g l Y rm Q (pc + 3) ls (.int v :: st) M n k j) : mm_Ev g l Y rm Q pc ls (st) M n k j := by
  intro p e s m args below meth c H locs lsM hC hH hS hL
  exact lv_sipush hC.1 hC.2.1 hd hv (kk p e s m args below meth c H locs lsM hC hH hS hL)
theorem mm_lconst {z : Fin 2} {v : Int64} (hv : Int64.ofNat (z : Nat) = v) (hd : decode Y.2.1 pc = .ok (.lconst z, 1)) (kk : mm_Ev g l Y rm Q (pc + 1) ls (.long v :: st) M n k j) : mm_Ev g l Y rm Q pc ls (st) M n k j := by
  intro p e s m args below meth c H locs lsM hC hH hS hL
  exact lv_lconst hC.1 hC.2.1 hd hv (kk p e s m args below meth c H locs lsM hC hH hS hL)
theorem mm_iload_n {q : Fin 4} {x : Int32} (hv : mm_lg ls (q : Nat) = some (.int x)) (hd : decode Y.2.1 pc = .ok (.iload_n q, 1)) (kk : mm_Ev g l Y rm Q (pc + 1) ls (.int x :: st) M n k j) : mm_Ev g l Y rm Q pc ls (st) M n k j := by
  intro p e s m args below meth c H locs lsM hC hH hS hL
  exact lv_iload_n hC.1 hC.2.1 hd rfl (hL.2.2 _ _ hv) (kk p e s m args below meth c H locs lsM hC hH hS hL)
theorem mm_iload {i : Nat} {x : Int32} (hv : mm_lg ls i = some (.int x)) (hd : decode Y.2.1 pc = .ok (.iload i, 2)) (kk : mm_Ev g l Y rm Q (pc + 2) ls (.int x :: st) M n k j) : mm_Ev g l Y rm Q pc ls (st) M n k j := by
  intro p e s m args below meth c H locs lsM hC hH hS hL
  exact lv_iload hC.1 hC.2.1 hd (hL.2.2 _ _ hv) (kk p e s m args below meth c H locs lsM hC hH hS hL)
theorem mm_lload_n {q : Fin 4} {x : Int64} (hv : mm_lg ls (q : Nat) = some (.long x)) (hd : decode Y.2.1 pc = .ok (.lload_n q, 1)) (kk : mm_Ev g l Y rm Q (pc + 1) ls (.long x :: st) M n k j) : mm_Ev g l Y rm Q pc ls (st) M n k j := by
  intro p e s m args below meth c H locs lsM hC hH hS hL
  exact lv_lload_n hC.1 hC.2.1 hd rfl (hL.2.2 _ _ hv) (kk p e s m args below meth c H locs lsM hC hH hS hL)
theorem mm_lload {i : Nat} {x : Int64} (hv : mm_lg ls i = some (.long x)) (hd : decode Y.2.1 pc = .ok (.lload i, 2)) (kk : mm_Ev g l Y rm Q (pc + 2) ls (.long x :: st) M n k j) : mm_Ev g l Y rm Q pc ls (st) M n k j := by
  intro p e s m args below meth c H locs lsM hC hH hS hL
  exact lv_lload hC.1 hC.2.1 hd (hL.2.2 _ _ hv) (kk p e s m args below meth c H locs lsM hC hH hS hL)
theorem mm_aload_n {q : Fin 4} {x : Nat} (hv : mm_lg ls (q : Nat) = some (.ref x)) (hd : decode Y.2.1 pc = .ok (.aload_n q, 1)) (kk : mm_Ev g l Y rm Q (pc + 1) ls (.ref x :: st) M n k j) : mm_Ev g l Y rm Q pc ls (st) M n k j := by
  intro p e s m args below meth c H locs lsM hC hH hS hL
  exact lv_aload_n hC.1 hC.2.1 hd rfl (hL.2.2 _ _ hv) (kk p e s m args below meth c H locs lsM hC hH hS hL)
theorem mm_aload {i : Nat} {x : Nat} (hv : mm_lg ls i = some (.ref x)) (hd : decode Y.2.1 pc = .ok (.aload i, 2)) (kk : mm_Ev g l Y rm Q (pc + 2) ls (.ref x :: st) M n k j) : mm_Ev g l Y rm Q pc ls (st) M n k j := by
  intro p e s m args below meth c H locs lsM hC hH hS hL
  exact lv_aload hC.1 hC.2.1 hd (hL.2.2 _ _ hv) (kk p e s m args below meth c H locs lsM hC hH hS hL)
theorem mm_istore_n {q : Fin 4} {x : Int32} {ls1 : List (Option Value)} (hd : decode Y.2.1 pc = .ok (.istore_n q, 1)) (hn : ((q : Nat) < Y.2.2.1)) (hl : mm_st1 ls (q : Nat) (.int x) = ls1) (kk : mm_Ev g l Y rm Q (pc + 1) ls1 st M n k j) : mm_Ev g l Y rm Q pc ls (.int x :: st) M n k j := by
  intro p e s m args below meth c H locs lsM hC hH hS hL
  subst hl
  exact lv_istore_n hC.1 hC.2.1 hd rfl hL.has hn rfl (fun ls2 h2 => kk p e s m args below meth c H locs ls2 hC hH hS (hL.st1 (v := .int x) h2))
theorem mm_istore {i : Nat} {x : Int32} {ls1 : List (Option Value)} (hd : decode Y.2.1 pc = .ok (.istore i, 2)) (hn : (i < Y.2.2.1)) (hl : mm_st1 ls i (.int x) = ls1) (kk : mm_Ev g l Y rm Q (pc + 2) ls1 st M n k j) : mm_Ev g l Y rm Q pc ls (.int x :: st) M n k j := by
  intro p e s m args below meth c H locs lsM hC hH hS hL
  subst hl
  exact lv_istore hC.1 hC.2.1 hd hL.has hn rfl (fun ls2 h2 => kk p e s m args below meth c H locs ls2 hC hH hS (hL.st1 (v := .int x) h2))
theorem mm_lstore_n {q : Fin 4} {x : Int64} {ls1 : List (Option Value)} (hd : decode Y.2.1 pc = .ok (.lstore_n q, 1)) (hn : ((q : Nat) + 1 < Y.2.2.1)) (hl : mm_st2 ls (q : Nat) (.long x) = ls1) (kk : mm_Ev g l Y rm Q (pc + 1) ls1 st M n k j) : mm_Ev g l Y rm Q pc ls (.long x :: st) M n k j := by
  intro p e s m args below meth c H locs lsM hC hH hS hL
  subst hl
  exact lv_lstore_n hC.1 hC.2.1 hd rfl hL.has hn rfl (fun ls2 h2 => kk p e s m args below meth c H locs ls2 hC hH hS (hL.st2 (v := .long x) h2))
theorem mm_lstore {i : Nat} {x : Int64} {ls1 : List (Option Value)} (hd : decode Y.2.1 pc = .ok (.lstore i, 2)) (hn : (i + 1 < Y.2.2.1)) (hl : mm_st2 ls i (.long x) = ls1) (kk : mm_Ev g l Y rm Q (pc + 2) ls1 st M n k j) : mm_Ev g l Y rm Q pc ls (.long x :: st) M n k j := by
  intro p e s m args below meth c H locs lsM hC hH hS hL
  subst hl
  exact lv_lstore hC.1 hC.2.1 hd hL.has hn rfl (fun ls2 h2 => kk p e s m args below meth c H locs ls2 hC hH hS (hL.st2 (v := .long x) h2))
theorem mm_astore_n {q : Fin 4} {x : Nat} {ls1 : List (Option Value)} (hd : decode Y.2.1 pc = .ok (.astore_n q, 1)) (hn : ((q : Nat) < Y.2.2.1)) (hl : mm_st1 ls (q : Nat) (.ref x) = ls1) (kk : mm_Ev g l Y rm Q (pc + 1) ls1 st M n k j) : mm_Ev g l Y rm Q pc ls (.ref x :: st) M n k j := by
  intro p e s m args below meth c H locs lsM hC hH hS hL
  subst hl
  exact lv_astore_n hC.1 hC.2.1 hd rfl hL.has hn rfl (fun ls2 h2 => kk p e s m args below meth c H locs ls2 hC hH hS (hL.st1 (v := .ref x) h2))
theorem mm_astore {i : Nat} {x : Nat} {ls1 : List (Option Value)} (hd : decode Y.2.1 pc = .ok (.astore i, 2)) (hn : (i < Y.2.2.1)) (hl : mm_st1 ls i (.ref x) = ls1) (kk : mm_Ev g l Y rm Q (pc + 2) ls1 st M n k j) : mm_Ev g l Y rm Q pc ls (.ref x :: st) M n k j := by
  intro p e s m args below meth c H locs lsM hC hH hS hL
  subst hl
  exact lv_astore hC.1 hC.2.1 hd hL.has hn rfl (fun ls2 h2 => kk p e s m args below meth c H locs ls2 hC hH hS (hL.st1 (v := .ref x) h2))
theorem mm_iinc {i : Nat} {z : Int} {x v : Int32} {ls1 : List (Option Value)} (hd : decode Y.2.1 pc = .ok (.iinc i z, 3)) (hg : mm_lg ls i = some (.int x)) (hv : x + Int32.ofInt z = v) (hl : mm_st1 ls i (.int v) = ls1) (kk : mm_Ev g l Y rm Q (pc + 3) ls1 st M n k j) : mm_Ev g l Y rm Q pc ls st M n k j := by
  intro p e s m args below meth c H locs lsM hC hH hS hL
  subst hl
  obtain ⟨q, hq⟩ := List.getElem?_of_mem (mm_kn_mem.mpr ⟨i, .int x, hL.lt hg, hg, rfl⟩)
  exact lv_iinc hC.1 hC.2.1 hd hL.has hq hv (hL.lt hg) rfl (fun ls2 h2 => kk p e s m args below meth c H locs ls2 hC hH hS (hL.st1 (v := .int v) h2))
theorem mm_iadd {x y : Int32} (hd : decode Y.2.1 pc = .ok (.iadd, 1)) (kk : mm_Ev g l Y rm Q (pc + 1) ls (.int (x + y) :: st) M n k j) : mm_Ev g l Y rm Q pc ls (.int y :: .int x :: st) M n k j := by
  intro p e s m args below meth c H locs lsM hC hH hS hL
  exact lv_iadd hC.1 hC.2.1 hd (kk p e s m args below meth c H locs lsM hC hH hS hL)
theorem mm_isub {x y : Int32} (hd : decode Y.2.1 pc = .ok (.isub, 1)) (kk : mm_Ev g l Y rm Q (pc + 1) ls (.int (x - y) :: st) M n k j) : mm_Ev g l Y rm Q pc ls (.int y :: .int x :: st) M n k j := by
  intro p e s m args below meth c H locs lsM hC hH hS hL
  exact lv_isub hC.1 hC.2.1 hd (kk p e s m args below meth c H locs lsM hC hH hS hL)
theorem mm_imul {x y : Int32} (hd : decode Y.2.1 pc = .ok (.imul, 1)) (kk : mm_Ev g l Y rm Q (pc + 1) ls (.int (x * y) :: st) M n k j) : mm_Ev g l Y rm Q pc ls (.int y :: .int x :: st) M n k j := by
  intro p e s m args below meth c H locs lsM hC hH hS hL
  exact lv_imul hC.1 hC.2.1 hd (kk p e s m args below meth c H locs lsM hC hH hS hL)
theorem mm_iand {x y : Int32} (hd : decode Y.2.1 pc = .ok (.iand, 1)) (kk : mm_Ev g l Y rm Q (pc + 1) ls (.int (x &&& y) :: st) M n k j) : mm_Ev g l Y rm Q pc ls (.int y :: .int x :: st) M n k j := by
  intro p e s m args below meth c H locs lsM hC hH hS hL
  exact lv_iand hC.1 hC.2.1 hd (kk p e s m args below meth c H locs lsM hC hH hS hL)
theorem mm_ior {x y : Int32} (hd : decode Y.2.1 pc = .ok (.ior, 1)) (kk : mm_Ev g l Y rm Q (pc + 1) ls (.int (x ||| y) :: st) M n k j) : mm_Ev g l Y rm Q pc ls (.int y :: .int x :: st) M n k j := by
  intro p e s m args below meth c H locs lsM hC hH hS hL
  exact lv_ior hC.1 hC.2.1 hd (kk p e s m args below meth c H locs lsM hC hH hS hL)
theorem mm_ixor {x y : Int32} (hd : decode Y.2.1 pc = .ok (.ixor, 1)) (kk : mm_Ev g l Y rm Q (pc + 1) ls (.int (x ^^^ y) :: st) M n k j) : mm_Ev g l Y rm Q pc ls (.int y :: .int x :: st) M n k j := by
  intro p e s m args below meth c H locs lsM hC hH hS hL
  exact lv_ixor hC.1 hC.2.1 hd (kk p e s m args below meth c H locs lsM hC hH hS hL)
theorem mm_ladd {x y : Int64} (hd : decode Y.2.1 pc = .ok (.ladd, 1)) (kk : mm_Ev g l Y rm Q (pc + 1) ls (.long (x + y) :: st) M n k j) : mm_Ev g l Y rm Q pc ls (.long y :: .long x :: st) M n k j := by
  intro p e s m args below meth c H locs lsM hC hH hS hL
  exact lv_ladd hC.1 hC.2.1 hd (kk p e s m args below meth c H locs lsM hC hH hS hL)
theorem mm_lsub {x y : Int64} (hd : decode Y.2.1 pc = .ok (.lsub, 1)) (kk : mm_Ev g l Y rm Q (pc + 1) ls (.long (x - y) :: st) M n k j) : mm_Ev g l Y rm Q pc ls (.long y :: .long x :: st) M n k j := by
  intro p e s m args below meth c H locs lsM hC hH hS hL
  exact lv_lsub hC.1 hC.2.1 hd (kk p e s m args below meth c H locs lsM hC hH hS hL)
theorem mm_lmul {x y : Int64} (hd : decode Y.2.1 pc = .ok (.lmul, 1)) (kk : mm_Ev g l Y rm Q (pc + 1) ls (.long (x * y) :: st) M n k j) : mm_Ev g l Y rm Q pc ls (.long y :: .long x :: st) M n k j := by
  intro p e s m args below meth c H locs lsM hC hH hS hL
  exact lv_lmul hC.1 hC.2.1 hd (kk p e s m args below meth c H locs lsM hC hH hS hL)
theorem mm_land {x y : Int64} (hd : decode Y.2.1 pc = .ok (.land, 1)) (kk : mm_Ev g l Y rm Q (pc + 1) ls (.long (x &&& y) :: st) M n k j) : mm_Ev g l Y rm Q pc ls (.long y :: .long x :: st) M n k j := by
  intro p e s m args below meth c H locs lsM hC hH hS hL
  exact lv_land hC.1 hC.2.1 hd (kk p e s m args below meth c H locs lsM hC hH hS hL)
theorem mm_lor {x y : Int64} (hd : decode Y.2.1 pc = .ok (.lor, 1)) (kk : mm_Ev g l Y rm Q (pc + 1) ls (.long (x ||| y) :: st) M n k j) : mm_Ev g l Y rm Q pc ls (.long y :: .long x :: st) M n k j := by
  intro p e s m args below meth c H locs lsM hC hH hS hL
  exact lv_lor hC.1 hC.2.1 hd (kk p e s m args below meth c H locs lsM hC hH hS hL)
theorem mm_lxor {x y : Int64} (hd : decode Y.2.1 pc = .ok (.lxor, 1)) (kk : mm_Ev g l Y rm Q (pc + 1) ls (.long (x ^^^ y) :: st) M n k j) : mm_Ev g l Y rm Q pc ls (.long y :: .long x :: st) M n k j := by
  intro p e s m args below meth c H locs lsM hC hH hS hL
  exact lv_lxor hC.1 hC.2.1 hd (kk p e s m args below meth c H locs lsM hC hH hS hL)
theorem mm_idiv {x y : Int32} (hne : ¬ y = 0) (hd : decode Y.2.1 pc = .ok (.idiv, 1)) (kk : mm_Ev g l Y rm Q (pc + 1) ls (.int (x / y) :: st) M n k j) : mm_Ev g l Y rm Q pc ls (.int y :: .int x :: st) M n k j := by
  intro p e s m args below meth c H locs lsM hC hH hS hL
  exact lv_idiv hC.1 hC.2.1 hd hne (kk p e s m args below meth c H locs lsM hC hH hS hL)
theorem mm_irem {x y : Int32} (hne : ¬ y = 0) (hd : decode Y.2.1 pc = .ok (.irem, 1)) (kk : mm_Ev g l Y rm Q (pc + 1) ls (.int (x - x / y * y) :: st) M n k j) : mm_Ev g l Y rm Q pc ls (.int y :: .int x :: st) M n k j := by
  intro p e s m args below meth c H locs lsM hC hH hS hL
  exact lv_irem hC.1 hC.2.1 hd hne (kk p e s m args below meth c H locs lsM hC hH hS hL)
theorem mm_ineg {x : Int32} (hd : decode Y.2.1 pc = .ok (.ineg, 1)) (kk : mm_Ev g l Y rm Q (pc + 1) ls (.int (-x) :: st) M n k j) : mm_Ev g l Y rm Q pc ls (.int x :: st) M n k j := by
  intro p e s m args below meth c H locs lsM hC hH hS hL
  exact lv_ineg hC.1 hC.2.1 hd (kk p e s m args below meth c H locs lsM hC hH hS hL)
theorem mm_ishl {x y : Int32} (hd : decode Y.2.1 pc = .ok (.ishl, 1)) (kk : mm_Ev g l Y rm Q (pc + 1) ls (.int (x <<< (y &&& 31)) :: st) M n k j) : mm_Ev g l Y rm Q pc ls (.int y :: .int x :: st) M n k j := by
  intro p e s m args below meth c H locs lsM hC hH hS hL
  exact lv_ishl hC.1 hC.2.1 hd (kk p e s m args below meth c H locs lsM hC hH hS hL)
theorem mm_ishr {x y : Int32} (hd : decode Y.2.1 pc = .ok (.ishr, 1)) (kk : mm_Ev g l Y rm Q (pc + 1) ls (.int (x >>> (y &&& 31)) :: st) M n k j) : mm_Ev g l Y rm Q pc ls (.int y :: .int x :: st) M n k j := by
  intro p e s m args below meth c H locs lsM hC hH hS hL
  exact lv_ishr hC.1 hC.2.1 hd (kk p e s m args below meth c H locs lsM hC hH hS hL)
theorem mm_iushr {x y v : Int32} (hv : (x.toUInt32 >>> (y.toUInt32 &&& Int32.toUInt32 31)).toInt32 = v) (hd : decode Y.2.1 pc = .ok (.iushr, 1)) (kk : mm_Ev g l Y rm Q (pc + 1) ls (.int v :: st) M n k j) : mm_Ev g l Y rm Q pc ls (.int y :: .int x :: st) M n k j := by
  intro p e s m args below meth c H locs lsM hC hH hS hL
  exact lv_iushr hC.1 hC.2.1 hd hv (kk p e s m args below meth c H locs lsM hC hH hS hL)
theorem mm_lushr {x v : Int64} {y : Int32} (hv : (x.toUInt64 >>> (y.toInt64.toUInt64 &&& Int64.toUInt64 63)).toInt64 = v) (hd : decode Y.2.1 pc = .ok (.lushr, 1)) (kk : mm_Ev g l Y rm Q (pc + 1) ls (.long v :: st) M n k j) : mm_Ev g l Y rm Q pc ls (.int y :: .long x :: st) M n k j := by
  intro p e s m args below meth c H locs lsM hC hH hS hL
  exact lv_lushr hC.1 hC.2.1 hd hv (kk p e s m args below meth c H locs lsM hC hH hS hL)
theorem mm_lshl {x v : Int64} {y : Int32} (hv : x <<< (y.toInt64 &&& 63) = v) (hd : decode Y.2.1 pc = .ok (.lshl, 1)) (kk : mm_Ev g l Y rm Q (pc + 1) ls (.long v :: st) M n k j) : mm_Ev g l Y rm Q pc ls (.int y :: .long x :: st) M n k j := by
  intro p e s m args below meth c H locs lsM hC hH hS hL
  exact lv_lshl hC.1 hC.2.1 hd hv (kk p e s m args below meth c H locs lsM hC hH hS hL)
theorem mm_lshr {x v : Int64} {y : Int32} (hv : x >>> (y.toInt64 &&& 63) = v) (hd : decode Y.2.1 pc = .ok (.lshr, 1)) (kk : mm_Ev g l Y rm Q (pc + 1) ls (.long v :: st) M n k j) : mm_Ev g l Y rm Q pc ls (.int y :: .long x :: st) M n k j := by
  intro p e s m args below meth c H locs lsM hC hH hS hL
  exact lv_lshr hC.1 hC.2.1 hd hv (kk p e s m args below meth c H locs lsM hC hH hS hL)
theorem mm_i2l {x : Int32} {v : Int64} (hv : x.toInt64 = v) (hd : decode Y.2.1 pc = .ok (.i2l, 1)) (kk : mm_Ev g l Y rm Q (pc + 1) ls (.long v :: st) M n k j) : mm_Ev g l Y rm Q pc ls (.int x :: st) M n k j := by
  intro p e s m args below meth c H locs lsM hC hH hS hL
  exact lv_i2l hC.1 hC.2.1 hd hv (kk p e s m args below meth c H locs lsM hC hH hS hL)
theorem mm_l2i {x : Int64} {v : Int32} (hv : x.toInt32 = v) (hd : decode Y.2.1 pc = .ok (.l2i, 1)) (kk : mm_Ev g l Y rm Q (pc + 1) ls (.int v :: st) M n k j) : mm_Ev g l Y rm Q pc ls (.long x :: st) M n k j := by
  intro p e s m args below meth c H locs lsM hC hH hS hL
  exact lv_l2i hC.1 hC.2.1 hd hv (kk p e s m args below meth c H locs lsM hC hH hS hL)
theorem mm_i2b {x v : Int32} (hv : x.toInt8.toInt32 = v) (hd : decode Y.2.1 pc = .ok (.i2b, 1)) (kk : mm_Ev g l Y rm Q (pc + 1) ls (.int v :: st) M n k j) : mm_Ev g l Y rm Q pc ls (.int x :: st) M n k j := by
  intro p e s m args below meth c H locs lsM hC hH hS hL
  exact lv_i2b hC.1 hC.2.1 hd hv (kk p e s m args below meth c H locs lsM hC hH hS hL)
theorem mm_i2c {x v : Int32} (hv : (x.toUInt32 % 65536).toInt32 = v) (hd : decode Y.2.1 pc = .ok (.i2c, 1)) (kk : mm_Ev g l Y rm Q (pc + 1) ls (.int v :: st) M n k j) : mm_Ev g l Y rm Q pc ls (.int x :: st) M n k j := by
  intro p e s m args below meth c H locs lsM hC hH hS hL
  exact lv_i2c hC.1 hC.2.1 hd hv (kk p e s m args below meth c H locs lsM hC hH hS hL)
theorem mm_dup {v : Value} (hv : v.category = 1) (hd : decode Y.2.1 pc = .ok (.dup, 1)) (kk : mm_Ev g l Y rm Q (pc + 1) ls (v :: v :: st) M n k j) : mm_Ev g l Y rm Q pc ls (v :: st) M n k j := by
  intro p e s m args below meth c H locs lsM hC hH hS hL
  exact lv_dup hC.1 hC.2.1 hd (by rw [mm_tr_cat]; exact hv) (kk p e s m args below meth c H locs lsM hC hH hS hL)
theorem mm_pop {v : Value} (hv : v.category = 1) (hd : decode Y.2.1 pc = .ok (.pop, 1)) (kk : mm_Ev g l Y rm Q (pc + 1) ls (st) M n k j) : mm_Ev g l Y rm Q pc ls (v :: st) M n k j := by
  intro p e s m args below meth c H locs lsM hC hH hS hL
  exact lv_pop hC.1 hC.2.1 hd (by rw [mm_tr_cat]; exact hv) (kk p e s m args below meth c H locs lsM hC hH hS hL)
theorem mm_dup_x1 {v w : Value} (hv : v.category = 1) (hw : w.category = 1) (hd : decode Y.2.1 pc = .ok (.dup_x1, 1)) (kk : mm_Ev g l Y rm Q (pc + 1) ls (v :: w :: v :: st) M n k j) : mm_Ev g l Y rm Q pc ls (v :: w :: st) M n k j := by
  intro p e s m args below meth c H locs lsM hC hH hS hL
  exact lv_dup_x1 hC.1 hC.2.1 hd (by rw [mm_tr_cat]; exact hv) (by rw [mm_tr_cat]; exact hw) (kk p e s m args below meth c H locs lsM hC hH hS hL)
theorem mm_dup_x2 {v w u : Value} (hv : v.category = 1) (hw : w.category = 1) (hu : u.category = 1) (hd : decode Y.2.1 pc = .ok (.dup_x2, 1)) (kk : mm_Ev g l Y rm Q (pc + 1) ls (v :: w :: u :: v :: st) M n k j) : mm_Ev g l Y rm Q pc ls (v :: w :: u :: st) M n k j := by
  intro p e s m args below meth c H locs lsM hC hH hS hL
  exact lv_dup_x2 hC.1 hC.2.1 hd (by rw [mm_tr_cat]; exact hv) (by rw [mm_tr_cat]; exact hw) (by rw [mm_tr_cat]; exact hu) (kk p e s m args below meth c H locs lsM hC hH hS hL)
theorem mm_dup2_11 {v w : Value} (hv : v.category = 1) (hw : w.category = 1) (hd : decode Y.2.1 pc = .ok (.dup2, 1)) (kk : mm_Ev g l Y rm Q (pc + 1) ls (v :: w :: v :: w :: st) M n k j) : mm_Ev g l Y rm Q pc ls (v :: w :: st) M n k j := by
  intro p e s m args below meth c H locs lsM hC hH hS hL
  exact lv_dup2_11 hC.1 hC.2.1 hd (by rw [mm_tr_cat]; exact hv) (by rw [mm_tr_cat]; exact hw) (kk p e s m args below meth c H locs lsM hC hH hS hL)
theorem mm_dup2_2 {v : Value} (hv : v.category = 2) (hd : decode Y.2.1 pc = .ok (.dup2, 1)) (kk : mm_Ev g l Y rm Q (pc + 1) ls (v :: v :: st) M n k j) : mm_Ev g l Y rm Q pc ls (v :: st) M n k j := by
  intro p e s m args below meth c H locs lsM hC hH hS hL
  exact lv_dup2_2 hC.1 hC.2.1 hd (by rw [mm_tr_cat]; exact hv) (kk p e s m args below meth c H locs lsM hC hH hS hL)
theorem mm_pop2_2 {v : Value} (hv : v.category = 2) (hd : decode Y.2.1 pc = .ok (.pop2, 1)) (kk : mm_Ev g l Y rm Q (pc + 1) ls (st) M n k j) : mm_Ev g l Y rm Q pc ls (v :: st) M n k j := by
  intro p e s m args below meth c H locs lsM hC hH hS hL
  exact lv_pop2_2 hC.1 hC.2.1 hd (by rw [mm_tr_cat]; exact hv) (kk p e s m args below meth c H locs lsM hC hH hS hL)
theorem mm_dup2_x1_2 {v w : Value} (hv : v.category = 2) (hw : w.category = 1) (hd : decode Y.2.1 pc = .ok (.dup2_x1, 1)) (kk : mm_Ev g l Y rm Q (pc + 1) ls (v :: w :: v :: st) M n k j) : mm_Ev g l Y rm Q pc ls (v :: w :: st) M n k j := by
  intro p e s m args below meth c H locs lsM hC hH hS hL
  exact lv_dup2_x1_2 hC.1 hC.2.1 hd (by rw [mm_tr_cat]; exact hv) (by rw [mm_tr_cat]; exact hw) (kk p e s m args below meth c H locs lsM hC hH hS hL)
theorem mm_dup2_x2_2 {v w u : Value} (hv : v.category = 2) (hw : w.category = 1) (hu : u.category = 1) (hd : decode Y.2.1 pc = .ok (.dup2_x2, 1)) (kk : mm_Ev g l Y rm Q (pc + 1) ls (v :: w :: u :: v :: st) M n k j) : mm_Ev g l Y rm Q pc ls (v :: w :: u :: st) M n k j := by
  intro p e s m args below meth c H locs lsM hC hH hS hL
  exact lv_dup2_x2_2 hC.1 hC.2.1 hd (by rw [mm_tr_cat]; exact hv) (by rw [mm_tr_cat]; exact hw) (by rw [mm_tr_cat]; exact hu) (kk p e s m args below meth c H locs lsM hC hH hS hL)
theorem mm_lcmp {x y : Int64} (hd : decode Y.2.1 pc = .ok (.lcmp, 1)) (kk : mm_Ev g l Y rm Q (pc + 1) ls (.int (lg_cmp x y) :: st) M n k j) : mm_Ev g l Y rm Q pc ls (.long y :: .long x :: st) M n k j := by
  intro p e s m args below meth c H locs lsM hC hH hS hL
  exact W.lcmp hC.1 hC.2.1 hd (kk p e s m args below meth c H locs lsM hC hH hS hL)
theorem mm_icmp_eq {x y : Int32} {off : Int} {tgt : Nat} (hd : decode Y.2.1 pc = .ok (.if_icmp .eq off, 3)) (ht : (pc : Int) + off = (tgt : Int)) (kt : (x = y) → mm_Ev g l Y rm Q tgt ls st M n k j) (kf : ¬ (x = y) → mm_Ev g l Y rm Q (pc + 3) ls st M n k j) : mm_Ev g l Y rm Q pc ls (.int y :: .int x :: st) M n k j := by
  intro p e s m args below meth c H locs lsM hC hH hS hL
  exact lv_icmp_eq hC.1 hC.2.1 hd ht (fun h => kt h p e s m args below meth c H locs lsM hC hH hS hL) (fun h => kf h p e s m args below meth c H locs lsM hC hH hS hL)
theorem mm_if_eq {x : Int32} {off : Int} {tgt : Nat} (hd : decode Y.2.1 pc = .ok (.ifCond .eq off, 3)) (ht : (pc : Int) + off = (tgt : Int)) (kt : (x = 0) → mm_Ev g l Y rm Q tgt ls st M n k j) (kf : ¬ (x = 0) → mm_Ev g l Y rm Q (pc + 3) ls st M n k j) : mm_Ev g l Y rm Q pc ls (.int x :: st) M n k j := by
  intro p e s m args below meth c H locs lsM hC hH hS hL
  exact lv_if_eq hC.1 hC.2.1 hd ht (fun h => kt h p e s m args below meth c H locs lsM hC hH hS hL) (fun h => kf h p e s m args below meth c H locs lsM hC hH hS hL)
theorem mm_icmp_ne {x y : Int32} {off : Int} {tgt : Nat} (hd : decode Y.2.1 pc = .ok (.if_icmp .ne off, 3)) (ht : (pc : Int) + off = (tgt : Int)) (kt : ¬ (x = y) → mm_Ev g l Y rm Q tgt ls st M n k j) (kf : (x = y) → mm_Ev g l Y rm Q (pc + 3) ls st M n k j) : mm_Ev g l Y rm Q pc ls (.int y :: .int x :: st) M n k j := by
  intro p e s m args below meth c H locs lsM hC hH hS hL
  exact lv_icmp_ne hC.1 hC.2.1 hd ht (fun h => kt h p e s m args below meth c H locs lsM hC hH hS hL) (fun h => kf h p e s m args below meth c H locs lsM hC hH hS hL)
theorem mm_if_ne {x : Int32} {off : Int} {tgt : Nat} (hd : decode Y.2.1 pc = .ok (.ifCond .ne off, 3)) (ht : (pc : Int) + off = (tgt : Int)) (kt : ¬ (x = 0) → mm_Ev g l Y rm Q tgt ls st M n k j) (kf : (x = 0) → mm_Ev g l Y rm Q (pc + 3) ls st M n k j) : mm_Ev g l Y rm Q pc ls (.int x :: st) M n k j := by
  intro p e s m args below meth c H locs lsM hC hH hS hL
  exact lv_if_ne hC.1 hC.2.1 hd ht (fun h => kt h p e s m args below meth c H locs lsM hC hH hS hL) (fun h => kf h p e s m args below meth c H locs lsM hC hH hS hL)
theorem mm_icmp_lt {x y : Int32} {off : Int} {tgt : Nat} (hd : decode Y.2.1 pc = .ok (.if_icmp .lt off, 3)) (ht : (pc : Int) + off = (tgt : Int)) (kt : (x < y) → mm_Ev g l Y rm Q tgt ls st M n k j) (kf : ¬ (x < y) → mm_Ev g l Y rm Q (pc + 3) ls st M n k j) : mm_Ev g l Y rm Q pc ls (.int y :: .int x :: st) M n k j := by
  intro p e s m args below meth c H locs lsM hC hH hS hL
  exact lv_icmp_lt hC.1 hC.2.1 hd ht (fun h => kt h p e s m args below meth c H locs lsM hC hH hS hL) (fun h => kf h p e s m args below meth c H locs lsM hC hH hS hL)
theorem mm_if_lt {x : Int32} {off : Int} {tgt : Nat} (hd : decode Y.2.1 pc = .ok (.ifCond .lt off, 3)) (ht : (pc : Int) + off = (tgt : Int)) (kt : (x < 0) → mm_Ev g l Y rm Q tgt ls st M n k j) (kf : ¬ (x < 0) → mm_Ev g l Y rm Q (pc + 3) ls st M n k j) : mm_Ev g l Y rm Q pc ls (.int x :: st) M n k j := by
  intro p e s m args below meth c H locs lsM hC hH hS hL
  exact lv_if_lt hC.1 hC.2.1 hd ht (fun h => kt h p e s m args below meth c H locs lsM hC hH hS hL) (fun h => kf h p e s m args below meth c H locs lsM hC hH hS hL)
theorem mm_icmp_ge {x y : Int32} {off : Int} {tgt : Nat} (hd : decode Y.2.1 pc = .ok (.if_icmp .ge off, 3)) (ht : (pc : Int) + off = (tgt : Int)) (kt : (y ≤ x) → mm_Ev g l Y rm Q tgt ls st M n k j) (kf : ¬ (y ≤ x) → mm_Ev g l Y rm Q (pc + 3) ls st M n k j) : mm_Ev g l Y rm Q pc ls (.int y :: .int x :: st) M n k j := by
  intro p e s m args below meth c H locs lsM hC hH hS hL
  exact lv_icmp_ge hC.1 hC.2.1 hd ht (fun h => kt h p e s m args below meth c H locs lsM hC hH hS hL) (fun h => kf h p e s m args below meth c H locs lsM hC hH hS hL)
theorem mm_if_ge {x : Int32} {off : Int} {tgt : Nat} (hd : decode Y.2.1 pc = .ok (.ifCond .ge off, 3)) (ht : (pc : Int) + off = (tgt : Int)) (kt : (0 ≤ x) → mm_Ev g l Y rm Q tgt ls st M n k j) (kf : ¬ (0 ≤ x) → mm_Ev g l Y rm Q (pc + 3) ls st M n k j) : mm_Ev g l Y rm Q pc ls (.int x :: st) M n k j := by
  intro p e s m args below meth c H locs lsM hC hH hS hL
  exact lv_if_ge hC.1 hC.2.1 hd ht (fun h => kt h p e s m args below meth c H locs lsM hC hH hS hL) (fun h => kf h p e s m args below meth c H locs lsM hC hH hS hL)
theorem mm_icmp_gt {x y : Int32} {off : Int} {tgt : Nat} (hd : decode Y.2.1 pc = .ok (.if_icmp .gt off, 3)) (ht : (pc : Int) + off = (tgt : Int)) (kt : (y < x) → mm_Ev g l Y rm Q tgt ls st M n k j) (kf : ¬ (y < x) → mm_Ev g l Y rm Q (pc + 3) ls st M n k j) : mm_Ev g l Y rm Q pc ls (.int y :: .int x :: st) M n k j := by
  intro p e s m args below meth c H locs lsM hC hH hS hL
  exact lv_icmp_gt hC.1 hC.2.1 hd ht (fun h => kt h p e s m args below meth c H locs lsM hC hH hS hL) (fun h => kf h p e s m args below meth c H locs lsM hC hH hS hL)
theorem mm_if_gt {x : Int32} {off : Int} {tgt : Nat} (hd : decode Y.2.1 pc = .ok (.ifCond .gt off, 3)) (ht : (pc : Int) + off = (tgt : Int)) (kt : (0 < x) → mm_Ev g l Y rm Q tgt ls st M n k j) (kf : ¬ (0 < x) → mm_Ev g l Y rm Q (pc + 3) ls st M n k j) : mm_Ev g l Y rm Q pc ls (.int x :: st) M n k j := by
  intro p e s m args below meth c H locs lsM hC hH hS hL
  exact lv_if_gt hC.1 hC.2.1 hd ht (fun h => kt h p e s m args below meth c H locs lsM hC hH hS hL) (fun h => kf h p e s m args below meth c H locs lsM hC hH hS hL)
theorem mm_icmp_le {x y : Int32} {off : Int} {tgt : Nat} (hd : decode Y.2.1 pc = .ok (.if_icmp .le off, 3)) (ht : (pc : Int) + off = (tgt : Int)) (kt : (x ≤ y) → mm_Ev g l Y rm Q tgt ls st M n k j) (kf : ¬ (x ≤ y) → mm_Ev g l Y rm Q (pc + 3) ls st M n k j) : mm_Ev g l Y rm Q pc ls (.int y :: .int x :: st) M n k j := by
  intro p e s m args below meth c H locs lsM hC hH hS hL
  exact lv_icmp_le hC.1 hC.2.1 hd ht (fun h => kt h p e s m args below meth c H locs lsM hC hH hS hL) (fun h => kf h p e s m args below meth c H locs lsM hC hH hS hL)
theorem mm_if_le {x : Int32} {off : Int} {tgt : Nat} (hd : decode Y.2.1 pc = .ok (.ifCond .le off, 3)) (ht : (pc : Int) + off = (tgt : Int)) (kt : (x ≤ 0) → mm_Ev g l Y rm Q tgt ls st M n k j) (kf : ¬ (x ≤ 0) → mm_Ev g l Y rm Q (pc + 3) ls st M n k j) : mm_Ev g l Y rm Q pc ls (.int x :: st) M n k j := by
  intro p e s m args below meth c H locs lsM hC hH hS hL
  exact lv_if_le hC.1 hC.2.1 hd ht (fun h => kt h p e s m args below meth c H locs lsM hC hH hS hL) (fun h => kf h p e s m args below meth c H locs lsM hC hH hS hL)
theorem mm_goto {off : Int} {tgt : Nat} (hd : decode Y.2.1 pc = .ok (.goto off, 3)) (ht : (pc : Int) + off = (tgt : Int)) (kk : mm_Ev g l Y rm Q tgt ls st M n k j) : mm_Ev g l Y rm Q pc ls st M n k j := by
  intro p e s m args below meth c H locs lsM hC hH hS hL
  exact lv_goto hC.1 hC.2.1 hd ht (kk p e s m args below meth c H locs lsM hC hH hS hL)
end MMEV
end
section
/-! Calls that return or throw: the callee's free theorem at a call site. -/
def mm_Lk (p : Program) (l : Launch) (e : Env) (R : Room) (s : State) (m : MethodId) (args : Array Value) (below : List Frame) (meth : Method) (c : Code) (H : Heap) (locs : List Loc) (cells slots : Nat) (fr : JFrame) (rest : List Value) (y : MethodName) (a : Array Value) : Prop :=
  ∀ T : State, T.heap = H → Stand p l e R s m args below meth c T locs cells slots → ∃ (vm₁ : Vm) (mk : MethodId), Stand p l e R s m args below meth c (T.setVm vm₁) locs cells slots ∧ s.methodNamed? y = some mk ∧
    ∀ tg, Steps p.tables e below (doInvoke e ((T.setVm vm₁).setTop { fr with stack := rest }) [] mk a).1 tg → Steps p.tables e below (T.setTop fr) tg
section MMCA
variable {p : Program} {l : Launch} {e : Env} {R : Room} {s : State} {m : MethodId} {args : Array Value} {below : List Frame} {meth : Method} {c : Code} {H : Heap} {locs : List Loc} {cells slots : Nat} {Q : State → Prop}
theorem mm_lkV (hexec : p.tables.exec = Jvm.exec) {own C : String} {index : Nat} {y : MethodName} {sig0 : MethodDescriptor}
    (hown : s.vm.findClass own = some m.cls) (hlink : (Cond.methodLink own index y).before args s = true) (hinst : (Cond.instanceMethod y).before args s = true) (hsel : (Cond.selects C y y).before args s = true)
    (hsg : ∀ mk methM, s.methodNamed? y = some mk → s.vm.method? mk = some methM → methM.sig = sig0) (hy : y.cls ≠ "java/lang/invoke/MethodHandle" ∧ y.cls ≠ "java/lang/invoke/VarHandle")
    {b : Addr} {cellB : Cell} (hcell : H[b]? = some cellB) (hobj : cellB.vm.isStatics = false) (hcls : s.vm.findClass C = some cellB.cls)
    {fr : JFrame} (hg : fr.method = m) {argsL rest : List Value} (hlen : argsL.length = sig0.parameters.length)
    (hstack : fr.stack = argsL.reverse ++ .ref b :: rest) (hdg : decode c.code fr.pc = .ok (.invokevirtual index, 3)) : mm_Lk p l e R s m args below meth c H locs cells slots fr rest y (Value.ref b :: argsL).toArray := by
  intro T hT X
  obtain ⟨mk, methM, hnamed, hmethM, hstM, habM⟩ := Cond.instanceMethod_spec hinst
  obtain ⟨c2, r2, m2, q1, q2, q3, q4, kP, hkP, hkPi⟩ := Cond.selects_spec hsel
  cases hcls.symm.trans q1
  cases (State.methodFound?_of_named hnamed hy).symm.trans q2
  cases hnamed.symm.trans q3
  have hselP : selectMethod e.platform s.vm cellB.cls mk = .method mk := by rw [Launch.admits_selectMethod X.admits]; exact q4
  obtain ⟨vm₁, X₁, hstep₁⟩ := X.invokevirtual hexec hown hlink hnamed hmethM hstM hkP hkPi hy (a := b) (cell := cellB) (by rw [hT]; exact hcell)
    (fun z h => by rw [h] at hobj; cases hobj) hselP hmethM habM hkP hkPi (g := fr) hg (argsL := argsL) (rest := rest) (by rw [hsg mk methM hnamed hmethM]; exact hlen) hstack hdg
  exact ⟨vm₁, mk, X₁, hnamed, fun tg h => hstep₁ _ fun acts => by rw [doInvoke_state]; exact h⟩
theorem mm_lkVN (hexec : p.tables.exec = Jvm.exec) {own C host : String} {index : Nat} {y : MethodName} {sig0 : MethodDescriptor}
    (hown : s.vm.findClass own = some m.cls) (hlink : (Cond.methodLinkNest own index y host).before args s = true) (hinst : (Cond.instanceMethod y).before args s = true) (hsel : (Cond.selects C y y).before args s = true)
    (hsg : ∀ mk methM, s.methodNamed? y = some mk → s.vm.method? mk = some methM → methM.sig = sig0) (hy : y.cls ≠ "java/lang/invoke/MethodHandle" ∧ y.cls ≠ "java/lang/invoke/VarHandle")
    {b : Addr} {cellB : Cell} (hcell : H[b]? = some cellB) (hobj : cellB.vm.isStatics = false) (hcls : s.vm.findClass C = some cellB.cls)
    {fr : JFrame} (hg : fr.method = m) {argsL rest : List Value} (hlen : argsL.length = sig0.parameters.length)
    (hstack : fr.stack = argsL.reverse ++ .ref b :: rest) (hdg : decode c.code fr.pc = .ok (.invokevirtual index, 3)) : mm_Lk p l e R s m args below meth c H locs cells slots fr rest y (Value.ref b :: argsL).toArray := by
  intro T hT X
  obtain ⟨mk, methM, hnamed, hmethM, hstM, habM⟩ := Cond.instanceMethod_spec hinst
  obtain ⟨c2, r2, m2, q1, q2, q3, q4, kP, hkP, hkPi⟩ := Cond.selects_spec hsel
  cases hcls.symm.trans q1
  cases (State.methodFound?_of_named hnamed hy).symm.trans q2
  cases hnamed.symm.trans q3
  have hselP : selectMethod e.platform s.vm cellB.cls mk = .method mk := by rw [Launch.admits_selectMethod X.admits]; exact q4
  obtain ⟨vm₁, X₁, hstep₁⟩ := X.invokevirtualNest hexec hown hlink hnamed hmethM hstM hkP hkPi hy (a := b) (cell := cellB) (by rw [hT]; exact hcell)
    (fun z h => by rw [h] at hobj; cases hobj) hselP hmethM habM hkP hkPi (g := fr) hg (argsL := argsL) (rest := rest) (by rw [hsg mk methM hnamed hmethM]; exact hlen) hstack hdg
  exact ⟨vm₁, mk, X₁, hnamed, fun tg h => hstep₁ _ fun acts => by rw [doInvoke_state]; exact h⟩
theorem mm_lkS (hexec : p.tables.exec = Jvm.exec) {own : String} {index : Nat} {y : MethodName} {sig0 : MethodDescriptor} {mk : MethodId} {methM : Method}
    (hown : s.vm.findClass own = some m.cls) (hlink : (Cond.methodLink own index y).before args s = true) (hstat : (Cond.static y).before args s = true) (hinit : (Cond.initialized y.cls).before args s = true)
    (hnamed : s.methodNamed? y = some mk) (hmethM : s.vm.method? mk = some methM) (hsg : methM.sig = sig0) (hy : y.cls ≠ "java/lang/invoke/MethodHandle" ∧ y.cls ≠ "java/lang/invoke/VarHandle")
    {fr : JFrame} (hg : fr.method = m) {argsL rest : List Value} (hlen : argsL.length = sig0.parameters.length)
    (hstack : fr.stack = argsL.reverse ++ rest) (hdg : decode c.code fr.pc = .ok (.invokestatic index, 3)) : mm_Lk p l e R s m args below meth c H locs cells slots fr rest y argsL.toArray := by
  intro T hT X
  have hstatic : methM.isStatic = true := Cond.static_spec hnamed hmethM hstat
  obtain ⟨kP, hkP, -⟩ := className_of_methodNamed hnamed
  have hinitP : kP.init = .initialized := Cond.initialized_spec (findClass_of_methodNamed hnamed) hkP hinit
  obtain ⟨vm₁, X₁, hstep₁⟩ := X.invokestatic hexec hown hlink hnamed hmethM hstatic hkP hinitP hy (g := fr) hg (argsL := argsL) (rest := rest) (by rw [hsg]; exact hlen) hstack hdg
  exact ⟨vm₁, mk, X₁, hnamed, fun tg h => hstep₁ _ fun acts => by rw [doInvoke_state]; exact h⟩
theorem mm_lkSN (hexec : p.tables.exec = Jvm.exec) {own host : String} {index : Nat} {y : MethodName} {sig0 : MethodDescriptor} {mk : MethodId} {methM : Method}
    (hown : s.vm.findClass own = some m.cls) (hlink : (Cond.methodLinkNest own index y host).before args s = true) (hstat : (Cond.static y).before args s = true) (hinit : (Cond.initialized y.cls).before args s = true)
    (hnamed : s.methodNamed? y = some mk) (hmethM : s.vm.method? mk = some methM) (hsg : methM.sig = sig0) (hy : y.cls ≠ "java/lang/invoke/MethodHandle" ∧ y.cls ≠ "java/lang/invoke/VarHandle")
    {fr : JFrame} (hg : fr.method = m) {argsL rest : List Value} (hlen : argsL.length = sig0.parameters.length)
    (hstack : fr.stack = argsL.reverse ++ rest) (hdg : decode c.code fr.pc = .ok (.invokestatic index, 3)) : mm_Lk p l e R s m args below meth c H locs cells slots fr rest y argsL.toArray := by
  intro T hT X
  have hstatic : methM.isStatic = true := Cond.static_spec hnamed hmethM hstat
  obtain ⟨kP, hkP, -⟩ := className_of_methodNamed hnamed
  have hinitP : kP.init = .initialized := Cond.initialized_spec (findClass_of_methodNamed hnamed) hkP hinit
  obtain ⟨vm₁, X₁, hstep₁⟩ := X.invokestaticNest hexec hown hlink hnamed hmethM hstatic hkP hinitP hy (g := fr) hg (argsL := argsL) (rest := rest) (by rw [hsg]; exact hlen) hstack hdg
  exact ⟨vm₁, mk, X₁, hnamed, fun tg h => hstep₁ _ fun acts => by rw [doInvoke_state]; exact h⟩
theorem mm_lkI (hexec : p.tables.exec = Jvm.exec) {own : String} {index : Nat} {y : MethodName} {bytes : ByteArray} {maxL : Nat}
    (hown : s.vm.findClass own = some m.cls) (hy1 : y.name = "<init>") (hlink : (Cond.methodLink own index y).before args s = true) (hinst : (Cond.instanceMethod y).before args s = true)
    (hcode : (Cond.code y bytes maxL none).before args s = true) (hy : y.cls ≠ "java/lang/invoke/MethodHandle" ∧ y.cls ≠ "java/lang/invoke/VarHandle")
    {fr : JFrame} (hg : fr.method = m) {a : Addr} {argsL rest : List Value} (hlen : ∀ sig, parseMethodDescriptor y.desc = some sig → argsL.length = sig.parameters.length)
    (hstack : fr.stack = argsL.reverse ++ .ref a :: rest) (hdg : decode c.code fr.pc = .ok (.invokespecial index, 3)) : mm_Lk p l e R s m args below meth c H locs cells slots fr rest y (Value.ref a :: argsL).toArray := by
  intro T hT X
  subst hg
  have hpl : e.platform.magicAccessors = ({} : Platform).magicAccessors := by rw [X.admits.platform]
  obtain ⟨mk, methM, cM, kP, vm₁, hnamed, hmethM, hcodeM, -, hlocalsM, -, hkP, -, hW₁, hstep₁⟩ := Steps.initColdArgs (e := e) X.here hexec X.warmed hpl hown hy1 hy hlink hinst hcode (f := fr) rfl hlen hstack hdg
  exact ⟨vm₁, mk, X.noted hW₁, hnamed, fun tg h => hstep₁ _ fun acts => by rw [doInvoke_state]; exact h⟩
theorem mm_lkIN (hexec : p.tables.exec = Jvm.exec) {own host : String} {index : Nat} {y : MethodName} {bytes : ByteArray} {maxL : Nat}
    (hown : s.vm.findClass own = some m.cls) (hy1 : y.name = "<init>") (hlink : (Cond.methodLinkNest own index y host).before args s = true) (hinst : (Cond.instanceMethod y).before args s = true)
    (hcode : (Cond.code y bytes maxL none).before args s = true) (hy : y.cls ≠ "java/lang/invoke/MethodHandle" ∧ y.cls ≠ "java/lang/invoke/VarHandle")
    {fr : JFrame} (hg : fr.method = m) {a : Addr} {argsL rest : List Value} (hlen : ∀ sig, parseMethodDescriptor y.desc = some sig → argsL.length = sig.parameters.length)
    (hstack : fr.stack = argsL.reverse ++ .ref a :: rest) (hdg : decode c.code fr.pc = .ok (.invokespecial index, 3)) : mm_Lk p l e R s m args below meth c H locs cells slots fr rest y (Value.ref a :: argsL).toArray := by
  intro T hT X
  subst hg
  have hpl : e.platform.magicAccessors = ({} : Platform).magicAccessors := by rw [X.admits.platform]
  obtain ⟨mk, methM, cM, kP, vm₁, hnamed, hmethM, hcodeM, -, hlocalsM, -, hkP, -, hW₁, hstep₁⟩ := Steps.initColdArgsNest (e := e) X.here hexec X.warmed hpl hown hy1 hy hlink hinst hcode (f := fr) rfl hlen hstack hdg
  exact ⟨vm₁, mk, X.noted hW₁, hnamed, fun tg h => hstep₁ _ fun acts => by rw [doInvoke_state]; exact h⟩
/-- what is behind a throw that came out of a call in the frame fr -/
def mm_Th (p : Program) (l : Launch) (e : Env) (R : Room) (s : State) (m : MethodId) (args : Array Value) (below : List Frame) (meth : Method) (c : Code) (H : Heap) (locs : List Loc) (cells slots : Nat) (Q : State → Prop) (fr : JFrame) (x : Addr) : Prop :=
  ∀ T : State, T.heap = H → Stand p l e R s m args below meth c T locs cells slots → ∃ t, Steps p.tables e below ((T.setTop fr).pushFrame (.throwing x)) t ∧ Q t
theorem mm_callAny {g : mm_G} {Q' : mm_O → Prop} {fr : JFrame} {rest : List Value} {y : MethodName} {a : Array Value} {S : Spec} {P : Array Value → State → Prop} {maxL Wd : Nat} {ig : Instr}
    (hLk : mm_Lk p l e R s m args below meth c H locs cells slots fr rest y a) (hM : MetFree l y S P (fun _ _ _ _ _ => True) (fun _ st o t => mm_Po g S.room.cells S.room.slots st Q' o t)) (hg : fr.method = m) (hsize : fr.locals.size = c.maxLocals)
    (hframes : S.room.frames + 1 ≤ R.frames) (hlocals : Wd + (maxL + 11) + S.room.locals ≤ R.locals) (hW : 2 * fr.monitorRoom + (rest.map fun v => v.category).sum ≤ Wd) (hdg : decode c.code fr.pc = .ok (ig, 3))
    (hpre : ∀ (U : State) (mk : MethodId), s.WarmedH U.vm → U.methodNamed? y = some mk → S.pre.before a U = true ∧ (Cond.initialized y.cls).before a U = true ∧ ∃ methY cY, U.vm.method? mk = some methY ∧ methY.code = some cY ∧ cY.maxLocals = maxL)
    (hcells : cells + S.room.cells ≤ R.cells) (hslots : slots + S.room.slots ≤ R.slots)
    (hP : ∀ U : State, s.WarmedH U.vm → U.heap = H → P a U) (hS : va_S (mm_A g) s.heap H locs) (hb : g.2.2.1 ≤ s.heap.size)
    (kr : ∀ (v : Option Value) (M1 : mm_M) (n1 : Nat) (H1 : Heap) (locs1 : List Loc), Q' (.inl v, M1, n1) → mm_H g M1 n1 H1 → va_S (mm_A g) s.heap H1 locs1 → W p l e R s m args below meth c H1 locs1 (cells + S.room.cells) (slots + S.room.slots) Q { fr with pc := fr.pc + 3, stack := (v.map (mm_tr g)).toList ++ rest })
    (kt : ∀ (i : Nat) (x : Addr) (M1 : mm_M) (n1 : Nat) (H1 : Heap) (locs1 : List Loc), Q' (.inr i, M1, n1) → mm_H g M1 n1 H1 → va_S (mm_A g) s.heap H1 locs1 → (∃ t : State, t.heap = H1 ∧ s.WarmedH t.vm ∧ mm_Xc i x t) → mm_Th p l e R s m args below meth c H1 locs1 (cells + S.room.cells) (slots + S.room.slots) Q { fr with stack := rest } x) : W p l e R s m args below meth c H locs cells slots Q fr := by
  intro T hT X0
  obtain ⟨vm₁, mk, X, hnm, hstep⟩ := hLk T hT X0
  generalize hU : T.setVm vm₁ = U at X hstep
  have hUh : U.heap = H := by rw [← hU]; exact hT
  generalize hfr1 : ({ fr with stack := rest } : JFrame) = f1 at hstep kt
  have e1 : f1.pc = fr.pc := by rw [← hfr1]
  have hg1 : f1.method = m := by rw [← hfr1]; exact hg
  have hn : U.methodNamed? y = some mk := X.named hnm
  obtain ⟨h1, h3, methY, cY, hmY, hcY, hlY⟩ := hpre U mk X.warmed hn
  obtain ⟨kY, hkY, -⟩ := className_of_methodNamed hn
  have hinitY : kY.init = .initialized := Cond.initialized_spec (findClass_of_methodNamed hn) hkY h3
  have h : At U f1.method c below := by rw [hg1]; exact X.here
  have hdg1 : decode c.code f1.pc = .ok (ig, 3) := by rw [e1]; exact hdg
  have happ : S.appliesLoose y e.platform (U.calling f1 mk a) = true :=
    Spec.appliesLoose_calling (g := f1) h hdg1 hn hkY hinitY
      (X.room_calling (g := f1) (R' := S.room) (by rw [← hfr1]; exact hsize) hmY hcY hframes (by rw [hlY, ← hfr1]; show 2 * fr.monitorRoom + (rest.map fun v => v.category).sum + _ + _ ≤ _; omega) hcells hslots) h1
  obtain ⟨mid, hmid⟩ := h.above
  have hfrm : (U.setTop f1).frames = (.java f1 :: mid) ++ below := by rw [State.frames_setTop' f1 h.top, hmid]; rfl
  obtain ⟨o, s₂, hsteps, -, hend, hq⟩ := Steps.callFree hM p X.admits X.cas X.clock (acts := []) hfrm happ (hP _ X.warmed hUh) trivial
  have hq' : mm_Po g S.room.cells S.room.slots (U.calling f1 mk a) Q' o s₂ := hq
  rw [State.frames_setTop' f1 h.top] at hend
  obtain ⟨u, L, hQu, hH1, hlow, hL, hW₂, hsame0, hout⟩ := hq'
  have hcb : ∀ q : Nat, q < g.2.2.1 → s₂.heap[q]? = H[q]? := fun q hq => by rw [hlow q hq]; show U.heap[q]? = _; rw [hUh]
  have hS1 : va_S (mm_A g) s.heap s₂.heap (locs ++ L) := by
    refine ⟨?_, fun q h1 h2 => ?_, fun q hq => ?_⟩
    · exact Nat.le_trans hS.1 (by rw [← hUh]; exact hsame0.2.1)
    · rw [hcb q (Nat.not_le.mp h2)]
      exact hS.2.1 q h1 h2
    · rcases List.mem_append.mp hq with z | z
      · exact hS.2.2 q z
      · exact hL q z
  obtain ⟨u1, M1, n1⟩ := u
  cases u1 with
  | inl v =>
    have hout : o = .returned (v.map (mm_tr g)) := hout
    subst hout
    obtain ⟨e2, q2, q3, q4, q5, q6⟩ := hsame0
    have e3 : s₂ = ({ (U.calling f1 mk a).setFrames s₂.frames with heap := s₂.heap, slotsUsed := s₂.slotsUsed } : State).setVm s₂.vm := by
      have : s₂ = ({ s₂ with vm := (U.calling f1 mk a).vm } : State).setVm s₂.vm := rfl
      rw [e2] at this
      exact this
    obtain ⟨c₂, i₂, len₂, hc₂, hd₂, hf₂⟩ := hend
    have hW' : U.WarmedH s₂.vm := hW₂
    have hcc : c₂ = c := by
      have h1 : s₂.code? f1.method = U.code? f1.method := by
        rw [State.code?_eq, State.code?_eq, hW'.alike.method?]
      exact Option.some.inj (hc₂.symm.trans (h1.trans h.code))
    subst hcc
    have hlen : len₂ = 3 := by rw [hdg1] at hd₂; cases hd₂; rfl
    subst hlen
    obtain ⟨g₀, hg0⟩ := Option.isSome_iff_exists.mp h.top
    obtain ⟨r, hr⟩ := State.topJava?_eq_some.mp hg0
    have hs₂ : s₂ = (({ U with heap := s₂.heap, slotsUsed := s₂.slotsUsed } : State).setVm s₂.vm).setTop { f1 with pc := f1.pc + 3, stack := (v.map (mm_tr g)).toList ++ f1.stack } := by
      have hr' : (({ U with heap := s₂.heap, slotsUsed := s₂.slotsUsed } : State).setVm s₂.vm).frames = .java g₀ :: r := hr
      refine e3.trans ?_
      rw [hf₂, State.calling_eq h.top, State.setFrames_setFrames, State.setTop_of_frames _ hr', hr]
      rfl
    have hsame : U.sameButNew ({ U with heap := s₂.heap, slotsUsed := s₂.slotsUsed } : State) L S.room.cells S.room.slots := by
      refine ⟨?_, q2, q3, q4, q5, q6⟩
      obtain ⟨t, ht, -⟩ := State.frames_cons hr
      show ({ U with heap := s₂.heap, slotsUsed := s₂.slotsUsed } : State) = { U.setFrames U.frames with heap := s₂.heap, slotsUsed := s₂.slotsUsed }
      rw [State.setFrames_self ht]
    have X' : Stand p l e R s m args below meth c₂ (({ U with heap := s₂.heap, slotsUsed := s₂.slotsUsed } : State).setVm s₂.vm) (locs ++ L) (cells + S.room.cells) (slots + S.room.slots) :=
      ⟨X.admits, X.cas, X.clock, X.frames, X.room, X.hears, X.method, X.code, (X.here.setHeapUsed s₂.heap s₂.slotsUsed).setVm hW'.alike, X.tail, State.WarmedH.trans X.warmed hW', X.limits, X.bytes, X.same.trans (hsame.setVm s.vm)⟩
    obtain ⟨t, a1, b1⟩ := kr v M1 n1 s₂.heap (locs ++ L) hQu hH1 hS1 (({ U with heap := s₂.heap, slotsUsed := s₂.slotsUsed } : State).setVm s₂.vm) rfl X'
    refine ⟨t, hstep t (hsteps.trans ?_), b1⟩
    rw [hs₂, ← hfr1]
    exact a1
  | inr i =>
    obtain ⟨x, hox, hXc⟩ := hout
    subst hox
    rw [X.tail] at hend
    obtain ⟨T', X', hWT, -, ht⟩ := X.outOfThrown (g := f1) hg1 hend hW₂ hsame0
    have hh : T'.heap = s₂.heap := by rw [ht]; rfl
    obtain ⟨t, a1, b1⟩ := kt i x M1 n1 s₂.heap (locs ++ L) hQu hH1 hS1 ⟨s₂, rfl, State.WarmedH.trans X.warmed hW₂, hXc⟩ T' hh X'
    exact ⟨t, hstep t (hsteps.trans (by rw [ht]; exact a1)), b1⟩
end MMCA
end
section
/-! Rows over cells: fields, arrays, new cells; the ends; entering a method; calls. -/
/-- a field's link: entry index of class own's pool is field kf (of type ty, final or not) of class ci -/
def mm_Fl (own : String) (index ci kf : Nat) (ty : FieldType) (fin : Bool) : Prop := ∃ (C : String) (T : u_T) (N : Nat) (t : Nat → FieldType), mm_cl[ci]? = some (C, T, N) ∧ (∀ w ∈ u_ws C T N, w ∈ mm_tb) ∧ kf < N ∧ Cond.fieldLink own index C (T kf).2.1 (T kf).2.2.1 ∈ mm_tb ∧ (T kf).1 = C ∧ (∀ k, k < N → parseFieldDescriptor (T k).2.2.1 = some (t k)) ∧ (∀ a, a < N → ∀ b, b < N → a ≠ b → (T a).2.1 ≠ (T b).2.1) ∧ (T kf).2.2.2 = fin ∧ parseFieldDescriptor (T kf).2.2.1 = some ty
/-- a class's link for new: N fields with the default values fs -/
def mm_Nl (own : String) (index ci N : Nat) (fs : List Value) : Prop := ∃ (C : String) (T : u_T) (t : Nat → FieldType), mm_cl[ci]? = some (C, T, N) ∧ (∀ w ∈ u_ws C T N, w ∈ mm_tb) ∧ (∀ k, k < N → parseFieldDescriptor (T k).2.2.1 = some (t k)) ∧ Cond.classLink own index C ∈ mm_tb ∧ Cond.instantiable C N ∈ mm_tb ∧ Cond.initialized C ∈ mm_tb ∧ (∀ q, q < N → defaultValue (t q) = vp_V fs q) ∧ ∀ g : mm_G, fs.map (mm_tr g) = fs
theorem mm_W_mono {p : Program} {l : Launch} {e : Env} {R : Room} {s : State} {m : MethodId} {args : Array Value} {below : List Frame} {meth : Method} {c : Code} {H : Heap} {locs : List Loc} {cells slots : Nat} {Q1 Q2 : State → Prop} {fr : JFrame} (h : ∀ t, Q1 t → Q2 t) (w : W p l e R s m args below meth c H locs cells slots Q1 fr) : W p l e R s m args below meth c H locs cells slots Q2 fr := by
  intro T hT X
  obtain ⟨t, a, b⟩ := w T hT X
  exact ⟨t, a, h t b⟩
section MMHP
variable {g : mm_G} {l : Launch} {Y : mm_Y} {rm : Room} {Q : mm_O → Prop} {pc : Nat} {ls : List (Option Value)} {st : List Value} {M : mm_M} {n k j : Nat}

theorem mm_get {a ci kf index : Nat} {ty : FieldType} {fin : Bool} {fs : List Value} {v : Value} (hd : decode Y.2.1 pc = .ok (.getfield index, 3)) (hF : mm_Fl Y.1.cls index ci kf ty fin) (hm : M a = some (.inr (ci, fs))) (hv : fs[kf]? = some v) (kk : mm_Ev g l Y rm Q (pc + 3) ls (v :: st) M n k j) : mm_Ev g l Y rm Q pc ls (.ref a :: st) M n k j := by
  intro p e s m args below meth c H locs lsM hC hH hS hL
  obtain ⟨C, T, N, t, hc, hw, hk, hl, hT, -, -, -, -⟩ := hF
  exact va_get (D := g.1) (ci := ci) (ref := C) (v := mm_tr g v) hC.1 hC.2.1 hC.2.2.2.2.2.1 hw hC.2.2.2.2.1 hC.2.2.2.2.2.2.2.2.1.1 (hH.P hm) 0 rfl hc kf hk (hC.2.2.2.2.2.1 _ hl) (fun x hx => by rw [hT] at hx; exact hx) (by rw [List.getElem?_map, hv]; rfl) hd (kk p e s m args below meth c H locs lsM hC hH hS hL)
theorem mm_put {a ci kf index : Nat} {ty : FieldType} {fs : List Value} {v : Value} (hd : decode Y.2.1 pc = .ok (.putfield index, 3)) (hF : mm_Fl Y.1.cls index ci kf ty false) (hm : M a = some (.inr (ci, fs))) (hlen : kf < fs.length) (hn : narrow ty (mm_tr g v) = mm_tr g v) (hfit : fits ty (mm_tr g v) = true) (kk : ∀ M1 : mm_M, M1 = mm_up M a (.inr (ci, fs.set kf v)) → mm_Ev g l Y rm Q (pc + 3) ls st M1 n k j) : mm_Ev g l Y rm Q pc ls (v :: .ref a :: st) M n k j := by
  intro p e s m args below meth c H locs lsM hC hH hS hL
  obtain ⟨C, T, N, t, hc, hw, hk, hl, hT, hty, hnm, hfin, hd0⟩ := hF
  obtain ⟨hx, hb, -, -, hown, hts, -, hname, hI, -⟩ := id hC
  have hK := hI.1
  have hap := va_apart (own := Y.1.cls) hts hw t hty hnm hK hc
  obtain ⟨h1000, -, r, h1, cell, q1, q2, q3, q4⟩ := hH.2.2 a _ hm
  have hr : r = (C, T, N) := Option.some.inj (h1.symm.trans hc)
  subst hr
  obtain ⟨hSl, hfc, kC, hkC, hkind⟩ := hK.1 ci _ hc
  obtain ⟨cf, kf', fi, f, hi, hsl⟩ := hSl kf hk
  have hlay := hts _ (hw _ (u_in_lay hk))
  unfold u_lay at hlay
  rw [if_neg (by rw [hfin]; decide)] at hlay
  have hst := (u_facts hfc hkC (u_lays hts hw hk) hi).1
  have h6 := u_store hfc hkC hkind hlay hi hd0 hn hfit
  refine W.putK hx hb (f := f) ⟨hown, hts _ hl, ⟨_, _, _, by rw [hT] at hi; exact hi⟩, hst⟩ (by rw [q2]; exact h6) q1 q3 (by rw [hsl]; exact k2_hasslot (q4 kf hk)) rfl rfl hd fun H' e1 e2 e3 => ?_
  rw [hsl] at e1 ⊢
  refine kk _ rfl p e s m args below meth c H' _ lsM hC (hH.set hm e2 e3 ⟨_, hc, t_OB.to (V := updV (vp_V (fs.map (mm_tr g))) kf (mm_tr g v)) ⟨_, e1, q2, q3, t_set q4 hap hk _⟩ (fun q _ => ?_)⟩) (hS.put e2 e3 (mm_ad_A h1000)) hL
  rw [List.map_set]
  exact vp_updV_set (by rw [List.length_map]; exact hlen) _ q
theorem mm_putF {a ci kf index : Nat} {ty : FieldType} {fs : List Value} {v : Value} (hd : decode Y.2.1 pc = .ok (.putfield index, 3)) (hF : mm_Fl Y.1.cls index ci kf ty true) (hm : M a = some (.inr (ci, fs))) (hlen : kf < fs.length) (hn : narrow ty (mm_tr g v) = mm_tr g v) (hfit : fits ty (mm_tr g v) = true) (hin : Y.1.name = "<init>") (hcl : ∀ q : vw_C, mm_cl[ci]? = some q → q.1 = Y.1.cls) (kk : ∀ M1 : mm_M, M1 = mm_up M a (.inr (ci, fs.set kf v)) → mm_Ev g l Y rm Q (pc + 3) ls st M1 n k j) : mm_Ev g l Y rm Q pc ls (v :: .ref a :: st) M n k j := by
  intro p e s m args below meth c H locs lsM hC hH hS hL
  obtain ⟨C, T, N, t, hc, hw, hk, hl, hT, hty, hnm, hfin, hd0⟩ := hF
  obtain ⟨hx, hb, -, -, hown, hts, -, hname, hI, -⟩ := id hC
  have hK := hI.1
  have hap := va_apart (own := Y.1.cls) hts hw t hty hnm hK hc
  obtain ⟨h1000, -, r, h1, cell, q1, q2, q3, q4⟩ := hH.2.2 a _ hm
  have hr : r = (C, T, N) := Option.some.inj (h1.symm.trans hc)
  subst hr
  obtain ⟨hSl, hfc, kC, hkC, hkind⟩ := hK.1 ci _ hc
  obtain ⟨cf, kf', fi, f, hi, hsl⟩ := hSl kf hk
  have hlay := hts _ (hw _ (u_in_lay hk))
  unfold u_lay at hlay
  rw [if_pos hfin] at hlay
  have hst := (u_facts hfc hkC (u_lays hts hw hk) hi).1
  have hdecl : (T kf).1 = Y.1.cls := hT.trans (hcl _ hc)
  have hcf : m.cls = cf := by
    obtain ⟨_, _, c', _, _, _, -, -, hf', -, -, -, hown2, -⟩ := Cond.laysFinal_spec hlay
    have e1 : c' = cf := by have := hi.symm.trans hf'; simp at this; exact this.1.symm
    rw [hdecl] at hown2
    rw [← e1]; exact Option.some.inj (hown.symm.trans hown2)
  have h6 := u_fits hfc hkC hkind (Or.inr hlay) hi hd0 hn hfit
  refine W.putFinK hx hb hown (hts _ hl) (by rw [hT] at hi; exact hi) hst hcf (hname.1.trans hin) (by rw [q2]; exact h6) q1 q3 (by rw [hsl]; exact k2_hasslot (q4 kf hk)) rfl rfl hd fun H' e1 e2 e3 => ?_
  rw [hsl] at e1 ⊢
  refine kk _ rfl p e s m args below meth c H' _ lsM hC (hH.set hm e2 e3 ⟨_, hc, t_OB.to (V := updV (vp_V (fs.map (mm_tr g))) kf (mm_tr g v)) ⟨_, e1, q2, q3, t_set q4 hap hk _⟩ (fun q _ => ?_)⟩) (hS.put e2 e3 (mm_ad_A h1000)) hL
  rw [List.map_set]
  exact vp_updV_set (by rw [List.length_map]; exact hlen) _ q
theorem mm_iald {a t N : Nat} {f : Nat → Int32} {i : Int32} (hd : decode Y.2.1 pc = .ok (.iaload, 1)) (hm : M a = some (.inl (t, N, .inl f))) (ht : mm_ty[t]? = some .int) (hin : vp_in i N) (kk : mm_Ev g l Y rm Q (pc + 1) ls (.int (f i.toNatClampNeg) :: st) M n k j) : mm_Ev g l Y rm Q pc ls (.int i :: .ref a :: st) M n k j := by
  intro p e s m args below meth c H locs lsM hC hH hS hL
  exact va_iald hC.1 hC.2.1 hC.2.2.2.2.2.2.2.2.1.1 (hH.P hm) 0 t rfl (mm_tys_at ht) hin hd (kk p e s m args below meth c H locs lsM hC hH hS hL)
theorem mm_bald {a t N : Nat} {f : Nat → Int32} {i : Int32} (hd : decode Y.2.1 pc = .ok (.baload, 1)) (hm : M a = some (.inl (t, N, .inl f))) (ht : mm_ty[t]? = some .byte) (hin : vp_in i N) (kk : mm_Ev g l Y rm Q (pc + 1) ls (.int (f i.toNatClampNeg) :: st) M n k j) : mm_Ev g l Y rm Q pc ls (.int i :: .ref a :: st) M n k j := by
  intro p e s m args below meth c H locs lsM hC hH hS hL
  exact va_bald hC.1 hC.2.1 hC.2.2.2.2.2.2.2.2.1.1 (hH.P hm) 0 t rfl (mm_tys_at ht) hin hd (kk p e s m args below meth c H locs lsM hC hH hS hL)
theorem mm_zald {a t N : Nat} {f : Nat → Int32} {i : Int32} (hd : decode Y.2.1 pc = .ok (.baload, 1)) (hm : M a = some (.inl (t, N, .inl f))) (ht : mm_ty[t]? = some .boolean) (hin : vp_in i N) (kk : mm_Ev g l Y rm Q (pc + 1) ls (.int (f i.toNatClampNeg) :: st) M n k j) : mm_Ev g l Y rm Q pc ls (.int i :: .ref a :: st) M n k j := by
  intro p e s m args below meth c H locs lsM hC hH hS hL
  exact va_zald hC.1 hC.2.1 hC.2.2.2.2.2.2.2.2.1.1 (hH.P hm) 0 t rfl (mm_tys_at ht) hin hd (kk p e s m args below meth c H locs lsM hC hH hS hL)
theorem mm_cald {a t N : Nat} {f : Nat → Int32} {i : Int32} (hd : decode Y.2.1 pc = .ok (.caload, 1)) (hm : M a = some (.inl (t, N, .inl f))) (ht : mm_ty[t]? = some .char) (hin : vp_in i N) (kk : mm_Ev g l Y rm Q (pc + 1) ls (.int (f i.toNatClampNeg) :: st) M n k j) : mm_Ev g l Y rm Q pc ls (.int i :: .ref a :: st) M n k j := by
  intro p e s m args below meth c H locs lsM hC hH hS hL
  exact va_cald hC.1 hC.2.1 hC.2.2.2.2.2.2.2.2.1.1 (hH.P hm) 0 t rfl (mm_tys_at ht) hin hd (kk p e s m args below meth c H locs lsM hC hH hS hL)
theorem mm_lald {a t N : Nat} {f : Nat → Int64} {i : Int32} (hd : decode Y.2.1 pc = .ok (.laload, 1)) (hm : M a = some (.inl (t, N, .inr (.inl f)))) (ht : mm_ty[t]? = some .long) (hin : vp_in i N) (kk : mm_Ev g l Y rm Q (pc + 1) ls (.long (f i.toNatClampNeg) :: st) M n k j) : mm_Ev g l Y rm Q pc ls (.int i :: .ref a :: st) M n k j := by
  intro p e s m args below meth c H locs lsM hC hH hS hL
  exact va_lald hC.1 hC.2.1 hC.2.2.2.2.2.2.2.2.1.1 (hH.P hm) 0 t rfl (mm_tys_at ht) hin hd (kk p e s m args below meth c H locs lsM hC hH hS hL)
theorem mm_aald {a t N : Nat} {C : String} {f : Nat → Option Nat} {i : Int32} {x : Nat} (hd : decode Y.2.1 pc = .ok (.aaload, 1)) (hm : M a = some (.inl (t, N, .inr (.inr (.inr (.inr f)))))) (ht : mm_ty[t]? = some (.object C)) (hin : vp_in i N) (hf : f i.toNatClampNeg = some x) (kk : mm_Ev g l Y rm Q (pc + 1) ls (.ref x :: st) M n k j) : mm_Ev g l Y rm Q pc ls (.int i :: .ref a :: st) M n k j := by
  intro p e s m args below meth c H locs lsM hC hH hS hL
  refine va_aldq hC.1 hC.2.1 hC.2.2.2.2.2.2.2.2.1.1 (hH.P hm) 0 t rfl (mm_tys_at ht) hin hd ?_
  rw [hf]
  exact kk p e s m args below meth c H locs lsM hC hH hS hL
theorem mm_alen {a t : Nat} {x : vp_A} {ty : FieldType} {v : Int32} (hd : decode Y.2.1 pc = .ok (.arraylength, 1)) (hm : M a = some (.inl (t, x))) (ht : mm_ty[t]? = some ty) (hv : Int32.ofNat x.1 = v) (kk : mm_Ev g l Y rm Q (pc + 1) ls (.int v :: st) M n k j) : mm_Ev g l Y rm Q pc ls (.ref a :: st) M n k j := by
  intro p e s m args below meth c H locs lsM hC hH hS hL
  refine va_alen hC.1 hC.2.1 hC.2.2.2.2.2.2.2.2.1.1 (hH.P hm) 0 t rfl (mm_tys_at ht) ?_ hd (kk p e s m args below meth c H locs lsM hC hH hS hL)
  rw [← hv]
  obtain ⟨N, y⟩ := x
  rcases y with y | y | y | y | y <;> rfl
theorem mm_tiald {q0 : Nat} {q : String × String × List Int32} {i : Int32} (hd : decode Y.2.1 pc = .ok (.iaload, 1)) (hq : mm_sta[q0]? = some q) (h0 : q0 < 1000) (hin : vp_in i q.2.2.length) (kk : mm_Ev g l Y rm Q (pc + 1) ls (.int (q.2.2.getD i.toNatClampNeg 0) :: st) M n k j) : mm_Ev g l Y rm Q pc ls (.int i :: .ref q0 :: st) M n k j := by
  intro p e s m args below meth c H locs lsM hC hH hS hL
  have ha : mm_ad g q0 = g.2.2.2 q0 := by unfold mm_ad; rw [if_pos h0]
  show W p l e rm s m args below meth c H locs k j _ (F0 m pc lsM (.int i :: .ref (mm_ad g q0) :: st.map (mm_tr g)))
  rw [ha]
  exact va_ti hC.1 hC.2.1 (hC.2.2.2.2.2.2.2.2.1.2.1 q0 q hq).2 hS hin rfl hd (kk p e s m args below meth c H locs lsM hC hH hS hL)
theorem mm_gets {q0 index : Nat} {q : String × String × List Int32} (hd : decode Y.2.1 pc = .ok (.getstatic index, 3)) (hq : mm_sta[q0]? = some q) (h0 : q0 < 1000) (hl : Cond.fieldLink Y.1.cls index q.1 q.2.1 "[I" ∈ mm_tb) (kk : mm_Ev g l Y rm Q (pc + 3) ls (.ref q0 :: st) M n k j) : mm_Ev g l Y rm Q pc ls st M n k j := by
  intro p e s m args below meth c H locs lsM hC hH hS hL
  have ha : mm_ad g q0 = g.2.2.2 q0 := by unfold mm_ad; rw [if_pos h0]
  refine va_gets hC.1 hC.2.1 (hC.2.2.2.2.2.2.2.2.1.2.1 q0 q hq).1 hS hC.2.2.2.2.1 (hC.2.2.2.2.2.1 _ hl) (fun _ h => h) hd ?_
  rw [← ha]
  exact kk p e s m args below meth c H locs lsM hC hH hS hL
theorem mm_iast {a t N : Nat} {f : Nat → Int32} {i : Int32} {x : Int32} (hd : decode Y.2.1 pc = .ok (.iastore, 1)) (hm : M a = some (.inl (t, N, .inl f))) (ht : mm_ty[t]? = some .int) (hin : vp_in i N) (kk : ∀ M1 : mm_M, M1 = mm_up M a (.inl (t, N, .inl (upd f i.toNatClampNeg x))) → mm_Ev g l Y rm Q (pc + 1) ls st M1 n k j) : mm_Ev g l Y rm Q pc ls (.int x :: .int i :: .ref a :: st) M n k j := by
  intro p e s m args below meth c H locs lsM hC hH hS hL
  obtain ⟨h1000, -, hat⟩ := hH.2.2 a _ hm
  refine W.iast hC.1 hC.2.1 hat ((hC.2.2.2.2.2.2.2.2.1.1.2 t _ (mm_tys_at ht)).1 N (fun q => .int (f q))) (fun q => by cases q) (by show ¬ (i < 0 ∨ (arrV _ _ _).slots.size ≤ _); rw [arrV_size]; exact hin) rfl rfl hd fun H1 e1 z oq => ?_
  refine kk _ rfl p e s m args below meth c H1 _ lsM hC (hH.set hm z oq ?_) (hS.put z oq (mm_ad_A h1000)) hL
  show H1[_]? = some (vp_cell _ _)
  rw [e1]
  show some ((vp_cell _ (N, .inl f)).setSlot _ _) = some (vp_cell _ (N, .inl (upd f i.toNatClampNeg x)))
  rw [vp_cell_i, vp_cell_i, arrV_store]
  congr 2
  funext q
  by_cases hq : q = i.toNatClampNeg
  · subst hq
    simp [updV, upd, vp_updL, vp_nar]
    try rfl
  · simp [updV, upd, vp_updL, hq]
theorem mm_bast {a t N : Nat} {f : Nat → Int32} {i : Int32} {x : Int32} (hd : decode Y.2.1 pc = .ok (.bastore, 1)) (hm : M a = some (.inl (t, N, .inl f))) (ht : mm_ty[t]? = some .byte) (hin : vp_in i N) (kk : ∀ M1 : mm_M, M1 = mm_up M a (.inl (t, N, .inl (upd f i.toNatClampNeg (vp_nar .byte x)))) → mm_Ev g l Y rm Q (pc + 1) ls st M1 n k j) : mm_Ev g l Y rm Q pc ls (.int x :: .int i :: .ref a :: st) M n k j := by
  intro p e s m args below meth c H locs lsM hC hH hS hL
  obtain ⟨h1000, -, hat⟩ := hH.2.2 a _ hm
  refine W.bast hC.1 hC.2.1 hat ((hC.2.2.2.2.2.2.2.2.1.1.2 t _ (mm_tys_at ht)).1 N (fun q => .int (f q))) (fun q => by cases q) (by show ¬ (i < 0 ∨ (arrV _ _ _).slots.size ≤ _); rw [arrV_size]; exact hin) rfl rfl hd fun H1 e1 z oq => ?_
  refine kk _ rfl p e s m args below meth c H1 _ lsM hC (hH.set hm z oq ?_) (hS.put z oq (mm_ad_A h1000)) hL
  show H1[_]? = some (vp_cell _ _)
  rw [e1]
  show some ((vp_cell _ (N, .inl f)).setSlot _ _) = some (vp_cell _ (N, .inl (upd f i.toNatClampNeg (vp_nar .byte x))))
  rw [vp_cell_i, vp_cell_i, arrV_store]
  congr 2
  funext q
  by_cases hq : q = i.toNatClampNeg
  · subst hq
    simp [updV, upd, vp_updL, vp_nar]
    try rfl
  · simp [updV, upd, vp_updL, hq]
theorem mm_zast {a t N : Nat} {f : Nat → Int32} {i : Int32} {x : Int32} (hd : decode Y.2.1 pc = .ok (.bastore, 1)) (hm : M a = some (.inl (t, N, .inl f))) (ht : mm_ty[t]? = some .boolean) (hin : vp_in i N) (kk : ∀ M1 : mm_M, M1 = mm_up M a (.inl (t, N, .inl (upd f i.toNatClampNeg (vp_nar .boolean x)))) → mm_Ev g l Y rm Q (pc + 1) ls st M1 n k j) : mm_Ev g l Y rm Q pc ls (.int x :: .int i :: .ref a :: st) M n k j := by
  intro p e s m args below meth c H locs lsM hC hH hS hL
  obtain ⟨h1000, -, hat⟩ := hH.2.2 a _ hm
  refine W.zast hC.1 hC.2.1 hat ((hC.2.2.2.2.2.2.2.2.1.1.2 t _ (mm_tys_at ht)).1 N (fun q => .int (f q))) (fun q => by cases q) (by show ¬ (i < 0 ∨ (arrV _ _ _).slots.size ≤ _); rw [arrV_size]; exact hin) rfl rfl hd fun H1 e1 z oq => ?_
  refine kk _ rfl p e s m args below meth c H1 _ lsM hC (hH.set hm z oq ?_) (hS.put z oq (mm_ad_A h1000)) hL
  show H1[_]? = some (vp_cell _ _)
  rw [e1]
  show some ((vp_cell _ (N, .inl f)).setSlot _ _) = some (vp_cell _ (N, .inl (upd f i.toNatClampNeg (vp_nar .boolean x))))
  rw [vp_cell_i, vp_cell_i, arrV_store]
  congr 2
  funext q
  by_cases hq : q = i.toNatClampNeg
  · subst hq
    simp [updV, upd, vp_updL, vp_nar]
    try rfl
  · simp [updV, upd, vp_updL, hq]
theorem mm_cast {a t N : Nat} {f : Nat → Int32} {i : Int32} {x : Int32} (hd : decode Y.2.1 pc = .ok (.castore, 1)) (hm : M a = some (.inl (t, N, .inl f))) (ht : mm_ty[t]? = some .char) (hin : vp_in i N) (kk : ∀ M1 : mm_M, M1 = mm_up M a (.inl (t, N, .inl (upd f i.toNatClampNeg (vp_nar .char x)))) → mm_Ev g l Y rm Q (pc + 1) ls st M1 n k j) : mm_Ev g l Y rm Q pc ls (.int x :: .int i :: .ref a :: st) M n k j := by
  intro p e s m args below meth c H locs lsM hC hH hS hL
  obtain ⟨h1000, -, hat⟩ := hH.2.2 a _ hm
  refine W.cast hC.1 hC.2.1 hat ((hC.2.2.2.2.2.2.2.2.1.1.2 t _ (mm_tys_at ht)).1 N (fun q => .int (f q))) (fun q => by cases q) (by show ¬ (i < 0 ∨ (arrV _ _ _).slots.size ≤ _); rw [arrV_size]; exact hin) rfl rfl hd fun H1 e1 z oq => ?_
  refine kk _ rfl p e s m args below meth c H1 _ lsM hC (hH.set hm z oq ?_) (hS.put z oq (mm_ad_A h1000)) hL
  show H1[_]? = some (vp_cell _ _)
  rw [e1]
  show some ((vp_cell _ (N, .inl f)).setSlot _ _) = some (vp_cell _ (N, .inl (upd f i.toNatClampNeg (vp_nar .char x))))
  rw [vp_cell_i, vp_cell_i, arrV_store]
  congr 2
  funext q
  by_cases hq : q = i.toNatClampNeg
  · subst hq
    simp [updV, upd, vp_updL, vp_nar]
    try rfl
  · simp [updV, upd, vp_updL, hq]
theorem mm_last {a t N : Nat} {f : Nat → Int64} {i : Int32} {x : Int64} (hd : decode Y.2.1 pc = .ok (.lastore, 1)) (hm : M a = some (.inl (t, N, .inr (.inl f)))) (ht : mm_ty[t]? = some .long) (hin : vp_in i N) (kk : ∀ M1 : mm_M, M1 = mm_up M a (.inl (t, N, .inr (.inl (vp_updL f i.toNatClampNeg x)))) → mm_Ev g l Y rm Q (pc + 1) ls st M1 n k j) : mm_Ev g l Y rm Q pc ls (.long x :: .int i :: .ref a :: st) M n k j := by
  intro p e s m args below meth c H locs lsM hC hH hS hL
  obtain ⟨h1000, -, hat⟩ := hH.2.2 a _ hm
  refine W.last hC.1 hC.2.1 hat ((hC.2.2.2.2.2.2.2.2.1.1.2 t _ (mm_tys_at ht)).1 N (fun q => .long (f q))) (fun q => by cases q) (by show ¬ (i < 0 ∨ (arrV _ _ _).slots.size ≤ _); rw [arrV_size]; exact hin) rfl rfl hd fun H1 e1 z oq => ?_
  refine kk _ rfl p e s m args below meth c H1 _ lsM hC (hH.set hm z oq ?_) (hS.put z oq (mm_ad_A h1000)) hL
  show H1[_]? = some (vp_cell _ _)
  rw [e1]
  show some ((vp_cell _ (N, .inr (.inl f))).setSlot _ _) = some (vp_cell _ (N, .inr (.inl (vp_updL f i.toNatClampNeg x))))
  rw [vp_cell_l, vp_cell_l, arrV_store]
  congr 2
  funext q
  by_cases hq : q = i.toNatClampNeg
  · subst hq
    simp [updV, upd, vp_updL, vp_nar]
    try rfl
  · simp [updV, upd, vp_updL, hq]
theorem mm_new {index ci N : Nat} {fs : List Value} (hd : decode Y.2.1 pc = .ok (.new index, 3)) (hN : mm_Nl Y.1.cls index ci N fs) (hcells : k + 1 ≤ rm.cells) (hslots : j + N ≤ rm.slots) (kk : ∀ M1 : mm_M, M1 = mm_up M n (.inr (ci, fs)) → mm_Ev g l Y rm Q (pc + 3) ls (.ref n :: st) M1 (n + 1) (k + 1) (j + N)) : mm_Ev g l Y rm Q pc ls st M n k j := by
  intro p e s m args below meth c H locs lsM hC hH hS hL
  obtain ⟨C, T, t, hc, hw, hty, w1, w2, w3, hfs, hmap⟩ := hN
  obtain ⟨hx, hb, -, -, hown, hts, -, -, hI, hbs⟩ := id hC
  have hKn := hI.1.1 ci _ hc
  refine W.newcK hx hb hown (hts _ w1) (hts _ w2) (hts _ w3) rfl hd hcells hslots hKn.2.1 rfl fun H1 kC hkC e1 z1 o1 => ?_
  have hend := hH.end
  have h9 := kk _ rfl p e s m args below meth c H1 locs lsM hC (hH.push z1 o1 (by
    rw [hend]
    show va_at _ _ (H.size, .inr (ci, fs.map (mm_tr g))) H1
    rw [hmap g]
    exact ⟨_, hc, (u_born t hts hw hKn hkC e1 hty).to hfs⟩)) ⟨Nat.le_trans hS.1 (by omega), fun q h1 h2 => (o1 q (Nat.lt_of_lt_of_le h1 hS.1)).trans (hS.2.1 q h1 h2), hS.2.2⟩ hL
  have e9 : mm_tr g (.ref n) = .ref H.size := by show Value.ref (mm_ad g n) = _; rw [hend]
  rw [List.map_cons, e9] at h9
  exact h9
end MMHP
end
section
/-! Ends, entering, calls. -/
theorem mm_fin_of {g : mm_G} {mc ms n : Nat} {below : List Frame} {args : Array Value} {s t : State} {Q : mm_O → Prop} {v : Option Value} {M : mm_M} {H : Heap} (hQ : Q (.inl v, M, n)) (hH : mm_H g M n H) (hlow : ∀ q : Nat, q < g.2.2.1 → H[q]? = s.heap[q]?) (h : MQ below (fun _ _ o t => o = .returned (v.map (mm_tr g)) ∧ t.heap = H) args s mc ms (mm_A g) t) : mm_Fin g mc ms below s Q t := by
  obtain ⟨o, h1, h2, ⟨h3, h4⟩, L, ⟨-, h5, h6⟩, h7⟩ := h
  exact ⟨o, h1, h2, (.inl v, M, n), L, hQ, by rw [h4]; exact hH, fun q hq => by rw [h4]; exact hlow q hq, h7, h5, h6, h3⟩
theorem mm_low {g : mm_G} {s : State} {H : Heap} {locs : List Loc} (hS : va_S (mm_A g) s.heap H locs) (hb : g.2.2.1 ≤ s.heap.size) : ∀ q : Nat, q < g.2.2.1 → H[q]? = s.heap[q]? := fun q hq => hS.2.1 q (Nat.lt_of_lt_of_le hq hb) (fun z => absurd hq (Nat.not_lt.mpr z))
theorem mm_H.base {g : mm_G} {M : mm_M} {n : Nat} {H : Heap} (h : mm_H g M n H) : g.2.2.1 ≤ H.size := by
  have h1 := h.1
  have h2 := h.2.1
  omega
section MMRT
variable {g : mm_G} {l : Launch} {Y : mm_Y} {rm : Room} {Q : mm_O → Prop} {pc : Nat} {ls : List (Option Value)} {st : List Value} {M : mm_M} {n k j : Nat}
theorem mm_iret {v : Int32} (hd : decode Y.2.1 pc = .ok (.ireturn, 1)) (hr : Y.2.2.2 = some .int) (hk : k ≤ rm.cells) (hj : j ≤ rm.slots) (hQ : Q (.inl (some (.int v)), M, n)) : mm_Ev g l Y rm Q pc ls [.int v] M n k j := by
  intro p e s m args below meth c H locs lsM hC hH hS hL
  obtain ⟨hx, hb, -, hrt, -, -, hlk, -, -, hbs⟩ := id hC
  refine W.widen hk hj (mm_W_mono (fun t ht => mm_fin_of (args := args) hQ hH (mm_low hS hbs) ht) ?_)
  exact W.iret (v := v) hx hb (hrt.trans hr) (fun t ht hW => ⟨rfl, ht⟩) hS.2.2 hd hlk
theorem mm_zret {v : Int32} {ty : FieldType} (hd : decode Y.2.1 pc = .ok (.ireturn, 1)) (hr : Y.2.2.2 = some ty) (hn : narrow ty (.int v) = .int v) (hk : k ≤ rm.cells) (hj : j ≤ rm.slots) (hQ : Q (.inl (some (.int v)), M, n)) : mm_Ev g l Y rm Q pc ls [.int v] M n k j := by
  intro p e s m args below meth c H locs lsM hC hH hS hL
  obtain ⟨hx, hb, -, hrt, -, -, hlk, -, -, hbs⟩ := id hC
  refine W.widen hk hj (mm_W_mono (fun t ht => mm_fin_of (args := args) hQ hH (mm_low hS hbs) ht) ?_)
  exact W.zret (v := v) hx hb (hrt.trans hr) hn (fun t ht hW => ⟨rfl, ht⟩) hS.2.2 hd hlk
theorem mm_lret {v : Int64} (hd : decode Y.2.1 pc = .ok (.lreturn, 1)) (hr : Y.2.2.2 = some .long) (hk : k ≤ rm.cells) (hj : j ≤ rm.slots) (hQ : Q (.inl (some (.long v)), M, n)) : mm_Ev g l Y rm Q pc ls [.long v] M n k j := by
  intro p e s m args below meth c H locs lsM hC hH hS hL
  obtain ⟨hx, hb, -, hrt, -, -, hlk, -, -, hbs⟩ := id hC
  refine W.widen hk hj (mm_W_mono (fun t ht => mm_fin_of (args := args) hQ hH (mm_low hS hbs) ht) ?_)
  exact W.lret (v := v) hx hb (hrt.trans hr) (fun t ht hW => ⟨rfl, ht⟩) hS.2.2 hd hlk
theorem mm_vret (hd : decode Y.2.1 pc = .ok (.return_, 1)) (hr : Y.2.2.2 = none) (hk : k ≤ rm.cells) (hj : j ≤ rm.slots) (hQ : Q (.inl none, M, n)) : mm_Ev g l Y rm Q pc ls [] M n k j := by
  intro p e s m args below meth c H locs lsM hC hH hS hL
  obtain ⟨hx, hb, -, hrt, -, -, hlk, -, -, hbs⟩ := id hC
  refine W.widen hk hj (mm_W_mono (fun t ht => mm_fin_of (args := args) hQ hH (mm_low hS hbs) ht) ?_)
  exact W.vret hx hb (hrt.trans hr) (fun t ht hW => ⟨rfl, ht⟩) hS.2.2 hd hlk
theorem mm_aret {a : Nat} {C : String} (hd : decode Y.2.1 pc = .ok (.areturn, 1)) (hr : Y.2.2.2 = some (.object C)) (hk : k ≤ rm.cells) (hj : j ≤ rm.slots) (hQ : Q (.inl (some (.ref a)), M, n)) : mm_Ev g l Y rm Q pc ls [.ref a] M n k j := by
  intro p e s m args below meth c H locs lsM hC hH hS hL
  obtain ⟨hx, hb, -, hrt, -, -, hlk, -, -, hbs⟩ := id hC
  refine W.widen hk hj (mm_W_mono (fun t ht => mm_fin_of (args := args) hQ hH (mm_low hS hbs) ht) ?_)
  exact W.aret (v := .ref (mm_ad g a)) hx hb (hrt.trans hr) (Or.inl ⟨_, rfl⟩) (Or.inr ⟨_, rfl⟩) (fun t ht hW => ⟨rfl, ht⟩) hS.2.2 hd hlk
end MMRT
def mm_wd (Y : mm_Y) : List Cond := Cond.code Y.1 Y.2.1 Y.2.2.1 Y.2.2.2 :: mm_tb
def mm_Met (g : mm_G) (l : Launch) (Y : mm_Y) (rm : Room) (as : List Value) (M : mm_M) (n : Nat) (Q : mm_O → Prop) : Prop :=
  MetFree l Y.1 (headSpec (mm_wd Y) rm) (fun a U => a = (as.map (mm_tr g)).toArray ∧ mm_I g U U.heap ∧ mm_H g M n U.heap) (fun _ _ _ _ _ => True) (fun _ st o t => mm_Po g rm.cells rm.slots st Q o t)
def mm_ent : List Value → List (Option Value)
  | [] => []
  | v :: vs => match v with
    | .long x => some (.long x) :: none :: mm_ent vs
    | .double x => some (.double x) :: none :: mm_ent vs
    | v => some v :: mm_ent vs
theorem mm_ent_in {g : mm_G} : ∀ (as : List Value) (b i : Nat) (v : Value), mm_lg (mm_ent as) i = some v → (b + i, mm_tr g v) ∈ lv_args b (as.map (mm_tr g)) := by
  intro as
  induction as with
  | nil => intro b i v h; cases h
  | cons w as ih =>
    intro b i v h
    have one : (mm_ent (w :: as) = some w :: mm_ent as ∧ (mm_tr g w).category = 1) ∨ (mm_ent (w :: as) = some w :: none :: mm_ent as ∧ (mm_tr g w).category = 2) := by
      cases w <;> first | exact Or.inl ⟨rfl, rfl⟩ | exact Or.inr ⟨rfl, rfl⟩
    rw [List.map_cons, lv_args]
    rcases one with ⟨h1, h2⟩ | ⟨h1, h2⟩
    · rw [h1] at h
      rw [if_neg (by omega)]
      cases i with
      | zero => cases h; exact List.mem_cons_self
      | succ i =>
        have := ih (b + 1) i v h
        rw [show b + 1 + i = b + (i + 1) by omega] at this
        exact List.mem_cons_of_mem _ this
    · rw [h1] at h
      rw [if_pos h2]
      cases i with
      | zero => cases h; exact List.mem_cons_self
      | succ i =>
        cases i with
        | zero => cases h
        | succ i =>
          have := ih (b + 2) i v h
          rw [show b + 2 + i = b + (i + 1 + 1) by omega] at this
          exact List.mem_cons_of_mem _ this
theorem mm_enter {g : mm_G} {l : Launch} {Y : mm_Y} {rm : Room} {as : List Value} {M : mm_M} {n : Nat} {Q : mm_O → Prop} (hy : plainName Y.1.cls = true) (hfit : (lg_sl (as.map (mm_tr g))).length ≤ Y.2.2.1) (h : mm_Ev g l Y rm Q 0 (mm_ent as) [] M n 0 0) : mm_Met g l Y rm as M n Q := by
  refine MetFree.of_bodyS (code := Y.2.1) (maxLocals := Y.2.2.1) (ret := Y.2.2.2) hy ?_ ?_
  · intro args s m h hn
    obtain ⟨meth, c, h1, h2, h3, h4, h5, h6, -, -⟩ := Cond.code_spec hn (atoms_spec (ws := mm_wd Y) h _ List.mem_cons_self)
    exact ⟨meth, c, h1, h2, h3, h4, h5, h6⟩
  · intro p e s m args below meth c s₁ B hml hP _
    obtain ⟨rfl, hI, hH⟩ := hP
    have hh0 : s₁.heap = s.heap := by rw [B.state]; rfl
    have hts0 := atoms_spec (ws := mm_wd Y) B.pre
    have hC : mm_Cx g Y p s m (as.map (mm_tr g)).toArray meth c := ⟨B.exec, B.bytes, hml, B.returns, findClass_of_methodNamed B.named, fun w hw => hts0 w (List.mem_cons_of_mem _ hw), B.notSynchronized, ⟨(name_of_methodNamed B.named B.method).1, B.named⟩, hI, hH.base⟩
    have hl := lv_entry (as.map (mm_tr g)) (n := Y.2.2.1) hfit
    have hL : mm_L g Y.2.2.1 (mm_ent as) ((lg_sl (as.map (mm_tr g)) ++ List.replicate (Y.2.2.1 - (lg_sl (as.map (mm_tr g))).length) Slot.unset).toArray) := by
      refine ⟨hl.1, hl.2.1, fun i v hv => ?_⟩
      have h9 := mm_ent_in (g := g) as 0 i v hv
      rw [Nat.zero_add] at h9
      exact hl.2.2 _ h9
    obtain ⟨t, a1, o, b1, b2, b3⟩ := h p e s m _ below meth c s.heap [] _ hC hH va_S.rf hL s₁ hh0 (Stand.of_body B)
    refine ⟨t, o, ?_, b1, b2, b3⟩
    rw [lg_entry_eq]
    exact a1
end
section
/-! Calls in the judgement: the callee returns, or throws. -/
/-- what is behind an exception of class i that a call at pc has thrown -/
def mm_Tv (g : mm_G) (l : Launch) (Y : mm_Y) (rm : Room) (Q : mm_O → Prop) (pc : Nat) (ls : List (Option Value)) (st : List Value) (M : mm_M) (n k j i : Nat) : Prop :=
  ∀ (p : Program) (e : Env) (s : State) (m : MethodId) (args : Array Value) (below : List Frame) (meth : Method) (c : Code) (H : Heap) (locs : List Loc) (lsM : Array Slot) (x : Addr),
    mm_Cx g Y p s m args meth c → mm_H g M n H → va_S (mm_A g) s.heap H locs → mm_L g Y.2.2.1 ls lsM → (∃ t : State, t.heap = H ∧ s.WarmedH t.vm ∧ mm_Xc i x t) → mm_Th p l e rm s m args below meth c H locs k j (mm_Fin g rm.cells rm.slots below s Q) (F0 m pc lsM (st.map (mm_tr g))) x
/-- a method's own words -/
def mm_Yw (Y : mm_Y) (np : Nat) : Prop := Cond.code Y.1 Y.2.1 Y.2.2.1 Y.2.2.2 ∈ mm_tb ∧ Cond.initialized Y.1.cls ∈ mm_tb ∧ (Y.1.cls ≠ "java/lang/invoke/MethodHandle" ∧ Y.1.cls ≠ "java/lang/invoke/VarHandle") ∧ (parseMethodDescriptor Y.1.desc).map (fun d => d.parameters.length) = some np
theorem mm_Yw.len {Y : mm_Y} {np : Nat} (h : mm_Yw Y np) : ∀ sig, parseMethodDescriptor Y.1.desc = some sig → np = sig.parameters.length := fun sig hs => by
  have h2 := h.2.2.2
  rw [hs] at h2
  exact (Option.some.inj h2).symm
def mm_Vl (own : String) (index ci np : Nat) (Y : mm_Y) : Prop := mm_Yw Y np ∧ ∃ q : vw_C, mm_cl[ci]? = some q ∧ Cond.methodLink own index Y.1 ∈ mm_tb ∧ Cond.instanceMethod Y.1 ∈ mm_tb ∧ Cond.selects q.1 Y.1 Y.1 ∈ mm_tb
def mm_Sl (own : String) (index np : Nat) (Y : mm_Y) : Prop := mm_Yw Y np ∧ Cond.methodLink own index Y.1 ∈ mm_tb ∧ Cond.static Y.1 ∈ mm_tb
def mm_Il (own : String) (index np : Nat) (Y : mm_Y) : Prop := mm_Yw Y np ∧ Cond.methodLink own index Y.1 ∈ mm_tb ∧ Cond.instanceMethod Y.1 ∈ mm_tb ∧ Y.1.name = "<init>" ∧ Y.2.2.2 = none
theorem mm_cat_sum (g : mm_G) (st : List Value) : ((st.map (mm_tr g)).map fun v => v.category).sum = (st.map fun v => v.category).sum := by
  rw [List.map_map]
  congr 1
  exact List.map_congr_left (fun v _ => mm_tr_cat g v)
section MMCL
variable {g : mm_G} {l : Launch} {Y : mm_Y} {rm : Room} {Q : mm_O → Prop} {pc : Nat} {ls : List (Option Value)} {st : List Value} {M : mm_M} {n k j : Nat}
theorem mm_pay {Z : mm_Y} {rz : Room} {np : Nat} (hZ : mm_Yw Z np) {s : State} {args a : Array Value} (hts : ∀ w ∈ mm_tb, w.before args s = true) {U : State} {mk : MethodId} (hW : s.WarmedH U.vm) (hn : U.methodNamed? Z.1 = some mk) : (headSpec (mm_wd Z) rz).pre.before a U = true ∧ (Cond.initialized Z.1.cls).before a U = true ∧ ∃ methY cY, U.vm.method? mk = some methY ∧ methY.code = some cY ∧ cY.maxLocals = Z.2.2.1 := by
  have h := mm_tb_good hts hW a
  obtain ⟨methY, cY, h1, h2, -, h4, -⟩ := Cond.code_spec hn (h _ hZ.1)
  refine ⟨atoms_intro (ws := mm_wd Z) (fun w hw => ?_), h _ hZ.2.1, methY, cY, h1, h2, h4⟩
  rcases List.mem_cons.mp hw with rfl | hw
  · exact h _ hZ.1
  · exact h _ hw
theorem mm_callV {Z : mm_Y} {rz : Room} {Qz : mm_O → Prop} {a ci index np : Nat} {fs as : List Value} (hd : decode Y.2.1 pc = .ok (.invokevirtual index, 3)) (hZ : mm_Vl Y.1.cls index ci np Z) (hM : mm_Met g l Z rz (.ref a :: as) M n Qz) (hm : M a = some (.inr (ci, fs))) (hlen : as.length = np)
    (hroom : rz.frames + 1 ≤ rm.frames ∧ (st.map fun v => v.category).sum + (Z.2.2.1 + 11) + rz.locals ≤ rm.locals) (hk : k + rz.cells ≤ rm.cells) (hj : j + rz.slots ≤ rm.slots)
    (kr : ∀ (v : Option Value) (M1 : mm_M) (n1 : Nat), Qz (.inl v, M1, n1) → mm_Ev g l Y rm Q (pc + 3) ls (v.toList ++ st) M1 n1 (k + rz.cells) (j + rz.slots))
    (kt : ∀ (i : Nat) (M1 : mm_M) (n1 : Nat), Qz (.inr i, M1, n1) → mm_Tv g l Y rm Q pc ls st M1 n1 (k + rz.cells) (j + rz.slots) i) : mm_Ev g l Y rm Q pc ls (as.reverse ++ .ref a :: st) M n k j := by
  intro p e s m args below meth c H locs lsM hC hH hS hL
  obtain ⟨hx, hb, hml, -, hown, hts, -, -, hI, hbs⟩ := id hC
  obtain ⟨hYw, q, hc, w1, w2, w3⟩ := hZ
  obtain ⟨cellB, hcB, hoB, hclB⟩ := va_recv hI.1 (hH.P hm) hc (q0 := 0) rfl
  have hst : (as.reverse ++ .ref a :: st).map (mm_tr g) = (as.map (mm_tr g)).reverse ++ .ref (mm_ad g a) :: st.map (mm_tr g) := by
    rw [List.map_append, List.map_reverse]; rfl
  rw [hst]
  obtain ⟨mk0, methM0, hnamed0, hmeth0, -, -⟩ := Cond.instanceMethod_spec (hts _ w2)
  obtain ⟨methM', cM, hmethM', -, -, -, -, -, -, hsigM⟩ := Cond.code_spec hnamed0 (hts _ hYw.1)
  have hLk := mm_lkV (l := l) (e := e) (R := rm) (below := below) (meth := meth) (locs := locs) (cells := k) (slots := j) hx hown (hts _ w1) (hts _ w2) (hts _ w3) (sig0 := methM'.sig) (fun mk methM h1 h2 => by
    cases hnamed0.symm.trans h1
    cases hmethM'.symm.trans h2
    rfl) hYw.2.2.1 hcB hoB hclB (fr := F0 m pc lsM ((as.map (mm_tr g)).reverse ++ .ref (mm_ad g a) :: st.map (mm_tr g))) rfl (argsL := as.map (mm_tr g)) (rest := st.map (mm_tr g)) (by rw [List.length_map, hlen]; exact hYw.len _ hsigM) rfl (by rw [hb]; exact hd)
  refine mm_callAny (S := headSpec (mm_wd Z) rz) (maxL := Z.2.2.1) (Wd := (st.map fun v => v.category).sum) hLk hM rfl (by rw [hml]; exact hL.1) hroom.1 hroom.2 (by rw [mm_cat_sum]; show 2 * 0 + _ ≤ _; omega) (by rw [hb]; exact hd)
    (fun U mk hW hn => mm_pay hYw hts hW hn) hk hj (fun U hW hU => ⟨rfl, (hI.moved hW).kept (by rw [hU]; exact hS.2.1), by rw [hU]; exact hH⟩) hS hbs
    (fun v M1 n1 H1 locs1 hQz hH1 hS1 => ?_) (fun i x M1 n1 H1 locs1 hQz hH1 hS1 hX => ?_)
  · have h9 := kr v M1 n1 hQz p e s m args below meth c H1 locs1 lsM hC hH1 hS1 hL
    rw [List.map_append] at h9
    cases v <;> exact h9
  · exact kt i M1 n1 hQz p e s m args below meth c H1 locs1 lsM x hC hH1 hS1 hL hX
theorem mm_callS {Z : mm_Y} {rz : Room} {Qz : mm_O → Prop} {index np : Nat} {as : List Value} (hd : decode Y.2.1 pc = .ok (.invokestatic index, 3)) (hZ : mm_Sl Y.1.cls index np Z) (hM : mm_Met g l Z rz as M n Qz) (hlen : as.length = np)
    (hroom : rz.frames + 1 ≤ rm.frames ∧ (st.map fun v => v.category).sum + (Z.2.2.1 + 11) + rz.locals ≤ rm.locals) (hk : k + rz.cells ≤ rm.cells) (hj : j + rz.slots ≤ rm.slots)
    (kr : ∀ (v : Option Value) (M1 : mm_M) (n1 : Nat), Qz (.inl v, M1, n1) → mm_Ev g l Y rm Q (pc + 3) ls (v.toList ++ st) M1 n1 (k + rz.cells) (j + rz.slots))
    (kt : ∀ (i : Nat) (M1 : mm_M) (n1 : Nat), Qz (.inr i, M1, n1) → mm_Tv g l Y rm Q pc ls st M1 n1 (k + rz.cells) (j + rz.slots) i) : mm_Ev g l Y rm Q pc ls (as.reverse ++ st) M n k j := by
  intro p e s m args below meth c H locs lsM hC hH hS hL
  obtain ⟨hx, hb, hml, -, hown, hts, -, -, hI, hbs⟩ := id hC
  obtain ⟨hYw, w1, w2⟩ := hZ
  have hst : (as.reverse ++ st).map (mm_tr g) = (as.map (mm_tr g)).reverse ++ st.map (mm_tr g) := by
    rw [List.map_append, List.map_reverse]
  rw [hst]
  obtain ⟨mk0, hnamed0⟩ := Cond.code_named (hts _ hYw.1)
  obtain ⟨methM', cM, hmethM', -, -, -, -, -, -, hsigM⟩ := Cond.code_spec hnamed0 (hts _ hYw.1)
  have hLk := mm_lkS (l := l) (e := e) (R := rm) (below := below) (meth := meth) (H := H) (locs := locs) (cells := k) (slots := j) hx hown (hts _ w1) (hts _ w2) (hts _ hYw.2.1) hnamed0 hmethM' (sig0 := methM'.sig) rfl hYw.2.2.1 (fr := F0 m pc lsM ((as.map (mm_tr g)).reverse ++ st.map (mm_tr g))) rfl (argsL := as.map (mm_tr g)) (rest := st.map (mm_tr g)) (by rw [List.length_map, hlen]; exact hYw.len _ hsigM) rfl (by rw [hb]; exact hd)
  refine mm_callAny (S := headSpec (mm_wd Z) rz) (maxL := Z.2.2.1) (Wd := (st.map fun v => v.category).sum) hLk hM rfl (by rw [hml]; exact hL.1) hroom.1 hroom.2 (by rw [mm_cat_sum]; show 2 * 0 + _ ≤ _; omega) (by rw [hb]; exact hd)
    (fun U mk hW hn => mm_pay hYw hts hW hn) hk hj (fun U hW hU => ⟨rfl, (hI.moved hW).kept (by rw [hU]; exact hS.2.1), by rw [hU]; exact hH⟩) hS hbs
    (fun v M1 n1 H1 locs1 hQz hH1 hS1 => ?_) (fun i x M1 n1 H1 locs1 hQz hH1 hS1 hX => ?_)
  · have h9 := kr v M1 n1 hQz p e s m args below meth c H1 locs1 lsM hC hH1 hS1 hL
    rw [List.map_append] at h9
    cases v <;> exact h9
  · exact kt i M1 n1 hQz p e s m args below meth c H1 locs1 lsM x hC hH1 hS1 hL hX
theorem mm_callI {Z : mm_Y} {rz : Room} {Qz : mm_O → Prop} {a index np : Nat} {as : List Value} (hd : decode Y.2.1 pc = .ok (.invokespecial index, 3)) (hZ : mm_Il Y.1.cls index np Z) (hM : mm_Met g l Z rz (.ref a :: as) M n Qz) (hlen : as.length = np)
    (hroom : rz.frames + 1 ≤ rm.frames ∧ (st.map fun v => v.category).sum + (Z.2.2.1 + 11) + rz.locals ≤ rm.locals) (hk : k + rz.cells ≤ rm.cells) (hj : j + rz.slots ≤ rm.slots)
    (kr : ∀ (v : Option Value) (M1 : mm_M) (n1 : Nat), Qz (.inl v, M1, n1) → mm_Ev g l Y rm Q (pc + 3) ls (v.toList ++ st) M1 n1 (k + rz.cells) (j + rz.slots))
    (kt : ∀ (i : Nat) (M1 : mm_M) (n1 : Nat), Qz (.inr i, M1, n1) → mm_Tv g l Y rm Q pc ls st M1 n1 (k + rz.cells) (j + rz.slots) i) : mm_Ev g l Y rm Q pc ls (as.reverse ++ .ref a :: st) M n k j := by
  intro p e s m args below meth c H locs lsM hC hH hS hL
  obtain ⟨hx, hb, hml, -, hown, hts, -, -, hI, hbs⟩ := id hC
  obtain ⟨hYw, w1, w2, hy1, hy2⟩ := hZ
  have hst : (as.reverse ++ .ref a :: st).map (mm_tr g) = (as.map (mm_tr g)).reverse ++ .ref (mm_ad g a) :: st.map (mm_tr g) := by
    rw [List.map_append, List.map_reverse]; rfl
  rw [hst]
  have hcode := hts _ hYw.1
  rw [hy2] at hcode
  have hLk := mm_lkI (l := l) (e := e) (R := rm) (below := below) (meth := meth) (H := H) (locs := locs) (cells := k) (slots := j) hx hown hy1 (hts _ w1) (hts _ w2) hcode hYw.2.2.1 (fr := F0 m pc lsM ((as.map (mm_tr g)).reverse ++ .ref (mm_ad g a) :: st.map (mm_tr g))) rfl (a := mm_ad g a) (argsL := as.map (mm_tr g)) (rest := st.map (mm_tr g)) (fun sig hs => by rw [List.length_map, hlen]; exact hYw.len _ hs) rfl (by rw [hb]; exact hd)
  refine mm_callAny (S := headSpec (mm_wd Z) rz) (maxL := Z.2.2.1) (Wd := (st.map fun v => v.category).sum) hLk hM rfl (by rw [hml]; exact hL.1) hroom.1 hroom.2 (by rw [mm_cat_sum]; show 2 * 0 + _ ≤ _; omega) (by rw [hb]; exact hd)
    (fun U mk hW hn => mm_pay hYw hts hW hn) hk hj (fun U hW hU => ⟨rfl, (hI.moved hW).kept (by rw [hU]; exact hS.2.1), by rw [hU]; exact hH⟩) hS hbs
    (fun v M1 n1 H1 locs1 hQz hH1 hS1 => ?_) (fun i x M1 n1 H1 locs1 hQz hH1 hS1 hX => ?_)
  · have h9 := kr v M1 n1 hQz p e s m args below meth c H1 locs1 lsM hC hH1 hS1 hL
    rw [List.map_append] at h9
    cases v <;> exact h9
  · exact kt i M1 n1 hQz p e s m args below meth c H1 locs1 lsM x hC hH1 hS1 hL hX
/-- an exception that isn't caught here leaves the method (its code has no handlers: its word is 'code') -/
theorem mm_out {np i : Nat} (hY : mm_Yw Y np) (hk : k ≤ rm.cells) (hj : j ≤ rm.slots) (hQ : Q (.inr i, M, n)) : mm_Tv g l Y rm Q pc ls st M n k j i := by
  intro p e s m args below meth c H locs lsM x hC hH hS hL hX T hT X0
  obtain ⟨hx, hb, hml, -, hown, hts, hlk, hnm, hI, hbs⟩ := id hC
  have X := stand_widen X0 hk hj
  obtain ⟨t0, ht0, hW0, cell, hce, hob, hcl⟩ := hX
  have hout : ∀ y ∈ c.exceptionTable.toList, covers y pc = false := by
    obtain ⟨meth', c', h1, h2, -, -, -, -, h3, -⟩ := Cond.code_spec hnm.2 (hts _ hY.1)
    cases X.method.symm.trans h1
    cases X.code.symm.trans h2
    intro y hy
    rw [Array.isEmpty_iff.mp h3] at hy
    simp at hy
  obtain ⟨hst, hrun, hend, hW, hsame⟩ := X.leaveThrown x (g := F0 m pc lsM (st.map (mm_tr g))) rfl rfl rfl hout hlk
  refine ⟨_, hst, .threw x, hrun, hend, (.inr i, M, n), locs, hQ, ?_, ?_, hS.2.2, hW, hsame, x, rfl, cell, ?_, hob, ?_⟩
  · show mm_H g M n T.heap
    rw [hT]; exact hH
  · intro q hq
    show T.heap[q]? = _
    rw [hT]
    exact mm_low hS hbs q hq
  · show T.heap[x]? = _
    rw [hT, ← ht0]; exact hce
  · show T.vm.findClass _ = _
    rw [X.warmed.alike.findClass, ← hW0.alike.findClass]; exact hcl
end MMCL
end
section
/-! 'throw new E("text")', from the 'new' to the method's end. -/
section MMRS
variable {p : Program} {l : Launch} {e : Env} {R : Room} {s : State} {m : MethodId} {args : Array Value} {below : List Frame} {meth : Method} {c : Code} {T : State} {locs : List Loc} {cells slots : Nat}
/-- the state in which the invocation would have begun with the heap as it is now -/
def mm_now (s T : State) : State := { s with heap := T.heap, slotsUsed := T.slotsUsed }
theorem mm_now_warm {vm : Vm} : (mm_now s T).WarmedH vm ↔ s.WarmedH vm := Iff.rfl
theorem mm_restart (X : Stand p l e R s m args below meth c T locs cells slots) (hc : cells ≤ R.cells) (hs : slots ≤ R.slots) : Stand p l e { frames := R.frames, cells := R.cells - cells, slots := R.slots - slots, locals := R.locals } (mm_now s T) m args below meth c T [] 0 0 := by
  have h1 := X.heapSize
  have h2 := X.used
  have hr := X.room
  have hb := X.book
  simp only [State.hasRoom, Bool.and_eq_true, decide_eq_true_eq] at hr
  refine ⟨X.admits, X.cas, X.clock, X.frames, ?_, X.hears, X.method, X.code, X.here, X.tail, X.warmed, X.limits, X.bytes, ?_⟩
  · simp only [State.hasRoom, Bool.and_eq_true, decide_eq_true_eq]
    refine ⟨⟨⟨⟨hr.1.1.1.1, hr.1.1.1.2⟩, ?_⟩, ?_⟩, hb⟩
    · show T.heap.size + (R.cells - cells) ≤ _
      have := hr.1.1.2
      omega
    · show T.slotsUsed + (R.slots - slots) ≤ _
      have := hr.1.2
      omega
  · refine ⟨X.same.1, Nat.le_refl _, Nat.le_refl _, ?_, ?_, ?_⟩
    · show T.slotsUsed = T.slotsUsed + ((T.heap.toList.drop T.heap.size).map (·.slots.size)).sum
      rw [List.drop_of_length_le (by simp)]; rfl
    · show ((T.heap.toList.drop T.heap.size).map (·.slots.size)).sum ≤ 0
      rw [List.drop_of_length_le (by simp)]; exact Nat.le_refl _
    · intro a cc ha
      exact ⟨cc, ha, rfl, rfl, fun i _ => rfl⟩
end MMRS
/-- the words that a throw may ask for -/
def mm_xs : List Cond := mm_nw ++ [.isRef (.static "java/lang/Throwable" "UNASSIGNED_STACK" "[Ljava/lang/StackTraceElement;"), .isRef (.static "java/lang/Throwable" "SUPPRESSED_SENTINEL" "Ljava/util/List;"), .laysStatic "java/lang/Throwable" "UNASSIGNED_STACK" "[Ljava/lang/StackTraceElement;", .laysStatic "java/lang/Throwable" "SUPPRESSED_SENTINEL" "Ljava/util/List;"]
def mm_Xl (own : String) (ix is ic i : Nat) : Prop := Cond.classLink own ix (mm_xn i) ∈ mm_tb ∧ Cond.instantiable (mm_xn i) 6 ∈ mm_tb ∧ Cond.initialized (mm_xn i) ∈ mm_tb ∧ (∃ t : Nat, (own, is, t) ∈ mm_strs) ∧ (∀ w ∈ Bundle.ownAtoms own ic (mm_xn i) ["java/lang/RuntimeException", "java/lang/Exception"], (goodWord w = true ∧ w ∈ tables_1) ∨ w ∈ mm_xs)
theorem mm_isRef {C n d : String} {A : Nat → Prop} {U : State} {args : Array Value} (h : va_Zq C n d A U U.heap) : (Cond.isRef (.static C n d)).before args U = true := by
  rcases h with ⟨cf, kf, fi, f, a, cell, h1, h2, h3, h4, h5, h6, h7, h8⟩ | ⟨t, cf, kf, fi, f, a, cell, h1, h2, h3, h4, h5, h6, h7, h8⟩
  · simp [Cond.before, Cond.holds, Cond.value, Term.eval, State.fieldNamed?, h1, h2, h4, h5, h6, h7]
  · simp [Cond.before, Cond.holds, Cond.value, Term.eval, State.fieldNamed?, h1, h2, h4, h5, h6, h7]
theorem mm_fit (i : Nat) : Bundle.fit (mm_xn i) = true := by
  unfold mm_xn
  split <;> decide
section MMTH
variable {g : mm_G} {l : Launch} {Y : mm_Y} {rm : Room} {Q : mm_O → Prop} {pc : Nat} {ls : List (Option Value)} {st : List Value} {M : mm_M} {n k j : Nat}
set_option maxHeartbeats 1000000 in
theorem mm_throw {ix is ic i np : Nat} (hfl : l.flags = flags0) (hd0 : decode Y.2.1 pc = .ok (.new ix, 3)) (hd3 : decode Y.2.1 (pc + 3) = .ok (.dup, 1)) (hd4 : decode Y.2.1 (pc + 3 + 1) = .ok (.ldc is, 2)) (hd6 : decode Y.2.1 (pc + 3 + 1 + 2) = .ok (.invokespecial ic, 3)) (hd9 : decode Y.2.1 (pc + 3 + 1 + 2 + 3) = .ok (.athrow, 1))
    (hY : mm_Yw Y np) (hXl : mm_Xl Y.1.cls ix is ic i) (hk : k + 1 ≤ rm.cells) (hj : j + 6 ≤ rm.slots) (hroom : 5 < rm.frames ∧ (st.map fun v => v.category).sum + 82 ≤ rm.locals) (hQ : Q (.inr i, M, n + 1)) : mm_Ev g l Y rm Q pc ls st M n k j := by
  intro p e s m args below meth c H locs lsM hC hH hS hL T hT X0
  obtain ⟨hx, hb, hml, -, hown, hts, hlk, hnm, hI, hbs⟩ := id hC
  obtain ⟨w1, w2, w3, ⟨tx, hstr⟩, hat⟩ := hXl
  have X := mm_restart X0 (by omega) (by omega)
  have htr : e.platform.stackTraces = false := by
    have h9 := X0.admits.platform
    rw [h9]
    simp [Launch.stackTraces, hfl, flags0, noTraceFlag]
  have hW0 : s.WarmedH (mm_now s T).vm := State.WarmedH.refl s
  have htb : ∀ w ∈ mm_tb, w.before args (mm_now s T) = true := mm_tb_good hts hW0 args
  have hI2 : mm_I g (mm_now s T) (mm_now s T).heap := (hI.moved (U := mm_now s T) hW0).kept (fun a h1 h2 => by show T.heap[a]? = _; rw [hT]; exact hS.2.1 a h1 h2)
  have hatoms : ∀ w ∈ Bundle.ownAtoms Y.1.cls ic (mm_xn i) ["java/lang/RuntimeException", "java/lang/Exception"], w.before args (mm_now s T) = true := by
    intro w hw
    rcases hat w hw with ⟨h1, h2⟩ | h1
    · exact htb w (List.mem_filter.mpr ⟨List.mem_append_right _ h2, h1⟩)
    · rcases List.mem_append.mp h1 with h1 | h1
      · have h2 := hI2.2.2.1.1 w h1
        rcases mm_nw_ok w h1 with ⟨C, T, rfl⟩ | ⟨x, rfl⟩
        · exact va_Nw.use rfl h2
        · exact va_Nw.use rfl h2
      · simp only [List.mem_cons, List.not_mem_nil, or_false] at h1
        rcases h1 with rfl | rfl | rfl | rfl
        · exact mm_isRef hI2.2.2.1.2.1
        · exact mm_isRef hI2.2.2.1.2.2.1
        · exact hI2.2.2.2.2.2.2.2.1.use
        · exact hI2.2.2.2.2.2.2.2.2.use
  have hout : ∀ pc' : Nat, ∀ y ∈ c.exceptionTable.toList, covers y pc' = false := by
    obtain ⟨meth', c', h1, h2, -, -, -, -, h3, -⟩ := Cond.code_spec hnm.2 (hts _ hY.1)
    cases X0.method.symm.trans h1
    cases X0.code.symm.trans h2
    intro pc' y hy
    rw [Array.isEmpty_iff.mp h3] at hy
    simp at hy
  have hR := hI2.2.2.2.1 _ hstr
  have hw : W p l e { frames := rm.frames, cells := rm.cells - k, slots := rm.slots - j, locals := rm.locals } (mm_now s T) m args below meth c T.heap [] 0 0 (fun U => U.status = .running ∧ Ended U below (.threw T.heap.size) ∧ (mm_now s T).WarmedH U.vm ∧ (mm_now s T).sameButNew ({ U with vm := (mm_now s T).vm } : State) [] 1 6 ∧ ∃ ce, U.heap[T.heap.size]? = some ce ∧ ∃ msg, Bundle.OwnCell args (mm_now s T) (mm_xn i) T.heap.size msg ce) (F0 m pc lsM (st.map (mm_tr g))) := by
    have hown2 : (mm_now s T).vm.findClass Y.1.cls = some m.cls := hown
    refine W.newc (own := Y.1.cls) (C := mm_xn i) (index := ix) (n := 6) (g := F0 m pc lsM (st.map (mm_tr g))) hx hb hown2 (htb _ w1) (htb _ w2) (htb _ w3) rfl hd0 (by show 0 + 1 ≤ rm.cells - k; omega) (by show 0 + 6 ≤ rm.slots - j; omega) (fun cC kC h1 h2 h3 h4 => ?_)
    refine lv_dup hx hb hd3 rfl ?_
    refine va_ldcS hx hb hown2 hR hd4 ?_
    intro T2 hT2 X2
    obtain ⟨U, u1, u2, u3, u4, u5, ce, u6, u7⟩ := X2.ctorThrowS hx htr (own := Y.1.cls) (cls := mm_xn i) (names := ["java/lang/RuntimeException", "java/lang/Exception"]) (ic := ic) hown2 (mm_fit i) (by decide) hatoms (fun x hx => by cases hx) h1 h2 (a := T.heap.size) (by rw [hT2]; exact Array.getElem?_push_size) (Nat.le_refl _) (msg := .ref _) rfl
      (g := F0 m (pc + 3 + 1 + 2) lsM (.ref _ :: .ref T.heap.size :: .ref T.heap.size :: st.map (mm_tr g))) rfl (by rw [hml]; exact hL.1) rfl rfl (rest := st.map (mm_tr g)) rfl (by rw [hb]; exact hd6) (by rw [hb]; exact hd9) (hout _) hroom.1 (by
        rw [List.map_cons, List.sum_cons, mm_cat_sum]
        show 2 * 0 + (1 + (st.map fun v => v.category).sum) + (13 * (2 + 1) + 42) ≤ rm.locals
        have := hroom.2
        omega) hlk
    exact ⟨U, u1, u2, u3, u4, u5, ce, u6, _, u7⟩
  obtain ⟨U, u1, u2, u3, u4, u5, ce, u6, msg, u7⟩ := hw T rfl X
  obtain ⟨v1, v2, v3, v4, v5, v6⟩ := u5
  have hlt : T.heap.size < U.heap.size := (Array.getElem?_eq_some_iff.mp u6).1
  have hz : U.heap.size = H.size + 1 := by
    have : U.heap.size ≤ T.heap.size + 1 := v3
    rw [← hT]
    omega
  have ho : ∀ q : Nat, q < H.size → U.heap[q]? = H[q]? := by
    intro q hq
    obtain ⟨cq, h9⟩ : ∃ cq, T.heap[q]? = some cq := ⟨_, Array.getElem?_eq_getElem (by rw [hT]; exact hq)⟩
    obtain ⟨c', e1, e2, e3, e4⟩ := v6 q _ h9
    have e1 : U.heap[q]? = some c' := e1
    have e5 : c'.slots = cq.slots := Array.ext_getElem? (fun i => e4 i (by simp))
    rw [e1, ← hT, h9, e2, e5]
  have hB : (T.setVm s.vm).sameButNew ({ U with vm := s.vm } : State) [] 1 6 := by
    refine ⟨?_, v2, v3, v4, v5, v6⟩
    have h8 := X0.same.1
    rw [h8]
    have h7 : ∀ (F0 F : List Frame) (h1 h2 : Heap) (a1 a2 : Nat), ({ ({ s.setFrames F0 with heap := h1, slotsUsed := a1 } : State).setFrames F with heap := h2, slotsUsed := a2 } : State) = { s.setFrames F with heap := h2, slotsUsed := a2 } := by
      intro F0 F h1 h2 a1 a2
      show ({ (s.setFrames F0).setFrames F with heap := h2, slotsUsed := a2 } : State) = _
      rw [State.setFrames_setFrames]
    exact v1.trans (h7 _ _ _ _ _ _).symm
  have hsame := (X0.same.trans hB).mono (show k + 1 ≤ rm.cells from hk) (show j + 6 ≤ rm.slots from hj)
  rw [List.append_nil] at hsame
  refine ⟨U, u1, .threw T.heap.size, u2, u3, (.inr i, M, n + 1), locs, hQ, hH.more hz ho, fun q hq => ?_, hS.2.2, u4, hsame, T.heap.size, rfl, ce, u6, ?_, ?_⟩
  · have hlow := mm_low hS hbs q hq
    have hb2 := hH.base
    rw [ho q (by omega), hlow]
  · rw [u7.vm]; rfl
  · have hal : s.vm.Alike U.vm := State.WarmedH.alike (s := s) u4
    rw [hal.findClass]
    exact u7.cls
end MMTH
end
section
/-! An exception that a handler of the calling method takes; its catch type may still be unresolved. -/
section MMCO
variable {E : CtlPost} {e : Env} {d : Bool} {acts : List Action} {s : State} {f : JFrame} {a : Addr} {Q : Handler → Pre}
theorem mm_go_cold {x : ExceptionTableEntry} {t : List ExceptionTableEntry} {c : ClassId} {vm₁ : Vm} {cell : Cell} (hx : covers x f.pc = true) (h0 : x.catchType ≠ 0) (hg : (Jvm.resolveClass f.method.cls x.catchType).Gives e.toSetting s.vm (.ok c) vm₁) (hsz : vm₁.classes.size ≤ s.vm.classes.size)
    (hcell : s.heap[a]? = some cell) (hobj : ∀ k, cell.vm ≠ .statics k) (hk : ∃ k, vm₁.classes[cell.cls]? = some k) (hc : ∃ k, vm₁.classes[c]? = some k) :
    wp (findHandler.go f a (x :: t)) Q E e d acts s ↔ if vm₁.assignable cell.cls c = true then Q (.found x.handlerPc) d acts (s.setVm vm₁) else wp (findHandler.go f a t) Q E e d acts (s.setVm vm₁) := by
  simp only [covers] at hx
  obtain ⟨ha, ht⟩ := hg.op (op := VmOp.resolveClass f.method.cls x.catchType) rfl
  cases hfit : vm₁.assignable cell.cls c <;>
    simp [findHandler.go, hx, h0, ha, ht, hsz, hcell, hobj, hk, hc, hfit, VmOp.dirties, VmOp.acts]
end MMCO
def mm_pick : List ((Nat × Nat × Nat × Nat) × Nat) → Nat → Nat → Option Nat
  | [], _, _ => none
  | z :: L, pc, i => if (decide (z.1.1 ≤ pc) && decide (pc < z.1.2.1) && (z.2 == i)) = true then some z.1.2.2.1 else mm_pick L pc i
theorem mm_find {e : Env} {s : State} {args : Array Value} {f : JFrame} {x : Addr} {cell : Cell} {own : String} {i : Nat} (hpl : e.platform.magicAccessors = ({} : Platform).magicAccessors) (hown : s.vm.findClass own = some f.method.cls) (hcls : s.vm.findClass (mm_xn i) = some cell.cls) (hobj : cell.vm.isStatics = false)
    (hi : i < 4) (hnc : ∀ a b : Nat, a < 4 → b < 4 → a ≠ b → va_Nc (mm_xn a) (mm_xn b) s) (hts : ∀ w ∈ mm_tb, w.before args s = true) :
    ∀ (L : List ((Nat × Nat × Nat × Nat) × Nat)) (tbl : List ExceptionTableEntry) (hp : Nat), tbl.map (fun h => (h.startPc, h.endPc, h.handlerPc, h.catchType)) = L.map Prod.fst → (∀ z ∈ L, Cond.classLink own z.1.2.2.2 (mm_xn z.2) ∈ mm_tb ∧ z.1.2.2.2 ≠ 0 ∧ z.2 < 4) → mm_pick L f.pc i = some hp →
      ∀ U : State, s.WarmedH U.vm → U.heap[x]? = some cell → ∃ vm1 : Vm, s.WarmedH vm1 ∧ ∀ (Q : Handler → Pre) (E : CtlPost) (d : Bool) (acts : List Action), wp (findHandler.go f x tbl) Q E e d acts U ↔ Q (.found hp) d acts (U.setVm vm1) := by
  intro L
  induction L with
  | nil => intro tbl hp _ _ h; cases h
  | cons z L ih =>
    intro tbl hp hmap hok hpick U hW hx
    cases tbl with
    | nil => simp at hmap
    | cons h t =>
      simp only [List.map_cons, List.cons.injEq] at hmap
      obtain ⟨hz, hmap⟩ := hmap
      have z1 : z.1.1 = h.startPc := by rw [← hz]
      have z2 : z.1.2.1 = h.endPc := by rw [← hz]
      have z3 : z.1.2.2.1 = h.handlerPc := by rw [← hz]
      have z4 : z.1.2.2.2 = h.catchType := by rw [← hz]
      obtain ⟨o1, o2, o3⟩ := hok z List.mem_cons_self
      have hok' : ∀ y ∈ L, Cond.classLink own y.1.2.2.2 (mm_xn y.2) ∈ mm_tb ∧ y.1.2.2.2 ≠ 0 ∧ y.2 < 4 := fun y hy => hok y (List.mem_cons_of_mem _ hy)
      by_cases hcov : covers h f.pc = true
      · have hcov' : (decide (z.1.1 ≤ f.pc) && decide (f.pc < z.1.2.1)) = true := by rw [z1, z2]; exact hcov
        rw [z4] at o1 o2
        obtain ⟨cc, hfcc, hcl⟩ := Cond.classLink_spec hown (hts _ o1) e.platform hpl
        obtain ⟨hg₁, hwarm₁, -⟩ := State.classEntry (e := e) hW hcl
        generalize U.vm.noted f.method.cls h.catchType (.cls cc) = vm₁ at hg₁ hwarm₁
        have hsz : vm₁.classes.size ≤ U.vm.classes.size := by rw [hwarm₁.2.1, hW.2.1]; exact Nat.le_refl _
        have hk1 : ∃ k, vm₁.classes[cell.cls]? = some k := Vm.classAt_of_findClass (by rw [hwarm₁.alike.findClass]; exact hcls)
        have hc1 : ∃ k, vm₁.classes[cc]? = some k := Vm.classAt_of_findClass (by rw [hwarm₁.alike.findClass]; exact hfcc)
        by_cases hzi : z.2 = i
        · have hcc : cc = cell.cls := by rw [hzi] at hfcc; exact Option.some.inj (hfcc.symm.trans hcls)
          subst hcc
          simp only [mm_pick, hcov', hzi, Bool.true_and, beq_self_eq_true, if_true] at hpick
          refine ⟨vm₁, hwarm₁, fun Q E d acts => ?_⟩
          rw [mm_go_cold hcov o2 hg₁ hsz hx (VmData.ne_statics_of hobj) hk1 hc1, if_pos (va_asg _ _), ← z3, Option.some.inj hpick]
        · have hzi' : (z.2 == i) = false := by simpa using hzi
          simp only [mm_pick, hzi', Bool.and_false, Bool.false_eq_true, if_false] at hpick
          have hno : vm₁.assignable cell.cls cc = false := by
            obtain ⟨c1, t1, g1, g2, g3⟩ := hnc i z.2 hi o3 (fun q => hzi q.symm)
            cases hcls.symm.trans g1
            cases hfcc.symm.trans g2
            rw [hwarm₁.alike.assignable]
            exact g3
          obtain ⟨vm2, hw2, hf2⟩ := ih t hp hmap hok' hpick (U.setVm vm₁) hwarm₁ hx
          refine ⟨vm2, hw2, fun Q E d acts => ?_⟩
          rw [mm_go_cold hcov o2 hg₁ hsz hx (VmData.ne_statics_of hobj) hk1 hc1, if_neg (by rw [hno]; decide)]
          exact hf2 Q E d acts
      · have hcov : covers h f.pc = false := by simpa using hcov
        have hcov' : (decide (z.1.1 ≤ f.pc) && decide (f.pc < z.1.2.1)) = false := by rw [z1, z2]; exact hcov
        simp only [mm_pick, hcov', Bool.false_and, Bool.false_eq_true, if_false] at hpick
        obtain ⟨vm2, hw2, hf2⟩ := ih t hp hmap hok' hpick U hW hx
        refine ⟨vm2, hw2, fun Q E d acts => ?_⟩
        rw [W.findHandler_go_skip hcov]
        exact hf2 Q E d acts
theorem mm_catchStep {e : Env} {s s' : State} {a : Addr} {f : JFrame} {r : List Frame} {pc : Nat} (hfind : ∀ (Q : Handler → Pre) (E : CtlPost) (d : Bool) (acts : List Action), wp (findHandler f a) Q E e d acts s ↔ Q (.found pc) d acts s') :
    (stepThrowing e s a (.java f :: r)).Is (s'.setFrames (.java { f with pc := pc, stack := [.ref a] } :: r)) [] := by
  simp only [stepThrowing, searchFrame, vmDo]
  generalize hr : Sem.go _ e false [] s = res
  obtain ⟨as, rfl, ha⟩ := Sem.eq_ok_of hr (a := Handler.found pc) (s' := s') (acts' := []) (by simp [hfind _ _ _ _])
  exact ⟨rfl, ha⟩
theorem mm_caughtSteps {tb : Tables} {e : Env} {s target : State} {fr : JFrame} {c : Code} {below : List Frame} {a : Addr} {pc : Nat} {vm1 : Vm} (h : At s fr.method c below) (hfind : ∀ (Q : Handler → Pre) (E : CtlPost) (d : Bool) (acts : List Action), wp (findHandler fr a) Q E e d acts ((s.setTop fr).pushFrame (.throwing a)) ↔ Q (.found pc) d acts (((s.setTop fr).pushFrame (.throwing a)).setVm vm1))
    (hrest : Steps tb e below ((s.setVm vm1).setTop { fr with pc := pc, stack := [.ref a] }) target) : Steps tb e below ((s.setTop fr).pushFrame (.throwing a)) target := by
  obtain ⟨hgo, hw⟩ := h.throwing a
  refine Steps.head hgo hw ?_
  rw [stepThread_throwing (frames_entered h.top _), (mm_catchStep (s := (s.setTop fr).pushFrame (.throwing a)) hfind).1]
  obtain ⟨g₀, hg⟩ := Option.isSome_iff_exists.mp h.top
  obtain ⟨r, hr⟩ := State.topJava?_eq_some.mp hg
  have hr1 : (s.setVm vm1).frames = .java g₀ :: r := hr
  rw [State.setTop_of_frames _ hr1] at hrest
  have e1 : (((s.setTop fr).pushFrame (.throwing a)).setVm vm1) = ((s.setVm vm1).setFrames (.throwing a :: .java fr :: r)) := by
    rw [State.pushFrame, State.setTop_of_frames _ hr, State.setFrames_setFrames]
    have e2 : (s.setFrames (.java fr :: r)).frames = .java fr :: r := State.frames_setFrames _ (State.cur_lt_of_frames hr)
    rw [e2]
    rfl
  rw [e1, State.setFrames_setFrames]
  have e3 : s.frames.tail = r := by rw [hr]; rfl
  rw [e3]
  exact hrest
section MMCT
variable {g : mm_G} {l : Launch} {Y : mm_Y} {rm : Room} {Q : mm_O → Prop} {pc : Nat} {ls : List (Option Value)} {st : List Value} {M : mm_M} {n k j : Nat}
/-- caught: the handler's first instruction stores the exception, of which nobody asks more; nothing is asked of the locals behind it -/
theorem mm_catch {i hp : Nat} {q : Fin 4} (L : List ((Nat × Nat × Nat × Nat) × Nat)) (hY : Cond.codeWith Y.1 Y.2.1 Y.2.2.1 Y.2.2.2 (L.map Prod.fst) ∈ mm_tb) (hL : ∀ z ∈ L, Cond.classLink Y.1.cls z.1.2.2.2 (mm_xn z.2) ∈ mm_tb ∧ z.1.2.2.2 ≠ 0 ∧ z.2 < 4) (hi : i < 4) (hpk : mm_pick L pc i = some hp) (hd : decode Y.2.1 hp = .ok (.astore_n q, 1)) (hq : (q : Nat) < Y.2.2.1)
    (kk : mm_Ev g l Y rm Q (hp + 1) [] [] M n k j) : mm_Tv g l Y rm Q pc ls st M n k j i := by
  intro p e s m args below meth c H locs lsM x hC hH hS hLs hX T hT X
  obtain ⟨hx, hb, hml, -, hown, hts, hlk, hnm, hI, hbs⟩ := id hC
  obtain ⟨t0, ht0, hW0, cell, hce, hob, hcl⟩ := hX
  have hcell : T.heap[x]? = some cell := by rw [hT, ← ht0]; exact hce
  have hcl0 : s.vm.findClass (mm_xn i) = some cell.cls := by rw [← hW0.alike.findClass]; exact hcl
  obtain ⟨m9, meth9, c9, hn9, h1, h2, -, -, h5, -, -, -⟩ := Cond.codeWith_spec (hts _ hY)
  cases hnm.2.symm.trans hn9
  cases X.method.symm.trans h1
  cases X.code.symm.trans h2
  have hpl : e.platform.magicAccessors = ({} : Platform).magicAccessors := by rw [X.admits.platform]
  have hAt : At T (F0 m pc lsM (st.map (mm_tr g))).method c below := X.here
  obtain ⟨vm1, hw1, hf1⟩ := mm_find (e := e) (f := F0 m pc lsM (st.map (mm_tr g))) (x := x) hpl hown hcl0 hob hi hI.2.2.1.2.2.2 hts L c.exceptionTable.toList hp h5 hL hpk ((T.setTop (F0 m pc lsM (st.map (mm_tr g)))).pushFrame (.throwing x)) X.warmed hcell
  have X1 := X.noted hw1
  have hw : W p l e rm s m args below meth c H locs k j (mm_Fin g rm.cells rm.slots below s Q) (F0 m hp lsM [.ref x]) := by
    refine lv_astore_n hx hb hd rfl hLs.has hq rfl (fun ls2 h9 => ?_)
    exact kk p e s m args below meth c H locs ls2 hC hH hS ⟨h9.1, h9.2.1, fun i v hv => by cases hv⟩
  obtain ⟨t, a1, b1⟩ := hw (T.setVm vm1) hT X1
  refine ⟨t, mm_caughtSteps hAt (fun Q E d acts => ?_) a1, b1⟩
  rw [W.findHandler_eq (meth := meth) (code := c) X.method' X.code]
  exact hf1 Q E d acts
end MMCT
/-- a method with handlers -/
def mm_MetH (g : mm_G) (l : Launch) (Y : mm_Y) (hh : List (Nat × Nat × Nat × Nat)) (rm : Room) (as : List Value) (M : mm_M) (n : Nat) (Q : mm_O → Prop) : Prop :=
  MetFree l Y.1 (headSpec (Cond.codeWith Y.1 Y.2.1 Y.2.2.1 Y.2.2.2 hh :: mm_tb) rm) (fun a U => a = (as.map (mm_tr g)).toArray ∧ mm_I g U U.heap ∧ mm_H g M n U.heap) (fun _ _ _ _ _ => True) (fun _ st o t => mm_Po g rm.cells rm.slots st Q o t)
theorem mm_enterH {g : mm_G} {l : Launch} {Y : mm_Y} {hh : List (Nat × Nat × Nat × Nat)} {rm : Room} {as : List Value} {M : mm_M} {n : Nat} {Q : mm_O → Prop} (hy : plainName Y.1.cls = true) (hfit : (lg_sl (as.map (mm_tr g))).length ≤ Y.2.2.1) (h : mm_Ev g l Y rm Q 0 (mm_ent as) [] M n 0 0) : mm_MetH g l Y hh rm as M n Q := by
  refine MetFree.of_bodyS (code := Y.2.1) (maxLocals := Y.2.2.1) (ret := Y.2.2.2) hy ?_ ?_
  · intro args s m h hn
    obtain ⟨m9, meth, c, hn9, h1, h2, h3, h4, -, h5, h6, -⟩ := Cond.codeWith_spec (atoms_spec (ws := Cond.codeWith Y.1 Y.2.1 Y.2.2.1 Y.2.2.2 hh :: mm_tb) h _ List.mem_cons_self)
    cases hn.symm.trans hn9
    exact ⟨meth, c, h1, h2, h3, h4, h5, h6⟩
  · intro p e s m args below meth c s₁ B hml hP _
    obtain ⟨rfl, hI, hH⟩ := hP
    have hh0 : s₁.heap = s.heap := by rw [B.state]; rfl
    have hts0 := atoms_spec (ws := Cond.codeWith Y.1 Y.2.1 Y.2.2.1 Y.2.2.2 hh :: mm_tb) B.pre
    have hC : mm_Cx g Y p s m (as.map (mm_tr g)).toArray meth c := ⟨B.exec, B.bytes, hml, B.returns, findClass_of_methodNamed B.named, fun w hw => hts0 w (List.mem_cons_of_mem _ hw), B.notSynchronized, ⟨(name_of_methodNamed B.named B.method).1, B.named⟩, hI, hH.base⟩
    have hl := lv_entry (as.map (mm_tr g)) (n := Y.2.2.1) hfit
    have hL : mm_L g Y.2.2.1 (mm_ent as) ((lg_sl (as.map (mm_tr g)) ++ List.replicate (Y.2.2.1 - (lg_sl (as.map (mm_tr g))).length) Slot.unset).toArray) := by
      refine ⟨hl.1, hl.2.1, fun i v hv => ?_⟩
      have h9 := mm_ent_in (g := g) as 0 i v hv
      rw [Nat.zero_add] at h9
      exact hl.2.2 _ h9
    obtain ⟨t, a1, o, b1, b2, b3⟩ := h p e s m _ below meth c s.heap [] _ hC hH va_S.rf hL s₁ hh0 (Stand.of_body B)
    refine ⟨t, o, ?_, b1, b2, b3⟩
    rw [lg_entry_eq]
    exact a1
section MMCH
variable {g : mm_G} {l : Launch} {Y : mm_Y} {rm : Room} {Q : mm_O → Prop} {pc : Nat} {ls : List (Option Value)} {st : List Value} {M : mm_M} {n k j : Nat}
def mm_Hl (own : String) (index np : Nat) (hh : List (Nat × Nat × Nat × Nat)) (Z : mm_Y) : Prop := Cond.codeWith Z.1 Z.2.1 Z.2.2.1 Z.2.2.2 hh ∈ mm_tb ∧ Cond.initialized Z.1.cls ∈ mm_tb ∧ (Z.1.cls ≠ "java/lang/invoke/MethodHandle" ∧ Z.1.cls ≠ "java/lang/invoke/VarHandle") ∧ (parseMethodDescriptor Z.1.desc).map (fun d => d.parameters.length) = some np ∧ Cond.methodLink own index Z.1 ∈ mm_tb ∧ Cond.static Z.1 ∈ mm_tb
theorem mm_callH {Z : mm_Y} {hh : List (Nat × Nat × Nat × Nat)} {rz : Room} {Qz : mm_O → Prop} {index np : Nat} {as : List Value} (hd : decode Y.2.1 pc = .ok (.invokestatic index, 3)) (hZ : mm_Hl Y.1.cls index np hh Z) (hM : mm_MetH g l Z hh rz as M n Qz) (hlen : as.length = np)
    (hroom : rz.frames + 1 ≤ rm.frames ∧ (st.map fun v => v.category).sum + (Z.2.2.1 + 11) + rz.locals ≤ rm.locals) (hk : k + rz.cells ≤ rm.cells) (hj : j + rz.slots ≤ rm.slots)
    (kr : ∀ (v : Option Value) (M1 : mm_M) (n1 : Nat), Qz (.inl v, M1, n1) → mm_Ev g l Y rm Q (pc + 3) ls (v.toList ++ st) M1 n1 (k + rz.cells) (j + rz.slots))
    (kt : ∀ (i : Nat) (M1 : mm_M) (n1 : Nat), Qz (.inr i, M1, n1) → mm_Tv g l Y rm Q pc ls st M1 n1 (k + rz.cells) (j + rz.slots) i) : mm_Ev g l Y rm Q pc ls (as.reverse ++ st) M n k j := by
  intro p e s m args below meth c H locs lsM hC hH hS hL
  obtain ⟨hx, hb, hml, -, hown, hts, -, -, hI, hbs⟩ := id hC
  obtain ⟨w0, wi, hy, hpar, w1, w2⟩ := hZ
  have hst : (as.reverse ++ st).map (mm_tr g) = (as.map (mm_tr g)).reverse ++ st.map (mm_tr g) := by
    rw [List.map_append, List.map_reverse]
  rw [hst]
  obtain ⟨mk0, methM', cM, hnamed0, hmethM', -, -, -, -, -, -, hsigM⟩ := Cond.codeWith_spec (hts _ w0)
  have hlen2 : np = methM'.sig.parameters.length := by
    rw [hsigM] at hpar
    exact (Option.some.inj hpar).symm
  have hLk := mm_lkS (l := l) (e := e) (R := rm) (below := below) (meth := meth) (H := H) (locs := locs) (cells := k) (slots := j) hx hown (hts _ w1) (hts _ w2) (hts _ wi) hnamed0 hmethM' (sig0 := methM'.sig) rfl hy (fr := F0 m pc lsM ((as.map (mm_tr g)).reverse ++ st.map (mm_tr g))) rfl (argsL := as.map (mm_tr g)) (rest := st.map (mm_tr g)) (by rw [List.length_map, hlen]; exact hlen2) rfl (by rw [hb]; exact hd)
  refine mm_callAny (S := headSpec (Cond.codeWith Z.1 Z.2.1 Z.2.2.1 Z.2.2.2 hh :: mm_tb) rz) (maxL := Z.2.2.1) (Wd := (st.map fun v => v.category).sum) hLk hM rfl (by rw [hml]; exact hL.1) hroom.1 hroom.2 (by rw [mm_cat_sum]; show 2 * 0 + _ ≤ _; omega) (by rw [hb]; exact hd)
    (fun U mk hW hn => ?_) hk hj (fun U hW hU => ⟨rfl, (hI.moved hW).kept (by rw [hU]; exact hS.2.1), by rw [hU]; exact hH⟩) hS hbs
    (fun v M1 n1 H1 locs1 hQz hH1 hS1 => ?_) (fun i x M1 n1 H1 locs1 hQz hH1 hS1 hX => ?_)
  · have h := mm_tb_good hts hW (as.map (mm_tr g)).toArray
    obtain ⟨m9, methY, cY, hn9, h1, h2, -, h4, -⟩ := Cond.codeWith_spec (h _ w0)
    cases hn.symm.trans hn9
    refine ⟨atoms_intro (ws := Cond.codeWith Z.1 Z.2.1 Z.2.2.1 Z.2.2.2 hh :: mm_tb) (fun w hw => ?_), h _ wi, methY, cY, h1, h2, h4⟩
    rcases List.mem_cons.mp hw with rfl | hw
    · exact h _ w0
    · exact h _ hw
  · have h9 := kr v M1 n1 hQz p e s m args below meth c H1 locs1 lsM hC hH1 hS1 hL
    rw [List.map_append] at h9
    cases v <;> exact h9
  · exact kt i M1 n1 hQz p e s m args below meth c H1 locs1 lsM x hC hH1 hS1 hL hX
end MMCH
end
section
/-! The other rows: constants, switches, new arrays, the library's members. -/
theorem mm_ldcwS {p : Program} {l : Launch} {e : Env} {R : Room} {s : State} {m : MethodId} {args : Array Value} {below : List Frame} {meth : Method} {c : Code} {H : Heap} {locs : List Loc} {cells slots : Nat} {Q : State → Prop} {cc : ByteArray} {pc : Nat} {ls : Array Slot} {rest : List Value} (hexec : p.tables.exec = Jvm.exec) (hb : c.code = cc) {own tx : String} {index q : Nat} (hown : s.vm.findClass own = some m.cls) (hZ : vk_R own index tx q s) (hdg : decode cc pc = .ok (.ldc_w index, 3))
    (k : W p l e R s m args below meth c H locs cells slots Q (F0 m (pc + 3) ls (.ref q :: rest))) : W p l e R s m args below meth c H locs cells slots Q (F0 m pc ls rest) := by
  intro T hT X
  obtain ⟨t, a1, b1⟩ := k T hT X
  refine ⟨t, ?_, b1⟩
  obtain ⟨kk, cf, i, a', hk, hcf, hcp, -, hr, hev'⟩ := Cond.stringRef_spec hown hZ.1
  cases hZ.2.symm.trans hev'
  obtain ⟨k', hk', he⟩ := X.warmed.alike.2.2 _ _ hk
  have hr' : k'.resolved[index]? = some (some (.string q)) := by
    rcases X.warmed.entry hk hk' index with h | ⟨h, -⟩
    · rw [h]; exact hr
    · rw [hr] at h; cases h
  subst hb
  jvm_step X.here [hexec, hdg, ldc_w.wp_string (e := e) (s := T) (f := F0 m pc ls rest) X.here.top hk' (by rw [he]; exact hcf) hcp hr']
  exact a1
section MMOT
variable {g : mm_G} {l : Launch} {Y : mm_Y} {rm : Room} {Q : mm_O → Prop} {pc : Nat} {ls : List (Option Value)} {st : List Value} {M : mm_M} {n k j : Nat}
theorem mm_ldc {index : Nat} {v : Int32} (hd : decode Y.2.1 pc = .ok (.ldc index, 2)) (hw : Cond.constant Y.1.cls index v ∈ mm_tb) (kk : mm_Ev g l Y rm Q (pc + 2) ls (.int v :: st) M n k j) : mm_Ev g l Y rm Q pc ls st M n k j := by
  intro p e s m args below meth c H locs lsM hC hH hS hL
  exact lv_ldc hC.1 hC.2.1 hC.2.2.2.2.1 (hC.2.2.2.2.2.1 _ hw) hd (kk p e s m args below meth c H locs lsM hC hH hS hL)
theorem mm_ldc2 {index : Nat} {v : Int64} (hd : decode Y.2.1 pc = .ok (.ldc2_w index, 3)) (hw : Cond.constantLong Y.1.cls index v ∈ mm_tb) (kk : mm_Ev g l Y rm Q (pc + 3) ls (.long v :: st) M n k j) : mm_Ev g l Y rm Q pc ls st M n k j := by
  intro p e s m args below meth c H locs lsM hC hH hS hL
  exact lv_ldc2 hC.1 hC.2.1 hC.2.2.2.2.1 (hC.2.2.2.2.2.1 _ hw) hd (kk p e s m args below meth c H locs lsM hC hH hS hL)
theorem mm_ldcs {index t : Nat} (hd : decode Y.2.1 pc = .ok (.ldc index, 2)) (hw : (Y.1.cls, index, t) ∈ mm_strs) (ht : t < 900) (kk : mm_Ev g l Y rm Q (pc + 2) ls (.ref (100 + t) :: st) M n k j) : mm_Ev g l Y rm Q pc ls st M n k j := by
  intro p e s m args below meth c H locs lsM hC hH hS hL
  have h9 := kk p e s m args below meth c H locs lsM hC hH hS hL
  have e9 : mm_tr g (.ref (100 + t)) = .ref (g.2.2.2 (100 + t)) := by show Value.ref (mm_ad g _) = _; unfold mm_ad; rw [if_pos (by omega)]
  rw [List.map_cons, e9] at h9
  exact va_ldcS hC.1 hC.2.1 hC.2.2.2.2.1 (hC.2.2.2.2.2.2.2.2.1.2.2.2.1 _ hw) hd h9
theorem mm_objInit {a index : Nat} (hd : decode Y.2.1 pc = .ok (.invokespecial index, 3)) (hw : Cond.methodLink Y.1.cls index Lib.objectInit ∈ mm_tb ∧ Cond.instanceMethod Lib.objectInit ∈ mm_tb ∧ Cond.code Lib.objectInit ⟨#[0xb1]⟩ 1 none ∈ mm_tb) (hroom : 1 ≤ rm.frames ∧ (st.map fun v => v.category).sum + 12 ≤ rm.locals) (kk : mm_Ev g l Y rm Q (pc + 3) ls st M n k j) : mm_Ev g l Y rm Q pc ls (.ref a :: st) M n k j := by
  intro p e s m args below meth c H locs lsM hC hH hS hL
  exact W.objInit hC.1 hC.2.1 hC.2.2.2.2.1 (hC.2.2.2.2.2.1 _ hw.1) (hC.2.2.2.2.2.1 _ hw.2.1) (hC.2.2.2.2.2.1 _ hw.2.2) (g := F0 m pc lsM (.ref (mm_ad g a) :: st.map (mm_tr g))) rfl (by rw [hC.2.2.1]; exact hL.1) rfl hd hroom.1 (by rw [mm_cat_sum]; show 2 * 0 + _ + 12 ≤ _; have := hroom.2; omega) (kk p e s m args below meth c H locs lsM hC hH hS hL)
theorem mm_tableIn {dflt lo hi off : Int} {offs : Array Int} {len tgt : Nat} {x : Int32} (hd : decode Y.2.1 pc = .ok (.tableswitch dflt lo hi offs, len)) (h1 : ¬ x.toInt < lo) (h2 : ¬ hi < x.toInt) (ho : offs[(x.toInt - lo).toNat]? = some off) (ht : (pc : Int) + off = (tgt : Int)) (kk : mm_Ev g l Y rm Q tgt ls st M n k j) : mm_Ev g l Y rm Q pc ls (.int x :: st) M n k j := by
  intro p e s m args below meth c H locs lsM hC hH hS hL
  exact lv_tableIn hC.1 hC.2.1 hd h1 h2 ho ht (kk p e s m args below meth c H locs lsM hC hH hS hL)
theorem mm_tableOut {dflt lo hi : Int} {offs : Array Int} {len tgt : Nat} {x : Int32} (hd : decode Y.2.1 pc = .ok (.tableswitch dflt lo hi offs, len)) (h : x.toInt < lo ∨ hi < x.toInt) (ht : (pc : Int) + dflt = (tgt : Int)) (kk : mm_Ev g l Y rm Q tgt ls st M n k j) : mm_Ev g l Y rm Q pc ls (.int x :: st) M n k j := by
  intro p e s m args below meth c H locs lsM hC hH hS hL
  exact lv_tableOut hC.1 hC.2.1 hd h ht (kk p e s m args below meth c H locs lsM hC hH hS hL)
theorem mm_lookup {dflt off : Int} {ps : Array (Int × Int)} {len tgt : Nat} {x : Int32} (hd : decode Y.2.1 pc = .ok (.lookupswitch dflt ps, len)) (hp : (ps.toList.zip (ps.toList.drop 1)).all (fun (a, next) => a.1 < next.1) = true) (ho : Op.lookupswitch.offset ps.toList dflt x.toInt = off) (ht : (pc : Int) + off = (tgt : Int)) (kk : mm_Ev g l Y rm Q tgt ls st M n k j) : mm_Ev g l Y rm Q pc ls (.int x :: st) M n k j := by
  intro p e s m args below meth c H locs lsM hC hH hS hL
  exact lv_lookup hC.1 hC.2.1 hd hp ho ht (kk p e s m args below meth c H locs lsM hC hH hS hL)
theorem mm_newa {atype : ArrayType} {t N : Nat} {z : Int32} {a0 : vp_A} (hd : decode Y.2.1 pc = .ok (.newarray atype, 2)) (ht : mm_ty[t]? = some (newarray.typeOf atype)) (hw : Cond.arrayClass (newarray.typeOf atype) ∈ mm_tb) (hn : ¬ z < 0) (hN : z.toNatClampNeg = N) (hbytes : N * componentBytes (newarray.typeOf atype) ≤ 536870912) (ha : ∀ cA : ClassId, vp_cell cA a0 = arrV cA N (fun _ => defaultValue (newarray.typeOf atype))) (htr : ∀ g : mm_G, mm_trA g a0 = a0) (hnq : ∀ C : String, newarray.typeOf atype ≠ .object C) (hcells : k + 1 ≤ rm.cells) (hslots : j + N ≤ rm.slots)
    (kk : ∀ M1 : mm_M, M1 = mm_up M n (.inl (t, a0)) → mm_Ev g l Y rm Q (pc + 2) ls (.ref n :: st) M1 (n + 1) (k + 1) (j + N)) : mm_Ev g l Y rm Q pc ls (.int z :: st) M n k j := by
  intro p e s m args below meth c H locs lsM hC hH hS hL
  obtain ⟨hx, hb, -, -, hown, hts, -, -, hI, hbs⟩ := id hC
  refine va_newaK hx hb (hts _ hw) (g := F0 m pc lsM (.int z :: st.map (mm_tr g))) rfl hd rfl hn hN hbytes hcells hslots rfl fun H1 cA e1 z1 o1 hAr hNm => ?_
  have hend := hH.end
  have hcA : g.2.1 t = cA := by
    have h9 := (hI.1.2 t _ (mm_tys_at ht)).2
    have h8 : s.vm.findClass ("[" ++ (newarray.typeOf atype).toString) = some (g.2.1 t) := by
      cases atype <;> exact h9
    exact Option.some.inj (h8.symm.trans hNm)
  have h9 := kk _ rfl p e s m args below meth c H1 locs lsM hC (hH.push z1 o1 (by
    rw [hend]
    show H1[H.size]? = some (vp_cell (g.2.1 t) (mm_trA g a0))
    rw [htr g, hcA, ha]
    exact e1)) ⟨Nat.le_trans hS.1 (by omega), fun q h1 h2 => (o1 q (Nat.lt_of_lt_of_le h1 hS.1)).trans (hS.2.1 q h1 h2), hS.2.2⟩ hL
  have e9 : mm_tr g (.ref n) = .ref H.size := by show Value.ref (mm_ad g n) = _; rw [hend]
  rw [List.map_cons, e9] at h9
  exact h9
theorem mm_mmax {index : Nat} {x y : Int32} (hd : decode Y.2.1 pc = .ok (.invokestatic index, 3)) (hw : Cond.methodLink Y.1.cls index Lib.Math.max.name ∈ mm_tb ∧ Cond.static Lib.Math.max.name ∈ mm_tb ∧ Cond.initialized "java/lang/Math" ∈ mm_tb ∧ Cond.code Lib.Math.max.name Lib.Math.max.code 2 (some .int) ∈ mm_tb) (hroom : 1 ≤ rm.frames ∧ (st.map fun v => v.category).sum + 13 ≤ rm.locals) (hk : k ≤ rm.cells) (hj : j ≤ rm.slots) (kk : mm_Ev g l Y rm Q (pc + 3) ls (.int (if x < y then y else x) :: st) M n k j) : mm_Ev g l Y rm Q pc ls (.int y :: .int x :: st) M n k j := by
  intro p e s m args below meth c H locs lsM hC hH hS hL
  exact va_mmax hC.1 hC.2.1 (hC.2.2.1.trans hL.1.symm) hC.2.2.2.2.1 (hC.2.2.2.2.2.1 _ hw.1) (hC.2.2.2.2.2.1 _ hw.2.1) (hC.2.2.2.2.2.1 _ hw.2.2.1) (hC.2.2.2.2.2.1 _ hw.2.2.2) hroom.1 (by rw [mm_cat_sum]; exact hroom.2) hk hj hd (kk p e s m args below meth c H locs lsM hC hH hS hL)
theorem mm_mmin {index : Nat} {x y : Int32} (hd : decode Y.2.1 pc = .ok (.invokestatic index, 3)) (hw : Cond.methodLink Y.1.cls index Lib.Math.min.name ∈ mm_tb ∧ Cond.static Lib.Math.min.name ∈ mm_tb ∧ Cond.initialized "java/lang/Math" ∈ mm_tb ∧ Cond.code Lib.Math.min.name Lib.Math.min.code 2 (some .int) ∈ mm_tb) (hroom : 1 ≤ rm.frames ∧ (st.map fun v => v.category).sum + 13 ≤ rm.locals) (hk : k ≤ rm.cells) (hj : j ≤ rm.slots) (kk : mm_Ev g l Y rm Q (pc + 3) ls (.int (if y < x then y else x) :: st) M n k j) : mm_Ev g l Y rm Q pc ls (.int y :: .int x :: st) M n k j := by
  intro p e s m args below meth c H locs lsM hC hH hS hL
  exact va_mmin hC.1 hC.2.1 (hC.2.2.1.trans hL.1.symm) hC.2.2.2.2.1 (hC.2.2.2.2.2.1 _ hw.1) (hC.2.2.2.2.2.1 _ hw.2.1) (hC.2.2.2.2.2.1 _ hw.2.2.1) (hC.2.2.2.2.2.1 _ hw.2.2.2) hroom.1 (by rw [mm_cat_sum]; exact hroom.2) hk hj hd (kk p e s m args below meth c H locs lsM hC hH hS hL)
theorem mm_mmaxl {index : Nat} {x y : Int64} (hd : decode Y.2.1 pc = .ok (.invokestatic index, 3)) (hw : Cond.methodLink Y.1.cls index Lib.MathLoose.max_long.x ∈ mm_tb ∧ Cond.static Lib.MathLoose.max_long.x ∈ mm_tb ∧ Cond.initialized "java/lang/Math" ∈ mm_tb ∧ Cond.code Lib.MathLoose.max_long.x Lib.MathLoose.max_long.code 4 (some .long) ∈ mm_tb) (hroom : 1 ≤ rm.frames ∧ (st.map fun v => v.category).sum + 15 ≤ rm.locals) (hk : k ≤ rm.cells) (hj : j ≤ rm.slots) (kk : mm_Ev g l Y rm Q (pc + 3) ls (.long (if y < x then x else y) :: st) M n k j) : mm_Ev g l Y rm Q pc ls (.long y :: .long x :: st) M n k j := by
  intro p e s m args below meth c H locs lsM hC hH hS hL
  exact va_mmax_long hC.1 hC.2.1 (hC.2.2.1.trans hL.1.symm) hC.2.2.2.2.1 (hC.2.2.2.2.2.1 _ hw.1) (hC.2.2.2.2.2.1 _ hw.2.1) (hC.2.2.2.2.2.1 _ hw.2.2.1) (hC.2.2.2.2.2.1 _ hw.2.2.2) hroom.1 (by rw [mm_cat_sum]; exact hroom.2) hk hj hd (kk p e s m args below meth c H locs lsM hC hH hS hL)
theorem mm_mminl {index : Nat} {x y : Int64} (hd : decode Y.2.1 pc = .ok (.invokestatic index, 3)) (hw : Cond.methodLink Y.1.cls index Lib.MathLoose.min_long.x ∈ mm_tb ∧ Cond.static Lib.MathLoose.min_long.x ∈ mm_tb ∧ Cond.initialized "java/lang/Math" ∈ mm_tb ∧ Cond.code Lib.MathLoose.min_long.x Lib.MathLoose.min_long.code 4 (some .long) ∈ mm_tb) (hroom : 1 ≤ rm.frames ∧ (st.map fun v => v.category).sum + 15 ≤ rm.locals) (hk : k ≤ rm.cells) (hj : j ≤ rm.slots) (kk : mm_Ev g l Y rm Q (pc + 3) ls (.long (if y < x then y else x) :: st) M n k j) : mm_Ev g l Y rm Q pc ls (.long y :: .long x :: st) M n k j := by
  intro p e s m args below meth c H locs lsM hC hH hS hL
  exact va_mmin_long hC.1 hC.2.1 (hC.2.2.1.trans hL.1.symm) hC.2.2.2.2.1 (hC.2.2.2.2.2.1 _ hw.1) (hC.2.2.2.2.2.1 _ hw.2.1) (hC.2.2.2.2.2.1 _ hw.2.2.1) (hC.2.2.2.2.2.1 _ hw.2.2.2) hroom.1 (by rw [mm_cat_sum]; exact hroom.2) hk hj hd (kk p e s m args below meth c H locs lsM hC hH hS hL)
end MMOT
section MMTW
variable {g : mm_G} {l : Launch} {Y : mm_Y} {rm : Room} {Q : mm_O → Prop} {pc : Nat} {ls : List (Option Value)} {st : List Value} {M : mm_M} {n k j : Nat}
set_option maxHeartbeats 1000000 in
theorem mm_throwW {ix is ic i np : Nat} (hfl : l.flags = flags0) (hd0 : decode Y.2.1 pc = .ok (.new ix, 3)) (hd3 : decode Y.2.1 (pc + 3) = .ok (.dup, 1)) (hd4 : decode Y.2.1 (pc + 3 + 1) = .ok (.ldc_w is, 3)) (hd6 : decode Y.2.1 (pc + 3 + 1 + 3) = .ok (.invokespecial ic, 3)) (hd9 : decode Y.2.1 (pc + 3 + 1 + 3 + 3) = .ok (.athrow, 1))
    (hY : mm_Yw Y np) (hXl : mm_Xl Y.1.cls ix is ic i) (hk : k + 1 ≤ rm.cells) (hj : j + 6 ≤ rm.slots) (hroom : 5 < rm.frames ∧ (st.map fun v => v.category).sum + 82 ≤ rm.locals) (hQ : Q (.inr i, M, n + 1)) : mm_Ev g l Y rm Q pc ls st M n k j := by
  intro p e s m args below meth c H locs lsM hC hH hS hL T hT X0
  obtain ⟨hx, hb, hml, -, hown, hts, hlk, hnm, hI, hbs⟩ := id hC
  obtain ⟨w1, w2, w3, ⟨tx, hstr⟩, hat⟩ := hXl
  have X := mm_restart X0 (by omega) (by omega)
  have htr : e.platform.stackTraces = false := by
    have h9 := X0.admits.platform
    rw [h9]
    simp [Launch.stackTraces, hfl, flags0, noTraceFlag]
  have hW0 : s.WarmedH (mm_now s T).vm := State.WarmedH.refl s
  have htb : ∀ w ∈ mm_tb, w.before args (mm_now s T) = true := mm_tb_good hts hW0 args
  have hI2 : mm_I g (mm_now s T) (mm_now s T).heap := (hI.moved (U := mm_now s T) hW0).kept (fun a h1 h2 => by show T.heap[a]? = _; rw [hT]; exact hS.2.1 a h1 h2)
  have hatoms : ∀ w ∈ Bundle.ownAtoms Y.1.cls ic (mm_xn i) ["java/lang/RuntimeException", "java/lang/Exception"], w.before args (mm_now s T) = true := by
    intro w hw
    rcases hat w hw with ⟨h1, h2⟩ | h1
    · exact htb w (List.mem_filter.mpr ⟨List.mem_append_right _ h2, h1⟩)
    · rcases List.mem_append.mp h1 with h1 | h1
      · have h2 := hI2.2.2.1.1 w h1
        rcases mm_nw_ok w h1 with ⟨C, T, rfl⟩ | ⟨x, rfl⟩
        · exact va_Nw.use rfl h2
        · exact va_Nw.use rfl h2
      · simp only [List.mem_cons, List.not_mem_nil, or_false] at h1
        rcases h1 with rfl | rfl | rfl | rfl
        · exact mm_isRef hI2.2.2.1.2.1
        · exact mm_isRef hI2.2.2.1.2.2.1
        · exact hI2.2.2.2.2.2.2.2.1.use
        · exact hI2.2.2.2.2.2.2.2.2.use
  have hout : ∀ pc' : Nat, ∀ y ∈ c.exceptionTable.toList, covers y pc' = false := by
    obtain ⟨meth', c', h1, h2, -, -, -, -, h3, -⟩ := Cond.code_spec hnm.2 (hts _ hY.1)
    cases X0.method.symm.trans h1
    cases X0.code.symm.trans h2
    intro pc' y hy
    rw [Array.isEmpty_iff.mp h3] at hy
    simp at hy
  have hR := hI2.2.2.2.1 _ hstr
  have hw : W p l e { frames := rm.frames, cells := rm.cells - k, slots := rm.slots - j, locals := rm.locals } (mm_now s T) m args below meth c T.heap [] 0 0 (fun U => U.status = .running ∧ Ended U below (.threw T.heap.size) ∧ (mm_now s T).WarmedH U.vm ∧ (mm_now s T).sameButNew ({ U with vm := (mm_now s T).vm } : State) [] 1 6 ∧ ∃ ce, U.heap[T.heap.size]? = some ce ∧ ∃ msg, Bundle.OwnCell args (mm_now s T) (mm_xn i) T.heap.size msg ce) (F0 m pc lsM (st.map (mm_tr g))) := by
    have hown2 : (mm_now s T).vm.findClass Y.1.cls = some m.cls := hown
    refine W.newc (own := Y.1.cls) (C := mm_xn i) (index := ix) (n := 6) (g := F0 m pc lsM (st.map (mm_tr g))) hx hb hown2 (htb _ w1) (htb _ w2) (htb _ w3) rfl hd0 (by show 0 + 1 ≤ rm.cells - k; omega) (by show 0 + 6 ≤ rm.slots - j; omega) (fun cC kC h1 h2 h3 h4 => ?_)
    refine lv_dup hx hb hd3 rfl ?_
    refine mm_ldcwS hx hb hown2 hR hd4 ?_
    intro T2 hT2 X2
    obtain ⟨U, u1, u2, u3, u4, u5, ce, u6, u7⟩ := X2.ctorThrowS hx htr (own := Y.1.cls) (cls := mm_xn i) (names := ["java/lang/RuntimeException", "java/lang/Exception"]) (ic := ic) hown2 (mm_fit i) (by decide) hatoms (fun x hx => by cases hx) h1 h2 (a := T.heap.size) (by rw [hT2]; exact Array.getElem?_push_size) (Nat.le_refl _) (msg := .ref _) rfl
      (g := F0 m (pc + 3 + 1 + 3) lsM (.ref _ :: .ref T.heap.size :: .ref T.heap.size :: st.map (mm_tr g))) rfl (by rw [hml]; exact hL.1) rfl rfl (rest := st.map (mm_tr g)) rfl (by rw [hb]; exact hd6) (by rw [hb]; exact hd9) (hout _) hroom.1 (by
        rw [List.map_cons, List.sum_cons, mm_cat_sum]
        show 2 * 0 + (1 + (st.map fun v => v.category).sum) + (13 * (2 + 1) + 42) ≤ rm.locals
        have := hroom.2
        omega) hlk
    exact ⟨U, u1, u2, u3, u4, u5, ce, u6, _, u7⟩
  obtain ⟨U, u1, u2, u3, u4, u5, ce, u6, msg, u7⟩ := hw T rfl X
  obtain ⟨v1, v2, v3, v4, v5, v6⟩ := u5
  have hlt : T.heap.size < U.heap.size := (Array.getElem?_eq_some_iff.mp u6).1
  have hz : U.heap.size = H.size + 1 := by
    have : U.heap.size ≤ T.heap.size + 1 := v3
    rw [← hT]
    omega
  have ho : ∀ q : Nat, q < H.size → U.heap[q]? = H[q]? := by
    intro q hq
    obtain ⟨cq, h9⟩ : ∃ cq, T.heap[q]? = some cq := ⟨_, Array.getElem?_eq_getElem (by rw [hT]; exact hq)⟩
    obtain ⟨c', e1, e2, e3, e4⟩ := v6 q _ h9
    have e1 : U.heap[q]? = some c' := e1
    have e5 : c'.slots = cq.slots := Array.ext_getElem? (fun i => e4 i (by simp))
    rw [e1, ← hT, h9, e2, e5]
  have hB : (T.setVm s.vm).sameButNew ({ U with vm := s.vm } : State) [] 1 6 := by
    refine ⟨?_, v2, v3, v4, v5, v6⟩
    have h8 := X0.same.1
    rw [h8]
    have h7 : ∀ (F0 F : List Frame) (h1 h2 : Heap) (a1 a2 : Nat), ({ ({ s.setFrames F0 with heap := h1, slotsUsed := a1 } : State).setFrames F with heap := h2, slotsUsed := a2 } : State) = { s.setFrames F with heap := h2, slotsUsed := a2 } := by
      intro F0 F h1 h2 a1 a2
      show ({ (s.setFrames F0).setFrames F with heap := h2, slotsUsed := a2 } : State) = _
      rw [State.setFrames_setFrames]
    exact v1.trans (h7 _ _ _ _ _ _).symm
  have hsame := (X0.same.trans hB).mono (show k + 1 ≤ rm.cells from hk) (show j + 6 ≤ rm.slots from hj)
  rw [List.append_nil] at hsame
  refine ⟨U, u1, .threw T.heap.size, u2, u3, (.inr i, M, n + 1), locs, hQ, hH.more hz ho, fun q hq => ?_, hS.2.2, u4, hsame, T.heap.size, rfl, ce, u6, ?_, ?_⟩
  · have hlow := mm_low hS hbs q hq
    have hb2 := hH.base
    rw [ho q (by omega), hlow]
  · rw [u7.vm]; rfl
  · have hal : s.vm.Alike U.vm := State.WarmedH.alike (s := s) u4
    rw [hal.findClass]
    exact u7.cls
end MMTW
end
section
/-! The reference: its one object and its arrays, as a state. By program (wip/model.py). -/
abbrev md_V : Type := Int32 ⊕ (Int64 ⊕ ((Nat → Int32) ⊕ (Nat → Int64)))
abbrev md_S : Type := Nat → md_V
def md_kd (k : Nat) : Nat := match k with
  | 2 => 2
  | 3 => 2
  | 4 => 2
  | 5 => 2
  | 6 => 2
  | 8 => 3
  | 9 => 3
  | 11 => 2
  | 12 => 2
  | 13 => 2
  | 17 => 2
  | 18 => 2
  | 20 => 2
  | 21 => 2
  | 22 => 2
  | 23 => 4
  | 24 => 2
  | 25 => 2
  | 26 => 2
  | 27 => 2
  | 29 => 3
  | 35 => 2
  | 37 => 2
  | 38 => 2
  | 39 => 2
  | 40 => 2
  | 41 => 2
  | 42 => 2
  | 43 => 2
  | 44 => 2
  | 45 => 2
  | 46 => 2
  | 47 => 2
  | 48 => 2
  | 49 => 2
  | 58 => 2
  | 59 => 2
  | 61 => 1
  | 62 => 3
  | 63 => 2
  | 64 => 1
  | 67 => 2
  | 68 => 2
  | _ => 0
def md_ln (k : Nat) : Nat := match k with
  | 2 => 4096
  | 3 => 512
  | 4 => 512
  | 5 => 256
  | 6 => 256
  | 8 => 601
  | 9 => 601
  | 11 => 12
  | 12 => 10
  | 13 => 10
  | 17 => 3
  | 18 => 4
  | 20 => 601
  | 21 => 601
  | 22 => 601
  | 23 => 601
  | 24 => 601
  | 25 => 3
  | 26 => 3
  | 27 => 1500
  | 29 => 24
  | 35 => 200
  | 37 => 11
  | 38 => 11
  | 39 => 11
  | 40 => 12
  | 41 => 10
  | 42 => 10
  | 43 => 10
  | 44 => 10
  | 45 => 10
  | 46 => 10
  | 47 => 10
  | 48 => 10
  | 49 => 10
  | 58 => 10
  | 59 => 10
  | 62 => 11
  | 63 => 8
  | 67 => 147
  | 68 => 12
  | _ => 0
def md_of (k : Nat) : Nat := match k with
  | 2 => 1
  | 3 => 2
  | 4 => 3
  | 5 => 4
  | 6 => 5
  | 8 => 6
  | 9 => 7
  | 11 => 8
  | 12 => 9
  | 13 => 10
  | 17 => 11
  | 18 => 12
  | 20 => 13
  | 21 => 14
  | 22 => 15
  | 23 => 16
  | 24 => 17
  | 25 => 18
  | 26 => 19
  | 27 => 20
  | 29 => 21
  | 35 => 22
  | 37 => 23
  | 38 => 24
  | 39 => 25
  | 40 => 26
  | 41 => 27
  | 42 => 28
  | 43 => 29
  | 44 => 30
  | 45 => 31
  | 46 => 32
  | 47 => 33
  | 48 => 34
  | 49 => 35
  | 58 => 36
  | 59 => 37
  | 62 => 38
  | 63 => 39
  | 67 => 40
  | 68 => 41
  | _ => 0
def md_i (s : md_S) (k : Nat) : Int32 := match s k with
  | .inl x => x
  | _ => 0
def md_l (s : md_S) (k : Nat) : Int64 := match s k with
  | .inr (.inl x) => x
  | _ => 0
def md_a (s : md_S) (k : Nat) : Nat → Int32 := match s k with
  | .inr (.inr (.inl f)) => f
  | _ => fun _ => 0
def md_b (s : md_S) (k : Nat) : Nat → Int64 := match s k with
  | .inr (.inr (.inr f)) => f
  | _ => fun _ => 0
def md_si (s : md_S) (k : Nat) (x : Int32) : md_S := fun q => if q = k then .inl x else s q
def md_sl (s : md_S) (k : Nat) (x : Int64) : md_S := fun q => if q = k then .inr (.inl x) else s q
def md_sa (s : md_S) (k : Nat) (f : Nat → Int32) : md_S := fun q => if q = k then .inr (.inr (.inl f)) else s q
def md_sb (s : md_S) (k : Nat) (f : Nat → Int64) : md_S := fun q => if q = k then .inr (.inr (.inr f)) else s q
def md_fv (b : Nat) (s : md_S) (k : Nat) : Value := match md_kd k with
  | 0 => .int (md_i s k)
  | 1 => .long (md_l s k)
  | _ => .ref (b + md_of k)
def md_av (s : md_S) (k : Nat) : mm_E := match md_kd k with
  | 2 => .inl (3, md_ln k, .inl (md_a s k))
  | 3 => .inl (1, md_ln k, .inr (.inl (md_b s k)))
  | _ => .inl (6, md_ln k, .inl (md_a s k))
/-- the cells hold the state s: the object at b, its arrays behind it -/
def md_H (b : Nat) (s : md_S) (M : mm_M) : Prop := M b = some (.inr (11, (List.range 69).map (md_fv b s))) ∧ ∀ k, k < 69 → 2 ≤ md_kd k → M (b + md_of k) = some (md_av s k)
theorem md_of_pos : ∀ k, k < 69 → 2 ≤ md_kd k → 0 < md_of k := by decide +kernel
theorem md_of_inj : ∀ k, k < 69 → ∀ q, q < 69 → 2 ≤ md_kd k → 2 ≤ md_kd q → md_of k = md_of q → k = q := by decide +kernel
theorem md_set_list {α : Type} (f f1 : Nat → α) (k N : Nat) (h : ∀ q, q ≠ k → f1 q = f q) : ((List.range N).map f).set k (f1 k) = (List.range N).map f1 := by
  apply List.ext_getElem?
  intro i
  rw [List.getElem?_set]
  by_cases hik : k = i
  · subst hik
    rw [if_pos rfl]
    by_cases hk : k < N
    · rw [if_pos (by simpa using hk)]
      simp [hk]
    · rw [if_neg (by simpa using hk)]
      simp [hk]
  · rw [if_neg hik]
    simp only [List.getElem?_map]
    cases hr : (List.range N)[i]? with
    | none => rfl
    | some q =>
      have hq : q = i := by
        have := List.getElem?_eq_some_iff.mp hr
        obtain ⟨h1, h2⟩ := this
        simp at h2
        exact h2.symm
      simp [hq, h i (fun z => hik z.symm)]
theorem md_i_ne {s : md_S} {k q : Nat} {x : Int32} (h : q ≠ k) : md_si s k x q = s q := by simp [md_si, h]
theorem md_l_ne {s : md_S} {k q : Nat} {x : Int64} (h : q ≠ k) : md_sl s k x q = s q := by simp [md_sl, h]
theorem md_a_ne {s : md_S} {k q : Nat} {f : Nat → Int32} (h : q ≠ k) : md_sa s k f q = s q := by simp [md_sa, h]
theorem md_b_ne {s : md_S} {k q : Nat} {f : Nat → Int64} (h : q ≠ k) : md_sb s k f q = s q := by simp [md_sb, h]
theorem md_ii {s : md_S} {k : Nat} {x : Int32} : md_i (md_si s k x) k = x := by simp [md_i, md_si]
theorem md_ll {s : md_S} {k : Nat} {x : Int64} : md_l (md_sl s k x) k = x := by simp [md_l, md_sl]
theorem md_aa {s : md_S} {k : Nat} {f : Nat → Int32} : md_a (md_sa s k f) k = f := by simp [md_a, md_sa]
theorem md_bb {s : md_S} {k : Nat} {f : Nat → Int64} : md_b (md_sb s k f) k = f := by simp [md_b, md_sb]
theorem md_H.put {b : Nat} {s s1 : md_S} {M : mm_M} (h : md_H b s M) (k : Nat) (hk : k < 69) (hkd : md_kd k < 2) (hs : ∀ q, q ≠ k → s1 q = s q) : md_H b s1 (mm_up M b (.inr (11, ((List.range 69).map (md_fv b s)).set k (md_fv b s1 k)))) := by
  have hfv : ∀ q, q ≠ k → md_fv b s1 q = md_fv b s q := fun q hq => by simp only [md_fv, md_i, md_l, hs q hq]
  refine ⟨?_, fun q hq h2 => ?_⟩
  · rw [mm_up_s, md_set_list _ _ _ _ hfv]
  · have h0 := md_of_pos q hq h2
    have hqk : q ≠ k := fun z => by subst z; omega
    rw [mm_up_n (by omega), h.2 q hq h2]
    simp only [md_av, md_a, md_b, hs q hqk]
theorem md_H.store {b : Nat} {s s1 : md_S} {M : mm_M} (h : md_H b s M) (k : Nat) (hk : k < 69) (hkd : 2 ≤ md_kd k) (hs : ∀ q, q ≠ k → s1 q = s q) : md_H b s1 (mm_up M (b + md_of k) (md_av s1 k)) := by
  have h0 := md_of_pos k hk hkd
  refine ⟨?_, fun q hq h2 => ?_⟩
  · rw [mm_up_n (by omega), h.1]
    congr 3
    apply List.map_congr_left
    intro q hq
    by_cases z : q = k
    · subst z
      have : ∀ y, 2 ≤ y → ∀ (s : md_S), (match y with | 0 => Value.int (md_i s q) | 1 => Value.long (md_l s q) | _ => Value.ref (b + md_of q)) = Value.ref (b + md_of q) := by
        intro y hy s
        match y, hy with
        | y + 2, _ => rfl
      simp only [md_fv]
      rw [this _ hkd, this _ hkd]
    · simp only [md_fv, md_i, md_l, hs q z]
  · by_cases z : q = k
    · subst z
      rw [mm_up_s]
    · have hne : b + md_of q ≠ b + md_of k := fun e => z (md_of_inj q hq k hk h2 hkd (by omega))
      rw [mm_up_n hne, h.2 q hq h2]
      simp only [md_av, md_a, md_b, hs q z]
end
section
/-! Rows over the reference's state. md_W b M0 s M: the cells hold s, and nothing else has changed since M0. -/
def md_F (b : Nat) (M M1 : mm_M) : Prop := ∀ a, a < b ∨ b + 42 ≤ a → M1 a = M a
def md_W (b : Nat) (M0 : mm_M) (s : md_S) (M : mm_M) : Prop := md_H b s M ∧ md_F b M0 M
theorem md_of_lt : ∀ k, md_of k < 42 := by
  intro k
  by_cases h : k < 69
  · exact (show ∀ k, k < 69 → md_of k < 42 by decide +kernel) k h
  · have : md_of k = 0 := by
      unfold md_of
      split <;> first | rfl | omega
    omega
def md_R (b : Nat) (M0 : mm_M) (n : Nat) (P : Option Value → md_S → Prop) : mm_O → Prop := fun o => ∃ (r : Option Value) (s1 : md_S) (M1 : mm_M), P r s1 ∧ o = (.inl r, M1, n) ∧ md_W b M0 s1 M1
/-- an index is in range -/
def md_ok (i : Int32) (N : Nat) : Bool := decide (0 ≤ i.toInt) && decide (i.toInt < (N : Int))
theorem md_ok_in {i : Int32} {N : Nat} (h : md_ok i N = true) : vp_in i N := by
  simp only [md_ok, Bool.and_eq_true, decide_eq_true_eq] at h
  exact vp_in_iff.mpr h
/-- fewer locals known -/
def mm_sub : List (Option Value) → List (Option Value) → Prop
  | [], _ => True
  | none :: l, [] => mm_sub l []
  | none :: l, _ :: r => mm_sub l r
  | some _ :: _, [] => False
  | some v :: l, x :: r => x = some v ∧ mm_sub l r
theorem mm_sub_lg : ∀ (l r : List (Option Value)), mm_sub l r → ∀ (i : Nat) (v : Value), mm_lg l i = some v → mm_lg r i = some v
  | [], _, _, i, v, h => by cases h
  | none :: l, [], hs, i, v, h => by
    cases i with
    | zero => cases h
    | succ i => have := mm_sub_lg l [] hs i v h; cases this
  | none :: l, x :: r, hs, i, v, h => by
    cases i with
    | zero => cases h
    | succ i => exact mm_sub_lg l r hs i v h
  | some w :: l, [], hs, i, v, h => by cases hs
  | some w :: l, x :: r, hs, i, v, h => by
    obtain ⟨h1, h2⟩ := hs
    cases i with
    | zero => rw [h1]; exact h
    | succ i => exact mm_sub_lg l r h2 i v h
section MDRW
variable {g : mm_G} {l : Launch} {Y : mm_Y} {rm : Room} {Q : mm_O → Prop} {pc : Nat} {ls : List (Option Value)} {st : List Value} {M M0 : mm_M} {n k j b : Nat} {s : md_S}
theorem mm_less {ls1 : List (Option Value)} (h : mm_sub ls1 ls) (kk : mm_Ev g l Y rm Q pc ls1 st M n k j) : mm_Ev g l Y rm Q pc ls st M n k j :=
  fun p e s m args below meth c H locs lsM hC hH hS hL => kk p e s m args below meth c H locs lsM hC hH hS (hL.less (mm_sub_lg _ _ h))
theorem mm_pc {pc1 : Nat} (h : pc = pc1) (kk : mm_Ev g l Y rm Q pc1 ls st M n k j) : mm_Ev g l Y rm Q pc ls st M n k j := h ▸ kk
theorem md_fv_at {kf : Nat} (hk : kf < 69) : ((List.range 69).map (md_fv b s))[kf]? = some (md_fv b s kf) := by
  rw [List.getElem?_map, List.getElem?_range hk]; rfl
theorem md_geti {kf index : Nat} {ty : FieldType} {fin : Bool} (h : md_W b M0 s M) (hd : decode Y.2.1 pc = .ok (.getfield index, 3)) (hF : mm_Fl Y.1.cls index 11 kf ty fin) (hk : kf < 69) (hkd : md_kd kf = 0) (kk : mm_Ev g l Y rm Q (pc + 3) ls (.int (md_i s kf) :: st) M n k j) : mm_Ev g l Y rm Q pc ls (.ref b :: st) M n k j :=
  mm_get hd hF h.1.1 (by rw [md_fv_at hk]; simp only [md_fv, hkd]) kk
theorem md_getl {kf index : Nat} {ty : FieldType} {fin : Bool} (h : md_W b M0 s M) (hd : decode Y.2.1 pc = .ok (.getfield index, 3)) (hF : mm_Fl Y.1.cls index 11 kf ty fin) (hk : kf < 69) (hkd : md_kd kf = 1) (kk : mm_Ev g l Y rm Q (pc + 3) ls (.long (md_l s kf) :: st) M n k j) : mm_Ev g l Y rm Q pc ls (.ref b :: st) M n k j :=
  mm_get hd hF h.1.1 (by rw [md_fv_at hk]; simp only [md_fv, hkd]) kk
theorem md_fv_r {kf : Nat} (hkd : 2 ≤ md_kd kf) : md_fv b s kf = .ref (b + md_of kf) := by
  unfold md_fv
  generalize md_kd kf = y at hkd
  match y, hkd with
  | y + 2, _ => rfl
theorem md_getr {kf index : Nat} {ty : FieldType} {fin : Bool} (h : md_W b M0 s M) (hd : decode Y.2.1 pc = .ok (.getfield index, 3)) (hF : mm_Fl Y.1.cls index 11 kf ty fin) (hk : kf < 69) (hkd : 2 ≤ md_kd kf) (kk : mm_Ev g l Y rm Q (pc + 3) ls (.ref (b + md_of kf) :: st) M n k j) : mm_Ev g l Y rm Q pc ls (.ref b :: st) M n k j :=
  mm_get hd hF h.1.1 (by rw [md_fv_at hk, md_fv_r hkd]) kk
theorem md_F_b {M1 : mm_M} {a : Nat} {e : mm_E} (h : md_F b M0 M) (ha : b ≤ a) (ha2 : a < b + 42) : md_F b M0 (mm_up M a e) := fun q hq => by rw [mm_up_n (by omega)]; exact h q hq
theorem md_puti {kf index : Nat} {x : Int32} (h : md_W b M0 s M) (hd : decode Y.2.1 pc = .ok (.putfield index, 3)) (hF : mm_Fl Y.1.cls index 11 kf .int false) (hk : kf < 69) (hkd : md_kd kf = 0) (kk : ∀ M1 : mm_M, md_W b M0 (md_si s kf x) M1 → mm_Ev g l Y rm Q (pc + 3) ls st M1 n k j) : mm_Ev g l Y rm Q pc ls (.int x :: .ref b :: st) M n k j := by
  refine mm_put hd hF h.1.1 (by simpa using hk) rfl rfl (fun M1 e => kk M1 ?_)
  have h9 := h.1.put (s1 := md_si s kf x) kf hk (by omega) (fun q hq => md_i_ne hq)
  have e9 : md_fv b (md_si s kf x) kf = .int x := by simp only [md_fv, hkd, md_ii]
  rw [e9] at h9
  rw [e]
  exact ⟨h9, md_F_b (M1 := M1) h.2 (Nat.le_refl _) (by omega)⟩
theorem md_putl {kf index : Nat} {x : Int64} (h : md_W b M0 s M) (hd : decode Y.2.1 pc = .ok (.putfield index, 3)) (hF : mm_Fl Y.1.cls index 11 kf .long false) (hk : kf < 69) (hkd : md_kd kf = 1) (kk : ∀ M1 : mm_M, md_W b M0 (md_sl s kf x) M1 → mm_Ev g l Y rm Q (pc + 3) ls st M1 n k j) : mm_Ev g l Y rm Q pc ls (.long x :: .ref b :: st) M n k j := by
  refine mm_put hd hF h.1.1 (by simpa using hk) rfl rfl (fun M1 e => kk M1 ?_)
  have h9 := h.1.put (s1 := md_sl s kf x) kf hk (by omega) (fun q hq => md_l_ne hq)
  have e9 : md_fv b (md_sl s kf x) kf = .long x := by simp only [md_fv, hkd, md_ll]
  rw [e9] at h9
  rw [e]
  exact ⟨h9, md_F_b (M1 := M1) h.2 (Nat.le_refl _) (by omega)⟩
theorem md_ial {kf : Nat} {i : Int32} (h : md_W b M0 s M) (hd : decode Y.2.1 pc = .ok (.iaload, 1)) (hk : kf < 69) (hkd : md_kd kf = 2) (hin : md_ok i (md_ln kf) = true) (kk : mm_Ev g l Y rm Q (pc + 1) ls (.int (md_a s kf i.toNatClampNeg) :: st) M n k j) : mm_Ev g l Y rm Q pc ls (.int i :: .ref (b + md_of kf) :: st) M n k j :=
  mm_iald hd (t := 3) (by rw [h.1.2 kf hk (by omega)]; simp only [md_av, hkd]) rfl (md_ok_in hin) kk
theorem md_lal {kf : Nat} {i : Int32} (h : md_W b M0 s M) (hd : decode Y.2.1 pc = .ok (.laload, 1)) (hk : kf < 69) (hkd : md_kd kf = 3) (hin : md_ok i (md_ln kf) = true) (kk : mm_Ev g l Y rm Q (pc + 1) ls (.long (md_b s kf i.toNatClampNeg) :: st) M n k j) : mm_Ev g l Y rm Q pc ls (.int i :: .ref (b + md_of kf) :: st) M n k j :=
  mm_lald hd (t := 1) (by rw [h.1.2 kf hk (by omega)]; simp only [md_av, hkd]) rfl (md_ok_in hin) kk
theorem md_zal {kf : Nat} {i : Int32} (h : md_W b M0 s M) (hd : decode Y.2.1 pc = .ok (.baload, 1)) (hk : kf < 69) (hkd : md_kd kf = 4) (hin : md_ok i (md_ln kf) = true) (kk : mm_Ev g l Y rm Q (pc + 1) ls (.int (md_a s kf i.toNatClampNeg) :: st) M n k j) : mm_Ev g l Y rm Q pc ls (.int i :: .ref (b + md_of kf) :: st) M n k j :=
  mm_zald hd (t := 6) (by rw [h.1.2 kf hk (by omega)]; simp only [md_av, hkd]) rfl (md_ok_in hin) kk
theorem md_ias {kf : Nat} {i x : Int32} (h : md_W b M0 s M) (hd : decode Y.2.1 pc = .ok (.iastore, 1)) (hk : kf < 69) (hkd : md_kd kf = 2) (hin : md_ok i (md_ln kf) = true) (kk : ∀ M1 : mm_M, md_W b M0 (md_sa s kf (upd (md_a s kf) i.toNatClampNeg x)) M1 → mm_Ev g l Y rm Q (pc + 1) ls st M1 n k j) : mm_Ev g l Y rm Q pc ls (.int x :: .int i :: .ref (b + md_of kf) :: st) M n k j := by
  refine mm_iast hd (t := 3) (by rw [h.1.2 kf hk (by omega)]; simp only [md_av, hkd]; rfl) rfl (md_ok_in hin) (fun M1 e => kk M1 ?_)
  have h9 := h.1.store (s1 := md_sa s kf (upd (md_a s kf) i.toNatClampNeg x)) kf hk (by omega) (fun q hq => md_a_ne hq)
  have e9 : md_av (md_sa s kf (upd (md_a s kf) i.toNatClampNeg x)) kf = .inl (3, md_ln kf, .inl (upd (md_a s kf) i.toNatClampNeg x)) := by simp only [md_av, hkd, md_aa]
  rw [e9] at h9
  rw [e]
  have := md_of_lt kf
  exact ⟨h9, md_F_b (M1 := M1) h.2 (by omega) (by omega)⟩
theorem md_las {kf : Nat} {i : Int32} {x : Int64} (h : md_W b M0 s M) (hd : decode Y.2.1 pc = .ok (.lastore, 1)) (hk : kf < 69) (hkd : md_kd kf = 3) (hin : md_ok i (md_ln kf) = true) (kk : ∀ M1 : mm_M, md_W b M0 (md_sb s kf (vp_updL (md_b s kf) i.toNatClampNeg x)) M1 → mm_Ev g l Y rm Q (pc + 1) ls st M1 n k j) : mm_Ev g l Y rm Q pc ls (.long x :: .int i :: .ref (b + md_of kf) :: st) M n k j := by
  refine mm_last hd (t := 1) (by rw [h.1.2 kf hk (by omega)]; simp only [md_av, hkd]; rfl) rfl (md_ok_in hin) (fun M1 e => kk M1 ?_)
  have h9 := h.1.store (s1 := md_sb s kf (vp_updL (md_b s kf) i.toNatClampNeg x)) kf hk (by omega) (fun q hq => md_b_ne hq)
  have e9 : md_av (md_sb s kf (vp_updL (md_b s kf) i.toNatClampNeg x)) kf = .inl (1, md_ln kf, .inr (.inl (vp_updL (md_b s kf) i.toNatClampNeg x))) := by simp only [md_av, hkd, md_bb]
  rw [e9] at h9
  rw [e]
  have := md_of_lt kf
  exact ⟨h9, md_F_b (M1 := M1) h.2 (by omega) (by omega)⟩
theorem md_zas {kf : Nat} {i x : Int32} (h : md_W b M0 s M) (hd : decode Y.2.1 pc = .ok (.bastore, 1)) (hk : kf < 69) (hkd : md_kd kf = 4) (hin : md_ok i (md_ln kf) = true) (kk : ∀ M1 : mm_M, md_W b M0 (md_sa s kf (upd (md_a s kf) i.toNatClampNeg (vp_nar .boolean x))) M1 → mm_Ev g l Y rm Q (pc + 1) ls st M1 n k j) : mm_Ev g l Y rm Q pc ls (.int x :: .int i :: .ref (b + md_of kf) :: st) M n k j := by
  refine mm_zast hd (t := 6) (by rw [h.1.2 kf hk (by omega)]; simp only [md_av, hkd]; rfl) rfl (md_ok_in hin) (fun M1 e => kk M1 ?_)
  have h9 := h.1.store (s1 := md_sa s kf (upd (md_a s kf) i.toNatClampNeg (vp_nar .boolean x))) kf hk (by omega) (fun q hq => md_a_ne hq)
  have e9 : md_av (md_sa s kf (upd (md_a s kf) i.toNatClampNeg (vp_nar .boolean x))) kf = .inl (6, md_ln kf, .inl (upd (md_a s kf) i.toNatClampNeg (vp_nar .boolean x))) := by simp only [md_av, hkd, md_aa]
  rw [e9] at h9
  rw [e]
  have := md_of_lt kf
  exact ⟨h9, md_F_b (M1 := M1) h.2 (by omega) (by omega)⟩
theorem md_Q_of {r : Option Value} {P : Option Value → md_S → Prop} (h : md_W b M0 s M) (hP : P r s) : md_R b M0 n P (.inl r, M, n) := ⟨r, s, M, hP, rfl, h⟩
/-- a call of a method of the reference's own object -/
theorem md_call {Z : mm_Y} {rz : Room} {P : Option Value → md_S → Prop} {index np : Nat} {as : List Value} (h : md_W b M0 s M) (hd : decode Y.2.1 pc = .ok (.invokevirtual index, 3)) (hZ : mm_Vl Y.1.cls index 11 np Z) (hM : ∀ (M : mm_M) (n : Nat), md_H b s M → mm_Met g l Z rz (.ref b :: as) M n (md_R b M n P)) (hlen : as.length = np)
    (hroom : rz.frames + 1 ≤ rm.frames ∧ (st.map fun v => v.category).sum + (Z.2.2.1 + 11) + rz.locals ≤ rm.locals) (hk : k + rz.cells ≤ rm.cells) (hj : j + rz.slots ≤ rm.slots)
    (kr : ∀ (r : Option Value) (s1 : md_S) (M1 : mm_M), P r s1 → md_W b M0 s1 M1 → mm_Ev g l Y rm Q (pc + 3) ls (r.toList ++ st) M1 n (k + rz.cells) (j + rz.slots)) : mm_Ev g l Y rm Q pc ls (as.reverse ++ .ref b :: st) M n k j := by
  refine mm_callV hd hZ (hM M n h.1) h.1.1 hlen hroom hk hj (fun v M1 n1 hQ => ?_) (fun i M1 n1 hQ => ?_)
  · obtain ⟨r, s1, M2, hP, e, hW⟩ := hQ
    cases e
    exact kr v s1 M1 hP ⟨hW.1, fun a ha => (hW.2 a ha).trans (h.2 a ha)⟩
  · obtain ⟨r, s1, M2, hP, e, hW⟩ := hQ
    cases e
/-- a call of a static method that touches no cell -/
theorem md_callS {Z : mm_Y} {rz : Room} {P : Option Value → Prop} {index np : Nat} {as : List Value} (hd : decode Y.2.1 pc = .ok (.invokestatic index, 3)) (hZ : mm_Sl Y.1.cls index np Z) (hM : ∀ (M : mm_M) (n : Nat), mm_Met g l Z rz as M n (fun o => ∃ r, P r ∧ o = (.inl r, M, n))) (hlen : as.length = np)
    (hroom : rz.frames + 1 ≤ rm.frames ∧ (st.map fun v => v.category).sum + (Z.2.2.1 + 11) + rz.locals ≤ rm.locals) (hk : k + rz.cells ≤ rm.cells) (hj : j + rz.slots ≤ rm.slots)
    (kr : ∀ (r : Option Value), P r → mm_Ev g l Y rm Q (pc + 3) ls (r.toList ++ st) M n (k + rz.cells) (j + rz.slots)) : mm_Ev g l Y rm Q pc ls (as.reverse ++ st) M n k j := by
  refine mm_callS hd hZ (hM M n) hlen hroom hk hj (fun v M1 n1 hQ => ?_) (fun i M1 n1 hQ => ?_)
  · obtain ⟨r, hP, e⟩ := hQ
    cases e
    exact kr v hP
  · obtain ⟨r, hP, e⟩ := hQ
    cases e
end MDRW
end
section
/-! The cells by their numbers: layout and ranges; by program (wip/zz/lay.py). -/
def zi (z : Int) : Value := .int (Int32.ofInt z)
def zl (z : Int) : Value := .long (Int64.ofInt z)
abbrev zz_S : Type := Nat → Nat → Int
abbrev zz_L : Type := (Nat × List Nat) ⊕ (Nat × Nat × Nat)
def zz_gd (l : List (Int × Int)) (i : Nat) : Int × Int := l.getD i (-9223372036854775808, 9223372036854775807)
/-- the cells that a number stands for: 2 as it is, 3 networks, 4 words, 5 reaches, 6 layers -/
def zz_rf (k : Nat) (z : Int) : Nat := match k with
  | 3 => 1001 + 14 * z.toNat
  | 4 => 1029 + z.toNat
  | 5 => if z = 4 then 1037 else 1050 + 5 * z.toNat
  | 6 => if z < 12 then 1003 + z.toNat else 1005 + z.toNat
  | _ => z.toNat
def zz_tab : List zz_L := [
  .inl (0, [2, 2, 2, 2, 2, 2, 2, 3, 3, 4, 4, 0]),
  .inl (1, [2, 0]),
  .inr (0, 12, 6),
  .inl (2, [0, 0, 0, 0, 0, 0, 0, 0, 0, 0, 0, 0, 0, 0, 0]),
  .inl (2, [0, 0, 0, 0, 0, 0, 0, 0, 0, 0, 0, 0, 0, 0, 0]),
  .inl (2, [0, 0, 0, 0, 0, 0, 0, 0, 0, 0, 0, 0, 0, 0, 0]),
  .inl (2, [0, 0, 0, 0, 0, 0, 0, 0, 0, 0, 0, 0, 0, 0, 0]),
  .inl (2, [0, 0, 0, 0, 0, 0, 0, 0, 0, 0, 0, 0, 0, 0, 0]),
  .inl (2, [0, 0, 0, 0, 0, 0, 0, 0, 0, 0, 0, 0, 0, 0, 0]),
  .inl (2, [0, 0, 0, 0, 0, 0, 0, 0, 0, 0, 0, 0, 0, 0, 0]),
  .inl (2, [0, 0, 0, 0, 0, 0, 0, 0, 0, 0, 0, 0, 0, 0, 0]),
  .inl (2, [0, 0, 0, 0, 0, 0, 0, 0, 0, 0, 0, 0, 0, 0, 0]),
  .inl (2, [0, 0, 0, 0, 0, 0, 0, 0, 0, 0, 0, 0, 0, 0, 0]),
  .inl (2, [0, 0, 0, 0, 0, 0, 0, 0, 0, 0, 0, 0, 0, 0, 0]),
  .inl (2, [0, 0, 0, 0, 0, 0, 0, 0, 0, 0, 0, 0, 0, 0, 0]),
  .inl (1, [2, 0]),
  .inr (0, 12, 6),
  .inl (2, [0, 0, 0, 0, 0, 0, 0, 0, 0, 0, 0, 0, 0, 0, 0]),
  .inl (2, [0, 0, 0, 0, 0, 0, 0, 0, 0, 0, 0, 0, 0, 0, 0]),
  .inl (2, [0, 0, 0, 0, 0, 0, 0, 0, 0, 0, 0, 0, 0, 0, 0]),
  .inl (2, [0, 0, 0, 0, 0, 0, 0, 0, 0, 0, 0, 0, 0, 0, 0]),
  .inl (2, [0, 0, 0, 0, 0, 0, 0, 0, 0, 0, 0, 0, 0, 0, 0]),
  .inl (2, [0, 0, 0, 0, 0, 0, 0, 0, 0, 0, 0, 0, 0, 0, 0]),
  .inl (2, [0, 0, 0, 0, 0, 0, 0, 0, 0, 0, 0, 0, 0, 0, 0]),
  .inl (2, [0, 0, 0, 0, 0, 0, 0, 0, 0, 0, 0, 0, 0, 0, 0]),
  .inl (2, [0, 0, 0, 0, 0, 0, 0, 0, 0, 0, 0, 0, 0, 0, 0]),
  .inl (2, [0, 0, 0, 0, 0, 0, 0, 0, 0, 0, 0, 0, 0, 0, 0]),
  .inl (2, [0, 0, 0, 0, 0, 0, 0, 0, 0, 0, 0, 0, 0, 0, 0]),
  .inl (2, [0, 0, 0, 0, 0, 0, 0, 0, 0, 0, 0, 0, 0, 0, 0]),
  .inr (1, 600, 1),
  .inr (1, 600, 1),
  .inl (3, [2, 2, 2, 2, 2, 5, 0, 0, 0, 0, 0, 0, 0, 0]),
  .inr (2, 4096, 0),
  .inr (2, 512, 0),
  .inr (2, 512, 0),
  .inr (3, 256, 0),
  .inr (2, 256, 0),
  .inl (4, [2, 2, 2, 2]),
  .inr (3, 5, 0),
  .inr (3, 5, 0),
  .inr (3, 5, 0),
  .inr (3, 5, 0),
  .inl (5, [2, 2, 2, 2, 2, 2, 2, 2, 5, 0]),
  .inr (3, 10, 0),
  .inr (1, 600, 1),
  .inr (3, 600, 0),
  .inr (3, 600, 0),
  .inr (3, 3, 0),
  .inr (3, 3, 0),
  .inr (4, 3, 5),
  .inl (4, [2, 2, 2, 2]),
  .inr (3, 5, 0),
  .inr (3, 5, 0),
  .inr (3, 5, 0),
  .inr (3, 5, 0),
  .inl (4, [2, 2, 2, 2]),
  .inr (3, 5, 0),
  .inr (3, 5, 0),
  .inr (3, 5, 0),
  .inr (3, 5, 0),
  .inl (4, [2, 2, 2, 2]),
  .inr (3, 5, 0),
  .inr (3, 5, 0),
  .inr (3, 5, 0),
  .inr (3, 5, 0),
  .inl (4, [2, 2, 2, 2]),
  .inr (3, 5, 0),
  .inr (3, 5, 0),
  .inr (3, 5, 0),
  .inr (3, 5, 0),
  .inl (6, [2, 0, 0, 0, 0, 0, 0]),
  .inr (5, 1500, 0),
  .inl (7, [2, 0, 1, 0]),
  .inl (8, [2, 3, 2, 2, 0, 0, 0, 0, 0]),
  .inr (3, 11, 0),
  .inr (3, 11, 0),
  .inl (9, [4, 0, 0, 6, 6, 6, 0, 0, 0, 0, 0, 0, 0, 0, 0, 0, 0]),
  .inl (10, [2, 0]),
  .inr (5, 128, 0),
  .inl (11, [0, 0, 2, 2, 2, 2, 2, 0, 2, 2, 0, 2, 2, 2, 0, 0, 0, 2, 2, 0, 2, 2, 2, 2, 2, 2, 2, 2, 0, 2, 0, 0, 0, 0, 0, 2, 0, 2, 2, 2, 2, 2, 2, 2, 2, 2, 2, 2, 2, 2, 0, 0, 0, 0, 0, 0, 0, 0, 2, 2, 0, 1, 2, 2, 1, 0, 0, 2, 2]),
  .inr (3, 4096, 0),
  .inr (3, 512, 0),
  .inr (3, 512, 0),
  .inr (3, 256, 0),
  .inr (3, 256, 0),
  .inr (1, 601, 1),
  .inr (1, 601, 1),
  .inr (3, 12, 0),
  .inr (3, 10, 0),
  .inr (3, 10, 0),
  .inr (3, 3, 0),
  .inr (3, 4, 0),
  .inr (3, 601, 0),
  .inr (3, 601, 0),
  .inr (3, 601, 0),
  .inr (6, 601, 0),
  .inr (3, 601, 0),
  .inr (3, 3, 0),
  .inr (3, 3, 0),
  .inr (3, 1500, 0),
  .inr (1, 24, 1),
  .inr (3, 200, 0),
  .inr (3, 11, 0),
  .inr (3, 11, 0),
  .inr (3, 11, 0),
  .inr (3, 12, 0),
  .inr (3, 10, 0),
  .inr (3, 10, 0),
  .inr (3, 10, 0),
  .inr (3, 10, 0),
  .inr (3, 10, 0),
  .inr (3, 10, 0),
  .inr (3, 10, 0),
  .inr (3, 10, 0),
  .inr (3, 10, 0),
  .inr (3, 10, 0),
  .inr (3, 10, 0),
  .inr (1, 11, 1),
  .inr (3, 8, 0),
  .inr (3, 147, 0),
  .inr (3, 12, 0),
  .inr (1, 1, 1)]
def zz_T (a : Nat) : Option zz_L := if a < 1000 then none else zz_tab[a - 1000]?
def zz_rt : List (Nat → Int × Int) := [
  fun i => zz_gd [(1031, 1031), (1042, 1042), (1070, 1070), (1072, 1072), (1073, 1073), (1076, 1076), (1077, 1077), (0, 1), (0, 1), (0, 1), (0, 1), (0, 600)] i,
  fun i => zz_gd [(1002, 1002), (1, 11)] i,
  fun i => (0 + (i : Int), 0 + (i : Int)),
  fun i => zz_gd [(-2147483648, 2147483647), (-2147483648, 2147483647), (-2147483648, 2147483647), (-2147483648, 2147483647), (-2147483648, 2147483647), (-2147483648, 2147483647), (-2147483648, 2147483647), (-2147483648, 2147483647), (0, 1), (-2147483648, 2147483647), (-2147483648, 2147483647), (-2147483648, 2147483647), (-2147483648, 2147483647), (-2147483648, 2147483647), (-2147483648, 2147483647)] i,
  fun i => zz_gd [(-2147483648, 2147483647), (-2147483648, 2147483647), (-2147483648, 2147483647), (-2147483648, 2147483647), (-2147483648, 2147483647), (-2147483648, 2147483647), (-2147483648, 2147483647), (-2147483648, 2147483647), (0, 1), (-2147483648, 2147483647), (-2147483648, 2147483647), (-2147483648, 2147483647), (-2147483648, 2147483647), (-2147483648, 2147483647), (-2147483648, 2147483647)] i,
  fun i => zz_gd [(-2147483648, 2147483647), (-2147483648, 2147483647), (-2147483648, 2147483647), (-2147483648, 2147483647), (-2147483648, 2147483647), (-2147483648, 2147483647), (-2147483648, 2147483647), (-2147483648, 2147483647), (0, 1), (-2147483648, 2147483647), (-2147483648, 2147483647), (-2147483648, 2147483647), (-2147483648, 2147483647), (-2147483648, 2147483647), (-2147483648, 2147483647)] i,
  fun i => zz_gd [(-2147483648, 2147483647), (-2147483648, 2147483647), (-2147483648, 2147483647), (-2147483648, 2147483647), (-2147483648, 2147483647), (-2147483648, 2147483647), (-2147483648, 2147483647), (-2147483648, 2147483647), (0, 1), (-2147483648, 2147483647), (-2147483648, 2147483647), (-2147483648, 2147483647), (-2147483648, 2147483647), (-2147483648, 2147483647), (-2147483648, 2147483647)] i,
  fun i => zz_gd [(-2147483648, 2147483647), (-2147483648, 2147483647), (-2147483648, 2147483647), (-2147483648, 2147483647), (-2147483648, 2147483647), (-2147483648, 2147483647), (-2147483648, 2147483647), (-2147483648, 2147483647), (0, 1), (-2147483648, 2147483647), (-2147483648, 2147483647), (-2147483648, 2147483647), (-2147483648, 2147483647), (-2147483648, 2147483647), (-2147483648, 2147483647)] i,
  fun i => zz_gd [(-2147483648, 2147483647), (-2147483648, 2147483647), (-2147483648, 2147483647), (-2147483648, 2147483647), (-2147483648, 2147483647), (-2147483648, 2147483647), (-2147483648, 2147483647), (-2147483648, 2147483647), (0, 1), (-2147483648, 2147483647), (-2147483648, 2147483647), (-2147483648, 2147483647), (-2147483648, 2147483647), (-2147483648, 2147483647), (-2147483648, 2147483647)] i,
  fun i => zz_gd [(-2147483648, 2147483647), (-2147483648, 2147483647), (-2147483648, 2147483647), (-2147483648, 2147483647), (-2147483648, 2147483647), (-2147483648, 2147483647), (-2147483648, 2147483647), (-2147483648, 2147483647), (0, 1), (-2147483648, 2147483647), (-2147483648, 2147483647), (-2147483648, 2147483647), (-2147483648, 2147483647), (-2147483648, 2147483647), (-2147483648, 2147483647)] i,
  fun i => zz_gd [(-2147483648, 2147483647), (-2147483648, 2147483647), (-2147483648, 2147483647), (-2147483648, 2147483647), (-2147483648, 2147483647), (-2147483648, 2147483647), (-2147483648, 2147483647), (-2147483648, 2147483647), (0, 1), (-2147483648, 2147483647), (-2147483648, 2147483647), (-2147483648, 2147483647), (-2147483648, 2147483647), (-2147483648, 2147483647), (-2147483648, 2147483647)] i,
  fun i => zz_gd [(-2147483648, 2147483647), (-2147483648, 2147483647), (-2147483648, 2147483647), (-2147483648, 2147483647), (-2147483648, 2147483647), (-2147483648, 2147483647), (-2147483648, 2147483647), (-2147483648, 2147483647), (0, 1), (-2147483648, 2147483647), (-2147483648, 2147483647), (-2147483648, 2147483647), (-2147483648, 2147483647), (-2147483648, 2147483647), (-2147483648, 2147483647)] i,
  fun i => zz_gd [(-2147483648, 2147483647), (-2147483648, 2147483647), (-2147483648, 2147483647), (-2147483648, 2147483647), (-2147483648, 2147483647), (-2147483648, 2147483647), (-2147483648, 2147483647), (-2147483648, 2147483647), (0, 1), (-2147483648, 2147483647), (-2147483648, 2147483647), (-2147483648, 2147483647), (-2147483648, 2147483647), (-2147483648, 2147483647), (-2147483648, 2147483647)] i,
  fun i => zz_gd [(-2147483648, 2147483647), (-2147483648, 2147483647), (-2147483648, 2147483647), (-2147483648, 2147483647), (-2147483648, 2147483647), (-2147483648, 2147483647), (-2147483648, 2147483647), (-2147483648, 2147483647), (0, 1), (-2147483648, 2147483647), (-2147483648, 2147483647), (-2147483648, 2147483647), (-2147483648, 2147483647), (-2147483648, 2147483647), (-2147483648, 2147483647)] i,
  fun i => zz_gd [(-2147483648, 2147483647), (-2147483648, 2147483647), (-2147483648, 2147483647), (-2147483648, 2147483647), (-2147483648, 2147483647), (-2147483648, 2147483647), (-2147483648, 2147483647), (-2147483648, 2147483647), (0, 1), (-2147483648, 2147483647), (-2147483648, 2147483647), (-2147483648, 2147483647), (-2147483648, 2147483647), (-2147483648, 2147483647), (-2147483648, 2147483647)] i,
  fun i => zz_gd [(1016, 1016), (1, 11)] i,
  fun i => (12 + (i : Int), 12 + (i : Int)),
  fun i => zz_gd [(-2147483648, 2147483647), (-2147483648, 2147483647), (-2147483648, 2147483647), (-2147483648, 2147483647), (-2147483648, 2147483647), (-2147483648, 2147483647), (-2147483648, 2147483647), (-2147483648, 2147483647), (0, 1), (-2147483648, 2147483647), (-2147483648, 2147483647), (-2147483648, 2147483647), (-2147483648, 2147483647), (-2147483648, 2147483647), (-2147483648, 2147483647)] i,
  fun i => zz_gd [(-2147483648, 2147483647), (-2147483648, 2147483647), (-2147483648, 2147483647), (-2147483648, 2147483647), (-2147483648, 2147483647), (-2147483648, 2147483647), (-2147483648, 2147483647), (-2147483648, 2147483647), (0, 1), (-2147483648, 2147483647), (-2147483648, 2147483647), (-2147483648, 2147483647), (-2147483648, 2147483647), (-2147483648, 2147483647), (-2147483648, 2147483647)] i,
  fun i => zz_gd [(-2147483648, 2147483647), (-2147483648, 2147483647), (-2147483648, 2147483647), (-2147483648, 2147483647), (-2147483648, 2147483647), (-2147483648, 2147483647), (-2147483648, 2147483647), (-2147483648, 2147483647), (0, 1), (-2147483648, 2147483647), (-2147483648, 2147483647), (-2147483648, 2147483647), (-2147483648, 2147483647), (-2147483648, 2147483647), (-2147483648, 2147483647)] i,
  fun i => zz_gd [(-2147483648, 2147483647), (-2147483648, 2147483647), (-2147483648, 2147483647), (-2147483648, 2147483647), (-2147483648, 2147483647), (-2147483648, 2147483647), (-2147483648, 2147483647), (-2147483648, 2147483647), (0, 1), (-2147483648, 2147483647), (-2147483648, 2147483647), (-2147483648, 2147483647), (-2147483648, 2147483647), (-2147483648, 2147483647), (-2147483648, 2147483647)] i,
  fun i => zz_gd [(-2147483648, 2147483647), (-2147483648, 2147483647), (-2147483648, 2147483647), (-2147483648, 2147483647), (-2147483648, 2147483647), (-2147483648, 2147483647), (-2147483648, 2147483647), (-2147483648, 2147483647), (0, 1), (-2147483648, 2147483647), (-2147483648, 2147483647), (-2147483648, 2147483647), (-2147483648, 2147483647), (-2147483648, 2147483647), (-2147483648, 2147483647)] i,
  fun i => zz_gd [(-2147483648, 2147483647), (-2147483648, 2147483647), (-2147483648, 2147483647), (-2147483648, 2147483647), (-2147483648, 2147483647), (-2147483648, 2147483647), (-2147483648, 2147483647), (-2147483648, 2147483647), (0, 1), (-2147483648, 2147483647), (-2147483648, 2147483647), (-2147483648, 2147483647), (-2147483648, 2147483647), (-2147483648, 2147483647), (-2147483648, 2147483647)] i,
  fun i => zz_gd [(-2147483648, 2147483647), (-2147483648, 2147483647), (-2147483648, 2147483647), (-2147483648, 2147483647), (-2147483648, 2147483647), (-2147483648, 2147483647), (-2147483648, 2147483647), (-2147483648, 2147483647), (0, 1), (-2147483648, 2147483647), (-2147483648, 2147483647), (-2147483648, 2147483647), (-2147483648, 2147483647), (-2147483648, 2147483647), (-2147483648, 2147483647)] i,
  fun i => zz_gd [(-2147483648, 2147483647), (-2147483648, 2147483647), (-2147483648, 2147483647), (-2147483648, 2147483647), (-2147483648, 2147483647), (-2147483648, 2147483647), (-2147483648, 2147483647), (-2147483648, 2147483647), (0, 1), (-2147483648, 2147483647), (-2147483648, 2147483647), (-2147483648, 2147483647), (-2147483648, 2147483647), (-2147483648, 2147483647), (-2147483648, 2147483647)] i,
  fun i => zz_gd [(-2147483648, 2147483647), (-2147483648, 2147483647), (-2147483648, 2147483647), (-2147483648, 2147483647), (-2147483648, 2147483647), (-2147483648, 2147483647), (-2147483648, 2147483647), (-2147483648, 2147483647), (0, 1), (-2147483648, 2147483647), (-2147483648, 2147483647), (-2147483648, 2147483647), (-2147483648, 2147483647), (-2147483648, 2147483647), (-2147483648, 2147483647)] i,
  fun i => zz_gd [(-2147483648, 2147483647), (-2147483648, 2147483647), (-2147483648, 2147483647), (-2147483648, 2147483647), (-2147483648, 2147483647), (-2147483648, 2147483647), (-2147483648, 2147483647), (-2147483648, 2147483647), (0, 1), (-2147483648, 2147483647), (-2147483648, 2147483647), (-2147483648, 2147483647), (-2147483648, 2147483647), (-2147483648, 2147483647), (-2147483648, 2147483647)] i,
  fun i => zz_gd [(-2147483648, 2147483647), (-2147483648, 2147483647), (-2147483648, 2147483647), (-2147483648, 2147483647), (-2147483648, 2147483647), (-2147483648, 2147483647), (-2147483648, 2147483647), (-2147483648, 2147483647), (0, 1), (-2147483648, 2147483647), (-2147483648, 2147483647), (-2147483648, 2147483647), (-2147483648, 2147483647), (-2147483648, 2147483647), (-2147483648, 2147483647)] i,
  fun i => zz_gd [(-2147483648, 2147483647), (-2147483648, 2147483647), (-2147483648, 2147483647), (-2147483648, 2147483647), (-2147483648, 2147483647), (-2147483648, 2147483647), (-2147483648, 2147483647), (-2147483648, 2147483647), (0, 1), (-2147483648, 2147483647), (-2147483648, 2147483647), (-2147483648, 2147483647), (-2147483648, 2147483647), (-2147483648, 2147483647), (-2147483648, 2147483647)] i,
  fun _ => (-9223372036854775808, 9223372036854775807),
  fun _ => (-9223372036854775808, 9223372036854775807),
  fun i => zz_gd [(1032, 1032), (1033, 1033), (1034, 1034), (1035, 1035), (1036, 1036), (4, 4), (2, 8), (0, 4095), (0, 63), (0, 31), (0, 511), (0, 511), (0, 1023), (0, 31)] i,
  fun _ => (-128, 127),
  fun _ => (-128, 127),
  fun _ => (-128, 127),
  fun _ => (-2147483648, 2147483647),
  fun _ => (-128, 127),
  fun i => zz_gd [(1038, 1038), (1039, 1039), (1040, 1040), (1041, 1041)] i,
  fun _ => (-2147483648, 2147483647),
  fun _ => (-2147483648, 2147483647),
  fun _ => (-2147483648, 2147483647),
  fun _ => (-2147483648, 2147483647),
  fun i => zz_gd [(1031, 1031), (1043, 1043), (1044, 1044), (1045, 1045), (1046, 1046), (1047, 1047), (1048, 1048), (1049, 1049), (0, 3), (0, 600)] i,
  fun _ => (-2147483648, 2147483647),
  fun _ => (-9223372036854775808, 9223372036854775807),
  fun _ => (-2147483648, 2147483647),
  fun _ => (-2147483648, 2147483647),
  fun _ => (-1, 600),
  fun _ => (-1, 600),
  fun _ => (0, 3),
  fun i => zz_gd [(1051, 1051), (1052, 1052), (1053, 1053), (1054, 1054)] i,
  fun _ => (-2147483648, 2147483647),
  fun _ => (-2147483648, 2147483647),
  fun _ => (-2147483648, 2147483647),
  fun _ => (-2147483648, 2147483647),
  fun i => zz_gd [(1056, 1056), (1057, 1057), (1058, 1058), (1059, 1059)] i,
  fun _ => (-2147483648, 2147483647),
  fun _ => (-2147483648, 2147483647),
  fun _ => (-2147483648, 2147483647),
  fun _ => (-2147483648, 2147483647),
  fun i => zz_gd [(1061, 1061), (1062, 1062), (1063, 1063), (1064, 1064)] i,
  fun _ => (-2147483648, 2147483647),
  fun _ => (-2147483648, 2147483647),
  fun _ => (-2147483648, 2147483647),
  fun _ => (-2147483648, 2147483647),
  fun i => zz_gd [(1066, 1066), (1067, 1067), (1068, 1068), (1069, 1069)] i,
  fun _ => (-2147483648, 2147483647),
  fun _ => (-2147483648, 2147483647),
  fun _ => (-2147483648, 2147483647),
  fun _ => (-2147483648, 2147483647),
  fun i => zz_gd [(1071, 1071), (0, 1500), (-1, 1500), (0, 1500), (-2147483648, 2147483647), (0, 1500), (-2147483648, 2147483647)] i,
  fun _ => (0, 65535),
  fun i => zz_gd [(1070, 1070), (0, 600), (-9223372036854775808, 9223372036854775807), (-2147483648, 2147483647)] i,
  fun i => zz_gd [(1070, 1070), (0, 1), (1074, 1074), (1075, 1075), (0, 1500), (0, 1500), (-2147483648, 2147483647), (-2147483648, 2147483647), (-2147483648, 2147483647)] i,
  fun _ => (0, 1500),
  fun _ => (0, 1500),
  fun i => zz_gd [(0, 1), (0, 1000000), (2, 8), (-1, 23), (-1, 23), (-1, 23), (-2147483648, 2147483647), (-2147483648, 2147483647), (-2147483648, 2147483647), (-2147483648, 2147483647), (-2147483648, 2147483647), (-2147483648, 2147483647), (-2147483648, 2147483647), (-2147483648, 2147483647), (-2147483648, 2147483647), (-2147483648, 2147483647), (-2147483648, 2147483647)] i,
  fun i => zz_gd [(1078, 1078), (0, 128)] i,
  fun _ => (0, 65535),
  fun i => zz_gd [(0, 3), (2, 8), (1080, 1080), (1081, 1081), (1082, 1082), (1083, 1083), (1084, 1084), (0, 600), (1085, 1085), (1086, 1086), (0, 1000000), (1087, 1087), (1088, 1088), (1089, 1089), (0, 4), (-1, 600), (-2147483648, 2147483647), (1090, 1090), (1091, 1091), (-1, 600), (1092, 1092), (1093, 1093), (1094, 1094), (1095, 1095), (1096, 1096), (1097, 1097), (1098, 1098), (1099, 1099), (0, 1500), (1100, 1100), (0, 102), (0, 9999), (0, 1500), (0, 1500), (0, 200), (1101, 1101), (0, 11), (1102, 1102), (1103, 1103), (1104, 1104), (1105, 1105), (1106, 1106), (1107, 1107), (1108, 1108), (1109, 1109), (1110, 1110), (1111, 1111), (1112, 1112), (1113, 1113), (1114, 1114), (-2147483648, 2147483647), (-2147483648, 2147483647), (-2147483648, 2147483647), (-2147483648, 2147483647), (-2147483648, 2147483647), (-2147483648, 2147483647), (-2147483648, 2147483647), (-2147483648, 2147483647), (1115, 1115), (1116, 1116), (-2147483648, 2147483647), (-9223372036854775808, 9223372036854775807), (1117, 1117), (1118, 1118), (-9223372036854775808, 9223372036854775807), (0, 255), (0, 11), (1119, 1119), (1120, 1120)] i,
  fun _ => (-2147483648, 2147483647),
  fun _ => (-2147483648, 2147483647),
  fun _ => (-2147483648, 2147483647),
  fun _ => (-2147483648, 2147483647),
  fun _ => (-2147483648, 2147483647),
  fun _ => (-9223372036854775808, 9223372036854775807),
  fun _ => (-9223372036854775808, 9223372036854775807),
  fun _ => (-2147483648, 2147483647),
  fun _ => (-2147483648, 2147483647),
  fun _ => (-2147483648, 2147483647),
  fun _ => (-2147483648, 2147483647),
  fun _ => (-2147483648, 2147483647),
  fun _ => (-2147483648, 2147483647),
  fun _ => (-2147483648, 2147483647),
  fun _ => (-2147483648, 2147483647),
  fun _ => (0, 1),
  fun _ => (-2147483648, 2147483647),
  fun _ => (-1, 600),
  fun _ => (-1, 601),
  fun _ => (0, 255),
  fun _ => (0, 1099511627775),
  fun _ => (-2147483648, 2147483647),
  fun _ => (0, 63),
  fun _ => (0, 63),
  fun _ => (0, 63),
  fun i => (0, if i = 0 then 0 else 10000000),
  fun _ => (0, 2),
  fun _ => (0, 10),
  fun _ => (0, 10),
  fun _ => (0, 3),
  fun _ => (0, 3),
  fun _ => (0, 3),
  fun _ => (0, 1),
  fun _ => (0, 31),
  fun _ => (0, 4096),
  fun _ => (-2147483648, 2147483647),
  fun _ => (-2147483648, 2147483647),
  fun _ => (-9223372036854775808, 9223372036854775807),
  fun _ => (0, 9999),
  fun i => (0, if i < 12 then 63 else if i < 24 then 63 else if i < 36 then 63 else if i < 37 then 0 else if i < 48 then 10000000 else if i < 59 then 2 else if i < 70 then 10 else if i < 81 then 10 else if i < 92 then 3 else if i < 103 then 3 else if i < 114 then 3 else if i < 125 then 1 else if i < 136 then 31 else 4096),
  fun i => (0, if i = 0 then 0 else 10000000),
  fun _ => (-9223372036854775808, 9223372036854775807)]
def zz_rg (a i : Nat) : Int × Int := (zz_rt.getD (a - 1000) (fun _ => (-9223372036854775808, 9223372036854775807))) i
abbrev zz_end : Nat := 1122
end
section
/-! Rows over whole numbers and the state of cells. By program (wip/zz/gen41.py). -/
def zz_rg32 (z : Int) : Prop := -2147483648 ≤ z ∧ z ≤ 2147483647
def zz_rg64 (z : Int) : Prop := -9223372036854775808 ≤ z ∧ z ≤ 9223372036854775807
theorem zz_t32 {z : Int} (h : -2147483648 ≤ z ∧ z ≤ 2147483647) : (Int32.ofInt z).toInt = z := Int32.toInt_ofInt_of_le (by omega) (by omega)
theorem zz_t64 {z : Int} (h : -9223372036854775808 ≤ z ∧ z ≤ 9223372036854775807) : (Int64.ofInt z).toInt = z := Int64.toInt_ofInt_of_le (by omega) (by omega)
theorem zz_r32 (x : Int32) : -2147483648 ≤ x.toInt ∧ x.toInt ≤ 2147483647 := by
  have h1 := x.le_toInt
  have h2 := x.toInt_lt
  omega
theorem zz_r64 (x : Int64) : -9223372036854775808 ≤ x.toInt ∧ x.toInt ≤ 9223372036854775807 := by
  have h1 := x.le_toInt
  have h2 := x.toInt_lt
  omega
theorem zz_lt32 {a b : Int} (ha : -2147483648 ≤ a ∧ a ≤ 2147483647) (hb : -2147483648 ≤ b ∧ b ≤ 2147483647) : Int32.ofInt a < Int32.ofInt b ↔ a < b := by
  rw [Int32.lt_iff_toInt_lt, zz_t32 ha, zz_t32 hb]
theorem zz_le32 {a b : Int} (ha : -2147483648 ≤ a ∧ a ≤ 2147483647) (hb : -2147483648 ≤ b ∧ b ≤ 2147483647) : Int32.ofInt a ≤ Int32.ofInt b ↔ a ≤ b := by
  rw [Int32.le_iff_toInt_le, zz_t32 ha, zz_t32 hb]
theorem zz_eq32 {a b : Int} (ha : -2147483648 ≤ a ∧ a ≤ 2147483647) (hb : -2147483648 ≤ b ∧ b ≤ 2147483647) : Int32.ofInt a = Int32.ofInt b ↔ a = b := by
  rw [← Int32.toInt_inj, zz_t32 ha, zz_t32 hb]
theorem zz_bm32 (z : Int) : Int32.ofInt (Int32.ofInt z).toInt = Int32.ofInt z := Int32.ofInt_toInt _
theorem zz_nm32 (x : Int32) : x = Int32.ofInt x.toInt := (Int32.ofInt_toInt x).symm
theorem zz_nm64 (x : Int64) : x = Int64.ofInt x.toInt := (Int64.ofInt_toInt x).symm
def zz_fv (kd : Nat) (z : Int) : Value := match kd with
  | 0 => zi z
  | 1 => zl z
  | kd => if z < 0 then .null else .ref (zz_rf kd z)
def zz_av (N kd : Nat) (f : Nat → Int) : vp_A := match kd with
  | 0 => (N, .inl (fun i => Int32.ofInt (f i)))
  | 1 => (N, .inr (.inl (fun i => Int64.ofInt (f i))))
  | kd => (N, .inr (.inr (.inr (.inr (fun i => if f i < 0 then none else some (zz_rf kd (f i)))))))
def zz_fs (ks : List Nat) (f : Nat → Int) : List Value := ks.mapIdx (fun i kd => zz_fv kd (f i))
def zz_en (L : zz_L) (f : Nat → Int) : mm_E := match L with
  | .inl (ci, ks) => .inr (ci, zz_fs ks f)
  | .inr (t, N, kd) => .inl (t, zz_av N kd f)
def zz_M (S : zz_S) (n : Nat) : mm_M := fun a => if a < n then (zz_T a).map (fun L => zz_en L (S a)) else none
def zz_st (S : zz_S) (a i : Nat) (z : Int) : zz_S := fun b j => if b = a ∧ j = i then z else S b j
theorem zz_st_s {S : zz_S} {a i : Nat} {z : Int} : zz_st S a i z a i = z := by simp [zz_st]
theorem zz_st_n {S : zz_S} {a i b j : Nat} {z : Int} (h : ¬ (b = a ∧ j = i)) : zz_st S a i z b j = S b j := by simp only [zz_st, if_neg h]
theorem zz_M_at {S : zz_S} {n a : Nat} {L : zz_L} (hn : a < n) (hT : zz_T a = some L) : zz_M S n a = some (zz_en L (S a)) := by
  simp only [zz_M, if_pos hn, hT, Option.map_some]
theorem zz_M_st {S : zz_S} {n a i : Nat} {z : Int} {L : zz_L} (hn : a < n) (hT : zz_T a = some L) : zz_M (zz_st S a i z) n = mm_up (zz_M S n) a (zz_en L (zz_st S a i z a)) := by
  funext b
  by_cases h : b = a
  · subst h
    rw [mm_up_s, zz_M_at hn hT]
  · rw [mm_up_n h]
    simp only [zz_M]
    split
    · congr 1
      funext L
      congr 1
      funext j
      exact zz_st_n (fun q => h q.1)
    · rfl
theorem zz_fs_at {ks : List Nat} {f : Nat → Int} {i kd : Nat} (h : ks[i]? = some kd) : (zz_fs ks f)[i]? = some (zz_fv kd (f i)) := by
  simp only [zz_fs, List.getElem?_mapIdx, h, Option.map_some]
theorem zz_fs_len {ks : List Nat} {f : Nat → Int} : (zz_fs ks f).length = ks.length := by simp [zz_fs]
theorem zz_fs_set {ks : List Nat} {S : zz_S} {a i kd : Nat} {z : Int} (h : ks[i]? = some kd) : zz_fs ks (zz_st S a i z a) = (zz_fs ks (S a)).set i (zz_fv kd z) := by
  apply List.ext_getElem?
  intro q
  rw [List.getElem?_set]
  simp only [zz_fs, List.getElem?_mapIdx, List.length_mapIdx]
  by_cases hq : i = q
  · subst hq
    have hl : i < ks.length := by
      rcases Nat.lt_or_ge i ks.length with z | z
      · exact z
      · rw [List.getElem?_eq_none z] at h; cases h
    rw [if_pos rfl, if_pos hl, h]
    simp [zz_st]
  · rw [if_neg hq]
    have : ¬ q = i := fun z => hq z.symm
    simp only [zz_st, true_and, if_neg this]
/-- ranges -/
def zz_G (S : zz_S) : Prop := ∀ a i, 1000 ≤ a → (zz_rg a i).1 ≤ S a i ∧ S a i ≤ (zz_rg a i).2
theorem zz_G.at {S : zz_S} (h : zz_G S) (a i : Nat) (lo hi : Int) (e : zz_rg a i = (lo, hi)) (ha : 1000 ≤ a) : lo ≤ S a i ∧ S a i ≤ hi := by
  have := h a i ha
  rw [e] at this
  exact this
theorem zz_G.put {S S1 : zz_S} (h : zz_G S) {a i : Nat} {z : Int} (e : S1 = zz_st S a i z) (lo hi : Int) (er : zz_rg a i = (lo, hi)) (hz : lo ≤ z ∧ z ≤ hi) : zz_G S1 := by
  intro b j hb
  rw [e]
  by_cases q : b = a ∧ j = i
  · obtain ⟨rfl, rfl⟩ := q
    rw [zz_st_s, er]
    exact hz
  · rw [zz_st_n q]
    exact h b j hb
def zz_D (Y : mm_Y) (pc : Nat) (ins : Instr) (len pc1 : Nat) : Prop := decode Y.2.1 pc = .ok (ins, len) ∧ pc + len = pc1
def zz_B (Y : mm_Y) (pc : Nat) (mk : Int → Instr) (tgt pc1 : Nat) : Prop := ∃ off : Int, decode Y.2.1 pc = .ok (mk off, 3) ∧ (pc : Int) + off = (tgt : Int) ∧ pc + 3 = pc1
def zz_E (g : mm_G) (l : Launch) (Y : mm_Y) (rm : Room) (Q : mm_O → Prop) (S : zz_S) (n pc : Nat) (ls : List (Option Value)) (st : List Value) (k j : Nat) : Prop := mm_Ev g l Y rm Q pc ls st (zz_M S n) n k j
section ZZ
variable {g : mm_G} {l : Launch} {Y : mm_Y} {rm : Room} {Q : mm_O → Prop} {pc pc1 : Nat} {ls : List (Option Value)} {st : List Value} {S : zz_S} {n k j : Nat}
theorem zz_rw {M : mm_M} {p0 : Nat} (e : p0 = pc1) (h : mm_Ev g l Y rm Q pc1 ls st M n k j) : mm_Ev g l Y rm Q p0 ls st M n k j := e ▸ h
theorem zz_iconst {z : Int} (hd : zz_D Y pc (.iconst z) 1 pc1) (kk : zz_E g l Y rm Q S n pc1 ls (zi z :: st) k j) : zz_E g l Y rm Q S n pc ls st k j :=
  mm_iconst rfl hd.1 (zz_rw hd.2 kk)
theorem zz_b8 {z : Int} (h : -128 ≤ z ∧ z < 128) : (Int8.ofInt z).toInt32 = Int32.ofInt z := by
  rw [← Int32.ofInt_int8ToInt, Int8.toInt_ofInt_of_le (by omega) (by omega)]
theorem zz_b16 {z : Int} (h : -32768 ≤ z ∧ z < 32768) : (Int16.ofInt z).toInt32 = Int32.ofInt z := by
  rw [← Int32.ofInt_int16ToInt, Int16.toInt_ofInt_of_le (by omega) (by omega)]
theorem zz_bipush {z : Int} (hz : -128 ≤ z ∧ z < 128) (hd : zz_D Y pc (.bipush z) 2 pc1) (kk : zz_E g l Y rm Q S n pc1 ls (zi z :: st) k j) : zz_E g l Y rm Q S n pc ls st k j :=
  mm_bipush (zz_b8 hz) hd.1 (zz_rw hd.2 kk)
theorem zz_sipush {z : Int} (hz : -32768 ≤ z ∧ z < 32768) (hd : zz_D Y pc (.sipush z) 3 pc1) (kk : zz_E g l Y rm Q S n pc1 ls (zi z :: st) k j) : zz_E g l Y rm Q S n pc ls st k j :=
  mm_sipush (zz_b16 hz) hd.1 (zz_rw hd.2 kk)
theorem zz_lconst {q : Fin 2} {z : Int} (hz : Int64.ofNat (q : Nat) = Int64.ofInt z) (hd : zz_D Y pc (.lconst q) 1 pc1) (kk : zz_E g l Y rm Q S n pc1 ls (zl z :: st) k j) : zz_E g l Y rm Q S n pc ls st k j :=
  mm_lconst hz hd.1 (zz_rw hd.2 kk)
theorem zz_ldc {index : Nat} {z : Int} {v : Int32} (hw : Cond.constant Y.1.cls index v ∈ mm_tb) (hz : v = Int32.ofInt z) (hd : zz_D Y pc (.ldc index) 2 pc1) (kk : zz_E g l Y rm Q S n pc1 ls (zi z :: st) k j) : zz_E g l Y rm Q S n pc ls st k j :=
  mm_ldc hd.1 hw (zz_rw hd.2 (by subst hz; exact kk))
theorem zz_ldc2 {index : Nat} {z : Int} {v : Int64} (hw : Cond.constantLong Y.1.cls index v ∈ mm_tb) (hz : v = Int64.ofInt z) (hd : zz_D Y pc (.ldc2_w index) 3 pc1) (kk : zz_E g l Y rm Q S n pc1 ls (zl z :: st) k j) : zz_E g l Y rm Q S n pc ls st k j :=
  mm_ldc2 hd.1 hw (zz_rw hd.2 (by subst hz; exact kk))
theorem zz_ldcs {index t : Nat} (hw : (Y.1.cls, index, t) ∈ mm_strs) (ht : t < 900) (hd : zz_D Y pc (.ldc index) 2 pc1) (kk : zz_E g l Y rm Q S n pc1 ls (.ref (100 + t) :: st) k j) : zz_E g l Y rm Q S n pc ls st k j :=
  mm_ldcs hd.1 hw ht (zz_rw hd.2 kk)
theorem zz_iload_n {q : Fin 4} {x : Int} (hv : mm_lg ls (q : Nat) = some (zi x)) (hd : zz_D Y pc (.iload_n q) 1 pc1) (kk : zz_E g l Y rm Q S n pc1 ls (zi x :: st) k j) : zz_E g l Y rm Q S n pc ls st k j :=
  mm_iload_n hv hd.1 (zz_rw hd.2 kk)
theorem zz_iload {i : Nat} {x : Int} (hv : mm_lg ls i = some (zi x)) (hd : zz_D Y pc (.iload i) 2 pc1) (kk : zz_E g l Y rm Q S n pc1 ls (zi x :: st) k j) : zz_E g l Y rm Q S n pc ls st k j :=
  mm_iload hv hd.1 (zz_rw hd.2 kk)
theorem zz_istore_n {q : Fin 4} {x : Int} (ls1 : List (Option Value)) (hd : zz_D Y pc (.istore_n q) 1 pc1) (hn : (q : Nat) < Y.2.2.1) (hl : mm_st1 ls (q : Nat) (zi x) = ls1) (kk : zz_E g l Y rm Q S n pc1 ls1 st k j) : zz_E g l Y rm Q S n pc ls (zi x :: st) k j :=
  mm_istore_n hd.1 hn hl (zz_rw hd.2 kk)
theorem zz_istore {i : Nat} {x : Int} (ls1 : List (Option Value)) (hd : zz_D Y pc (.istore i) 2 pc1) (hn : i < Y.2.2.1) (hl : mm_st1 ls i (zi x) = ls1) (kk : zz_E g l Y rm Q S n pc1 ls1 st k j) : zz_E g l Y rm Q S n pc ls (zi x :: st) k j :=
  mm_istore hd.1 hn hl (zz_rw hd.2 kk)
theorem zz_lload_n {q : Fin 4} {x : Int} (hv : mm_lg ls (q : Nat) = some (zl x)) (hd : zz_D Y pc (.lload_n q) 1 pc1) (kk : zz_E g l Y rm Q S n pc1 ls (zl x :: st) k j) : zz_E g l Y rm Q S n pc ls st k j :=
  mm_lload_n hv hd.1 (zz_rw hd.2 kk)
theorem zz_lload {i : Nat} {x : Int} (hv : mm_lg ls i = some (zl x)) (hd : zz_D Y pc (.lload i) 2 pc1) (kk : zz_E g l Y rm Q S n pc1 ls (zl x :: st) k j) : zz_E g l Y rm Q S n pc ls st k j :=
  mm_lload hv hd.1 (zz_rw hd.2 kk)
theorem zz_lstore_n {q : Fin 4} {x : Int} (ls1 : List (Option Value)) (hd : zz_D Y pc (.lstore_n q) 1 pc1) (hn : (q : Nat) + 1 < Y.2.2.1) (hl : mm_st2 ls (q : Nat) (zl x) = ls1) (kk : zz_E g l Y rm Q S n pc1 ls1 st k j) : zz_E g l Y rm Q S n pc ls (zl x :: st) k j :=
  mm_lstore_n hd.1 hn hl (zz_rw hd.2 kk)
theorem zz_lstore {i : Nat} {x : Int} (ls1 : List (Option Value)) (hd : zz_D Y pc (.lstore i) 2 pc1) (hn : i + 1 < Y.2.2.1) (hl : mm_st2 ls i (zl x) = ls1) (kk : zz_E g l Y rm Q S n pc1 ls1 st k j) : zz_E g l Y rm Q S n pc ls (zl x :: st) k j :=
  mm_lstore hd.1 hn hl (zz_rw hd.2 kk)
theorem zz_aload_n {q : Fin 4} {x : Nat} (hv : mm_lg ls (q : Nat) = some (.ref x)) (hd : zz_D Y pc (.aload_n q) 1 pc1) (kk : zz_E g l Y rm Q S n pc1 ls (.ref x :: st) k j) : zz_E g l Y rm Q S n pc ls st k j :=
  mm_aload_n hv hd.1 (zz_rw hd.2 kk)
theorem zz_aload {i : Nat} {x : Nat} (hv : mm_lg ls i = some (.ref x)) (hd : zz_D Y pc (.aload i) 2 pc1) (kk : zz_E g l Y rm Q S n pc1 ls (.ref x :: st) k j) : zz_E g l Y rm Q S n pc ls st k j :=
  mm_aload hv hd.1 (zz_rw hd.2 kk)
theorem zz_astore_n {q : Fin 4} {x : Nat} (ls1 : List (Option Value)) (hd : zz_D Y pc (.astore_n q) 1 pc1) (hn : (q : Nat) < Y.2.2.1) (hl : mm_st1 ls (q : Nat) (.ref x) = ls1) (kk : zz_E g l Y rm Q S n pc1 ls1 st k j) : zz_E g l Y rm Q S n pc ls (.ref x :: st) k j :=
  mm_astore_n hd.1 hn hl (zz_rw hd.2 kk)
theorem zz_astore {i : Nat} {x : Nat} (ls1 : List (Option Value)) (hd : zz_D Y pc (.astore i) 2 pc1) (hn : i < Y.2.2.1) (hl : mm_st1 ls i (.ref x) = ls1) (kk : zz_E g l Y rm Q S n pc1 ls1 st k j) : zz_E g l Y rm Q S n pc ls (.ref x :: st) k j :=
  mm_astore hd.1 hn hl (zz_rw hd.2 kk)
theorem zz_iinc {i : Nat} {c x : Int} (ls1 : List (Option Value)) (hd : zz_D Y pc (.iinc i c) 3 pc1) (hg : mm_lg ls i = some (zi x)) (hl : mm_st1 ls i (zi (x + c)) = ls1) (kk : zz_E g l Y rm Q S n pc1 ls1 st k j) : zz_E g l Y rm Q S n pc ls st k j :=
  mm_iinc hd.1 hg (Int32.ofInt_add x c).symm hl (zz_rw hd.2 kk)
theorem zz_iadd {x y : Int} (hd : zz_D Y pc .iadd 1 pc1) (kk : zz_E g l Y rm Q S n pc1 ls (zi (x + y) :: st) k j) : zz_E g l Y rm Q S n pc ls (zi y :: zi x :: st) k j :=
  mm_iadd hd.1 (zz_rw hd.2 (by rw [← Int32.ofInt_add]; exact kk))
theorem zz_ladd {x y : Int} (hd : zz_D Y pc .ladd 1 pc1) (kk : zz_E g l Y rm Q S n pc1 ls (zl (x + y) :: st) k j) : zz_E g l Y rm Q S n pc ls (zl y :: zl x :: st) k j :=
  mm_ladd hd.1 (zz_rw hd.2 (by rw [← Int64.ofInt_add]; exact kk))
theorem zz_isub {x y : Int} (hd : zz_D Y pc .isub 1 pc1) (kk : zz_E g l Y rm Q S n pc1 ls (zi (x - y) :: st) k j) : zz_E g l Y rm Q S n pc ls (zi y :: zi x :: st) k j :=
  mm_isub hd.1 (zz_rw hd.2 (by rw [← Int32.ofInt_sub]; exact kk))
theorem zz_lsub {x y : Int} (hd : zz_D Y pc .lsub 1 pc1) (kk : zz_E g l Y rm Q S n pc1 ls (zl (x - y) :: st) k j) : zz_E g l Y rm Q S n pc ls (zl y :: zl x :: st) k j :=
  mm_lsub hd.1 (zz_rw hd.2 (by rw [← Int64.ofInt_sub]; exact kk))
theorem zz_imul {x y : Int} (hd : zz_D Y pc .imul 1 pc1) (kk : zz_E g l Y rm Q S n pc1 ls (zi (x * y) :: st) k j) : zz_E g l Y rm Q S n pc ls (zi y :: zi x :: st) k j :=
  mm_imul hd.1 (zz_rw hd.2 (by rw [← Int32.ofInt_mul]; exact kk))
theorem zz_lmul {x y : Int} (hd : zz_D Y pc .lmul 1 pc1) (kk : zz_E g l Y rm Q S n pc1 ls (zl (x * y) :: st) k j) : zz_E g l Y rm Q S n pc ls (zl y :: zl x :: st) k j :=
  mm_lmul hd.1 (zz_rw hd.2 (by rw [← Int64.ofInt_mul]; exact kk))
theorem zz_ineg {x : Int} (hd : zz_D Y pc .ineg 1 pc1) (kk : zz_E g l Y rm Q S n pc1 ls (zi (-x) :: st) k j) : zz_E g l Y rm Q S n pc ls (zi x :: st) k j :=
  mm_ineg hd.1 (zz_rw hd.2 (by rw [← Int32.ofInt_neg]; exact kk))
theorem zz_nrm {e : Int} (kk : ∀ v : Int, (-2147483648 ≤ v ∧ v ≤ 2147483647) → (-2147483648 ≤ e ∧ e ≤ 2147483647 → v = e) → zz_E g l Y rm Q S n pc ls (zi v :: st) k j) : zz_E g l Y rm Q S n pc ls (zi e :: st) k j := by
  have h := kk (Int32.ofInt e).toInt (zz_r32 _) (fun h => zz_t32 h)
  unfold zi at h
  rw [zz_bm32] at h
  exact h
theorem zz_nrml {e : Int} (kk : ∀ v : Int, (-9223372036854775808 ≤ v ∧ v ≤ 9223372036854775807) → (-9223372036854775808 ≤ e ∧ e ≤ 9223372036854775807 → v = e) → zz_E g l Y rm Q S n pc ls (zl v :: st) k j) : zz_E g l Y rm Q S n pc ls (zl e :: st) k j := by
  have h := kk (Int64.ofInt e).toInt (zz_r64 _) (fun h => zz_t64 h)
  unfold zl at h
  rw [Int64.ofInt_toInt] at h
  exact h
theorem zz_eqv {e v : Int} (h : e = v) (kk : zz_E g l Y rm Q S n pc ls (zi v :: st) k j) : zz_E g l Y rm Q S n pc ls (zi e :: st) k j := h ▸ kk
theorem zz_div32 {x y : Int} (hx : -2147483648 ≤ x ∧ x ≤ 2147483647) (hy : 0 < y ∧ y ≤ 2147483647) : Int32.ofInt x / Int32.ofInt y = Int32.ofInt (x.tdiv y) := by
  apply Int32.toInt_inj.mp
  have hb : Int32.ofInt y ≠ -1 := fun h => by
    have h2 := congrArg Int32.toInt h
    rw [zz_t32 (by omega)] at h2
    have : (-1 : Int32).toInt = -1 := by decide
    omega
  rw [Int32.toInt_div_of_ne_right _ _ hb, zz_t32 hx, zz_t32 (by omega)]
  have h1 := Int.tdiv_le_self (a := x) 
  rw [zz_t32]
  have h3 := Int.natAbs_tdiv_le_natAbs x y
  have h4 : (x.tdiv y).natAbs ≤ x.natAbs := h3
  by_cases h0 : 0 ≤ x
  · have := Int.tdiv_nonneg h0 (Int.le_of_lt hy.1)
    omega
  · have := Int.tdiv_nonneg (by omega : 0 ≤ -x) (Int.le_of_lt hy.1)
    rw [Int.neg_tdiv] at this
    omega
theorem zz_ne0 {y : Int} (hy : 0 < y ∧ y ≤ 2147483647) : ¬ Int32.ofInt y = 0 := fun h => by
  have h2 := congrArg Int32.toInt h
  rw [zz_t32 (by omega)] at h2
  have : (0 : Int32).toInt = 0 := by decide
  omega
theorem zz_idiv {x y : Int} (hx : -2147483648 ≤ x ∧ x ≤ 2147483647) (hy : 0 < y ∧ y ≤ 2147483647) (hd : zz_D Y pc .idiv 1 pc1) (kk : ∀ v : Int, (-2147483648 ≤ v ∧ v ≤ 2147483647) → v = x.tdiv y → (0 ≤ x → v = x / y) → (x ≤ 0 → v = -((-x) / y)) → zz_E g l Y rm Q S n pc1 ls (zi v :: st) k j) : zz_E g l Y rm Q S n pc ls (zi y :: zi x :: st) k j := by
  refine mm_idiv (zz_ne0 hy) hd.1 (zz_rw hd.2 ?_)
  rw [zz_div32 hx hy]
  refine kk (x.tdiv y) ?_ rfl (fun h => Int.tdiv_eq_ediv_of_nonneg h) (fun h => ?_)
  · have h3 := Int.natAbs_tdiv_le_natAbs x y
    by_cases h0 : 0 ≤ x
    · have := Int.tdiv_nonneg h0 (Int.le_of_lt hy.1)
      omega
    · have := Int.tdiv_nonneg (by omega : 0 ≤ -x) (Int.le_of_lt hy.1)
      rw [Int.neg_tdiv] at this
      omega
  · rw [← Int.tdiv_eq_ediv_of_nonneg (by omega : 0 ≤ -x), Int.neg_tdiv, Int.neg_neg]
theorem zz_irem {x y : Int} (hx : -2147483648 ≤ x ∧ x ≤ 2147483647) (hy : 0 < y ∧ y ≤ 2147483647) (hd : zz_D Y pc .irem 1 pc1) (kk : ∀ v : Int, (-y < v ∧ v < y) → v = x.tmod y → (0 ≤ x → v = x % y) → (x ≤ 0 → v = -((-x) % y)) → zz_E g l Y rm Q S n pc1 ls (zi v :: st) k j) : zz_E g l Y rm Q S n pc ls (zi y :: zi x :: st) k j := by
  refine mm_irem (zz_ne0 hy) hd.1 (zz_rw hd.2 ?_)
  rw [zz_div32 hx hy, ← Int32.ofInt_mul, ← Int32.ofInt_sub]
  have e : x - x.tdiv y * y = x.tmod y := by
    have := Int.tdiv_mul_add_tmod x y
    omega
  rw [e]
  have hneg : x ≤ 0 → x.tmod y = -((-x) % y) := fun h => by
    rw [← Int.tmod_eq_emod_of_nonneg (by omega : 0 ≤ -x), Int.neg_tmod, Int.neg_neg]
  refine kk (x.tmod y) ?_ rfl (fun h => Int.tmod_eq_emod_of_nonneg h) hneg
  rcases Int.le_total 0 x with h | h
  · rw [Int.tmod_eq_emod_of_nonneg h]
    have h1 := Int.emod_nonneg x (by omega : y ≠ 0)
    have h2 := Int.emod_lt_of_pos x hy.1
    omega
  · rw [hneg h]
    have h1 := Int.emod_nonneg (-x) (by omega : y ≠ 0)
    have h2 := Int.emod_lt_of_pos (-x) hy.1
    omega
theorem zz_and32 (x y : Int32) : (0 ≤ x.toInt → 0 ≤ (x &&& y).toInt ∧ (x &&& y).toInt ≤ x.toInt) ∧ (0 ≤ y.toInt → 0 ≤ (x &&& y).toInt ∧ (x &&& y).toInt ≤ y.toInt) := by
  have key : ∀ x y : Int32, 0 ≤ x.toInt → 0 ≤ (x &&& y).toInt ∧ (x &&& y).toInt ≤ x.toInt := by
    intro x y h
    have h1 : x.toBitVec.toInt = x.toInt := rfl
    have h2 : (x &&& y).toInt = (x.toBitVec &&& y.toBitVec).toInt := by rw [← Int32.toInt_toBitVec, Int32.toBitVec_and]
    have hm : x.toBitVec.msb = false := by
      rw [BitVec.msb_eq_toInt]
      simpa [h1] using h
    have hm2 : (x.toBitVec &&& y.toBitVec).msb = false := by rw [BitVec.msb_and, hm]; rfl
    rw [h2, ← h1, BitVec.toInt_eq_toNat_of_msb hm2, BitVec.toInt_eq_toNat_of_msb hm, BitVec.toNat_and]
    have := @Nat.and_le_left x.toBitVec.toNat y.toBitVec.toNat
    omega
  refine ⟨key x y, fun h => ?_⟩
  have := key y x h
  rw [Int32.and_comm y x] at this
  exact this
theorem zz_or32 (x y : Int32) : (0 ≤ x.toInt → 0 ≤ y.toInt → 0 ≤ (x ||| y).toInt) := by
  intro hx hy
  have h1 : x.toBitVec.toInt = x.toInt := rfl
  have h1y : y.toBitVec.toInt = y.toInt := rfl
  have h2 : (x ||| y).toInt = (x.toBitVec ||| y.toBitVec).toInt := by rw [← Int32.toInt_toBitVec, Int32.toBitVec_or]
  have hm : x.toBitVec.msb = false := by rw [BitVec.msb_eq_toInt]; simpa [h1] using hx
  have hmy : y.toBitVec.msb = false := by rw [BitVec.msb_eq_toInt]; simpa [h1y] using hy
  have hm2 : (x.toBitVec ||| y.toBitVec).msb = false := by rw [BitVec.msb_or, hm, hmy]; rfl
  rw [h2, BitVec.toInt_eq_toNat_of_msb hm2]
  omega
theorem zz_iand {x y : Int} (hx : -2147483648 ≤ x ∧ x ≤ 2147483647) (hy : -2147483648 ≤ y ∧ y ≤ 2147483647) (hd : zz_D Y pc .iand 1 pc1) (kk : ∀ v : Int, (-2147483648 ≤ v ∧ v ≤ 2147483647) → (0 ≤ x → 0 ≤ v ∧ v ≤ x) → (0 ≤ y → 0 ≤ v ∧ v ≤ y) → v = (Int32.ofInt x &&& Int32.ofInt y).toInt → zz_E g l Y rm Q S n pc1 ls (zi v :: st) k j) : zz_E g l Y rm Q S n pc ls (zi y :: zi x :: st) k j := by
  refine mm_iand hd.1 (zz_rw hd.2 ?_)
  have h := zz_and32 (Int32.ofInt x) (Int32.ofInt y)
  rw [zz_t32 hx, zz_t32 hy] at h
  rw [zz_nm32 (Int32.ofInt x &&& Int32.ofInt y)]
  exact kk _ (zz_r32 _) h.1 h.2 rfl
theorem zz_ior {x y : Int} (hx : -2147483648 ≤ x ∧ x ≤ 2147483647) (hy : -2147483648 ≤ y ∧ y ≤ 2147483647) (hd : zz_D Y pc .ior 1 pc1) (kk : ∀ v : Int, (-2147483648 ≤ v ∧ v ≤ 2147483647) → (0 ≤ x → 0 ≤ y → 0 ≤ v) → v = (Int32.ofInt x ||| Int32.ofInt y).toInt → zz_E g l Y rm Q S n pc1 ls (zi v :: st) k j) : zz_E g l Y rm Q S n pc ls (zi y :: zi x :: st) k j := by
  refine mm_ior hd.1 (zz_rw hd.2 ?_)
  have h := zz_or32 (Int32.ofInt x) (Int32.ofInt y)
  rw [zz_t32 hx, zz_t32 hy] at h
  rw [zz_nm32 (Int32.ofInt x ||| Int32.ofInt y)]
  exact kk _ (zz_r32 _) h rfl
theorem zz_ixor {x y : Int} (hd : zz_D Y pc .ixor 1 pc1) (kk : ∀ v : Int, (-2147483648 ≤ v ∧ v ≤ 2147483647) → v = (Int32.ofInt x ^^^ Int32.ofInt y).toInt → zz_E g l Y rm Q S n pc1 ls (zi v :: st) k j) : zz_E g l Y rm Q S n pc ls (zi y :: zi x :: st) k j := by
  refine mm_ixor hd.1 (zz_rw hd.2 ?_)
  rw [zz_nm32 (Int32.ofInt x ^^^ Int32.ofInt y)]
  exact kk _ (zz_r32 _) rfl
theorem zz_ishl {x y : Int} (hd : zz_D Y pc .ishl 1 pc1) (kk : ∀ v : Int, (-2147483648 ≤ v ∧ v ≤ 2147483647) → v = (Int32.ofInt x <<< (Int32.ofInt y &&& 31)).toInt → zz_E g l Y rm Q S n pc1 ls (zi v :: st) k j) : zz_E g l Y rm Q S n pc ls (zi y :: zi x :: st) k j := by
  refine mm_ishl hd.1 (zz_rw hd.2 ?_)
  rw [zz_nm32 (Int32.ofInt x <<< (Int32.ofInt y &&& 31))]
  exact kk _ (zz_r32 _) rfl
theorem zz_ishr {x y : Int} (hd : zz_D Y pc .ishr 1 pc1) (kk : ∀ v : Int, (-2147483648 ≤ v ∧ v ≤ 2147483647) → v = (Int32.ofInt x >>> (Int32.ofInt y &&& 31)).toInt → zz_E g l Y rm Q S n pc1 ls (zi v :: st) k j) : zz_E g l Y rm Q S n pc ls (zi y :: zi x :: st) k j := by
  refine mm_ishr hd.1 (zz_rw hd.2 ?_)
  rw [zz_nm32 (Int32.ofInt x >>> (Int32.ofInt y &&& 31))]
  exact kk _ (zz_r32 _) rfl
theorem zz_iushr {x y : Int} (hd : zz_D Y pc .iushr 1 pc1) (kk : ∀ v : Int, (-2147483648 ≤ v ∧ v ≤ 2147483647) → v = (((Int32.ofInt x).toUInt32 >>> ((Int32.ofInt y).toUInt32 &&& Int32.toUInt32 31)).toInt32).toInt → zz_E g l Y rm Q S n pc1 ls (zi v :: st) k j) : zz_E g l Y rm Q S n pc ls (zi y :: zi x :: st) k j := by
  refine mm_iushr rfl hd.1 (zz_rw hd.2 ?_)
  rw [zz_nm32 (((Int32.ofInt x).toUInt32 >>> ((Int32.ofInt y).toUInt32 &&& Int32.toUInt32 31)).toInt32)]
  exact kk _ (zz_r32 _) rfl
theorem zz_land {x y : Int} (hd : zz_D Y pc .land 1 pc1) (kk : ∀ v : Int, (-9223372036854775808 ≤ v ∧ v ≤ 9223372036854775807) → v = (Int64.ofInt x &&& Int64.ofInt y).toInt → zz_E g l Y rm Q S n pc1 ls (zl v :: st) k j) : zz_E g l Y rm Q S n pc ls (zl y :: zl x :: st) k j := by
  refine mm_land hd.1 (zz_rw hd.2 ?_)
  rw [zz_nm64 (Int64.ofInt x &&& Int64.ofInt y)]
  exact kk _ (zz_r64 _) rfl
theorem zz_lor {x y : Int} (hd : zz_D Y pc .lor 1 pc1) (kk : ∀ v : Int, (-9223372036854775808 ≤ v ∧ v ≤ 9223372036854775807) → v = (Int64.ofInt x ||| Int64.ofInt y).toInt → zz_E g l Y rm Q S n pc1 ls (zl v :: st) k j) : zz_E g l Y rm Q S n pc ls (zl y :: zl x :: st) k j := by
  refine mm_lor hd.1 (zz_rw hd.2 ?_)
  rw [zz_nm64 (Int64.ofInt x ||| Int64.ofInt y)]
  exact kk _ (zz_r64 _) rfl
theorem zz_lxor {x y : Int} (hd : zz_D Y pc .lxor 1 pc1) (kk : ∀ v : Int, (-9223372036854775808 ≤ v ∧ v ≤ 9223372036854775807) → v = (Int64.ofInt x ^^^ Int64.ofInt y).toInt → zz_E g l Y rm Q S n pc1 ls (zl v :: st) k j) : zz_E g l Y rm Q S n pc ls (zl y :: zl x :: st) k j := by
  refine mm_lxor hd.1 (zz_rw hd.2 ?_)
  rw [zz_nm64 (Int64.ofInt x ^^^ Int64.ofInt y)]
  exact kk _ (zz_r64 _) rfl
theorem zz_lshl {x y : Int} (hd : zz_D Y pc .lshl 1 pc1) (kk : ∀ v : Int, (-9223372036854775808 ≤ v ∧ v ≤ 9223372036854775807) → v = (Int64.ofInt x <<< ((Int32.ofInt y).toInt64 &&& 63)).toInt → zz_E g l Y rm Q S n pc1 ls (zl v :: st) k j) : zz_E g l Y rm Q S n pc ls (zi y :: zl x :: st) k j := by
  refine mm_lshl rfl hd.1 (zz_rw hd.2 ?_)
  rw [zz_nm64 (Int64.ofInt x <<< ((Int32.ofInt y).toInt64 &&& 63))]
  exact kk _ (zz_r64 _) rfl
theorem zz_lshr {x y : Int} (hd : zz_D Y pc .lshr 1 pc1) (kk : ∀ v : Int, (-9223372036854775808 ≤ v ∧ v ≤ 9223372036854775807) → v = (Int64.ofInt x >>> ((Int32.ofInt y).toInt64 &&& 63)).toInt → zz_E g l Y rm Q S n pc1 ls (zl v :: st) k j) : zz_E g l Y rm Q S n pc ls (zi y :: zl x :: st) k j := by
  refine mm_lshr rfl hd.1 (zz_rw hd.2 ?_)
  rw [zz_nm64 (Int64.ofInt x >>> ((Int32.ofInt y).toInt64 &&& 63))]
  exact kk _ (zz_r64 _) rfl
theorem zz_lushr {x y : Int} (hd : zz_D Y pc .lushr 1 pc1) (kk : ∀ v : Int, (-9223372036854775808 ≤ v ∧ v ≤ 9223372036854775807) → v = (((Int64.ofInt x).toUInt64 >>> ((Int32.ofInt y).toInt64.toUInt64 &&& Int64.toUInt64 63)).toInt64).toInt → zz_E g l Y rm Q S n pc1 ls (zl v :: st) k j) : zz_E g l Y rm Q S n pc ls (zi y :: zl x :: st) k j := by
  refine mm_lushr rfl hd.1 (zz_rw hd.2 ?_)
  rw [zz_nm64 (((Int64.ofInt x).toUInt64 >>> ((Int32.ofInt y).toInt64.toUInt64 &&& Int64.toUInt64 63)).toInt64)]
  exact kk _ (zz_r64 _) rfl
theorem zz_i2l {x : Int} (hx : -2147483648 ≤ x ∧ x ≤ 2147483647) (hd : zz_D Y pc .i2l 1 pc1) (kk : zz_E g l Y rm Q S n pc1 ls (zl x :: st) k j) : zz_E g l Y rm Q S n pc ls (zi x :: st) k j := by
  refine mm_i2l (v := Int64.ofInt x) ?_ hd.1 (zz_rw hd.2 kk)
  apply Int64.toInt_inj.mp
  rw [Int32.toInt_toInt64, zz_t32 hx, zz_t64 (by omega)]
theorem zz_l2i {x : Int} (hx : -9223372036854775808 ≤ x ∧ x ≤ 9223372036854775807) (hd : zz_D Y pc .l2i 1 pc1) (kk : ∀ v : Int, (-2147483648 ≤ v ∧ v ≤ 2147483647) → (-2147483648 ≤ x ∧ x ≤ 2147483647 → v = x) → v = (Int64.ofInt x).toInt32.toInt → zz_E g l Y rm Q S n pc1 ls (zi v :: st) k j) : zz_E g l Y rm Q S n pc ls (zl x :: st) k j := by
  refine mm_l2i rfl hd.1 (zz_rw hd.2 ?_)
  rw [zz_nm32 (Int64.ofInt x).toInt32]
  refine kk _ (zz_r32 _) (fun h => ?_) rfl
  rw [Int64.toInt_toInt32, zz_t64 hx]
  exact Int.bmod_eq_of_le (by omega) (by omega)
theorem zz_i2b {x : Int} (hd : zz_D Y pc .i2b 1 pc1) (kk : ∀ v : Int, (-128 ≤ v ∧ v ≤ 127) → zz_E g l Y rm Q S n pc1 ls (zi v :: st) k j) : zz_E g l Y rm Q S n pc ls (zi x :: st) k j := by
  refine mm_i2b rfl hd.1 (zz_rw hd.2 ?_)
  rw [zz_nm32 (Int32.ofInt x).toInt8.toInt32]
  refine kk _ ?_
  rw [Int8.toInt_toInt32]
  have h1 := (Int32.ofInt x).toInt8.le_toInt
  have h2 := (Int32.ofInt x).toInt8.toInt_lt
  omega
theorem zz_i2c {x : Int} (hx : 0 ≤ x ∧ x ≤ 65535) (hd : zz_D Y pc .i2c 1 pc1) (kk : zz_E g l Y rm Q S n pc1 ls (zi x :: st) k j) : zz_E g l Y rm Q S n pc ls (zi x :: st) k j := by
  refine mm_i2c (v := Int32.ofInt x) ?_ hd.1 (zz_rw hd.2 kk)
  obtain ⟨m, rfl⟩ := Int.eq_ofNat_of_zero_le hx.1
  have hm : m ≤ 65535 := by omega
  apply Int32.toBitVec_inj.mp
  apply BitVec.eq_of_toNat_eq
  simp only [UInt32.toBitVec_toInt32, UInt32.toBitVec_mod, Int32.toBitVec_toUInt32, Int32.toBitVec_ofInt, BitVec.toNat_umod, BitVec.toNat_ofInt]
  have : (65536 : UInt32).toBitVec.toNat = 65536 := by decide
  rw [this]
  omega
theorem zz_dup {v : Value} (hv : v.category = 1) (hd : zz_D Y pc .dup 1 pc1) (kk : zz_E g l Y rm Q S n pc1 ls (v :: v :: st) k j) : zz_E g l Y rm Q S n pc ls (v :: st) k j :=
  mm_dup hv hd.1 (zz_rw hd.2 kk)
theorem zz_pop {v : Value} (hv : v.category = 1) (hd : zz_D Y pc .pop 1 pc1) (kk : zz_E g l Y rm Q S n pc1 ls st k j) : zz_E g l Y rm Q S n pc ls (v :: st) k j :=
  mm_pop hv hd.1 (zz_rw hd.2 kk)
theorem zz_dup_x1 {v w : Value} (hv : v.category = 1) (hw : w.category = 1) (hd : zz_D Y pc .dup_x1 1 pc1) (kk : zz_E g l Y rm Q S n pc1 ls (v :: w :: v :: st) k j) : zz_E g l Y rm Q S n pc ls (v :: w :: st) k j :=
  mm_dup_x1 hv hw hd.1 (zz_rw hd.2 kk)
theorem zz_dup_x2 {v w u : Value} (hv : v.category = 1) (hw : w.category = 1) (hu : u.category = 1) (hd : zz_D Y pc .dup_x2 1 pc1) (kk : zz_E g l Y rm Q S n pc1 ls (v :: w :: u :: v :: st) k j) : zz_E g l Y rm Q S n pc ls (v :: w :: u :: st) k j :=
  mm_dup_x2 hv hw hu hd.1 (zz_rw hd.2 kk)
theorem zz_dup2_11 {v w : Value} (hv : v.category = 1) (hw : w.category = 1) (hd : zz_D Y pc .dup2 1 pc1) (kk : zz_E g l Y rm Q S n pc1 ls (v :: w :: v :: w :: st) k j) : zz_E g l Y rm Q S n pc ls (v :: w :: st) k j :=
  mm_dup2_11 hv hw hd.1 (zz_rw hd.2 kk)
theorem zz_dup2_2 {v : Value} (hv : v.category = 2) (hd : zz_D Y pc .dup2 1 pc1) (kk : zz_E g l Y rm Q S n pc1 ls (v :: v :: st) k j) : zz_E g l Y rm Q S n pc ls (v :: st) k j :=
  mm_dup2_2 hv hd.1 (zz_rw hd.2 kk)
theorem zz_pop2_2 {v : Value} (hv : v.category = 2) (hd : zz_D Y pc .pop2 1 pc1) (kk : zz_E g l Y rm Q S n pc1 ls st k j) : zz_E g l Y rm Q S n pc ls (v :: st) k j :=
  mm_pop2_2 hv hd.1 (zz_rw hd.2 kk)
theorem zz_dup2_x1_2 {v w : Value} (hv : v.category = 2) (hw : w.category = 1) (hd : zz_D Y pc .dup2_x1 1 pc1) (kk : zz_E g l Y rm Q S n pc1 ls (v :: w :: v :: st) k j) : zz_E g l Y rm Q S n pc ls (v :: w :: st) k j :=
  mm_dup2_x1_2 hv hw hd.1 (zz_rw hd.2 kk)
theorem zz_dup2_x2_2 {v w u : Value} (hv : v.category = 2) (hw : w.category = 1) (hu : u.category = 1) (hd : zz_D Y pc .dup2_x2 1 pc1) (kk : zz_E g l Y rm Q S n pc1 ls (v :: w :: u :: v :: st) k j) : zz_E g l Y rm Q S n pc ls (v :: w :: u :: st) k j :=
  mm_dup2_x2_2 hv hw hu hd.1 (zz_rw hd.2 kk)
theorem zz_cmp {x y : Int} (hx : -9223372036854775808 ≤ x ∧ x ≤ 9223372036854775807) (hy : -9223372036854775808 ≤ y ∧ y ≤ 9223372036854775807) : ∃ v : Int, lg_cmp (Int64.ofInt x) (Int64.ofInt y) = Int32.ofInt v ∧ ((x < y ∧ v = -1) ∨ (x = y ∧ v = 0) ∨ (y < x ∧ v = 1)) := by
  have h1 : Int64.ofInt x < Int64.ofInt y ↔ x < y := by rw [Int64.lt_iff_toInt_lt, zz_t64 hx, zz_t64 hy]
  have h3 : Int64.ofInt y < Int64.ofInt x ↔ y < x := by rw [Int64.lt_iff_toInt_lt, zz_t64 hx, zz_t64 hy]
  have h2 : Int64.ofInt x = Int64.ofInt y ↔ x = y := by rw [← Int64.toInt_inj, zz_t64 hx, zz_t64 hy]
  unfold lg_cmp
  rcases Int.lt_trichotomy x y with h | h | h
  · refine ⟨-1, ?_, Or.inl ⟨h, rfl⟩⟩
    have q3 : ¬ Int64.ofInt y < Int64.ofInt x := fun z => by have := h3.mp z; omega
    have q1 := h1.mpr h
    have q2 : ¬ Int64.ofInt x = Int64.ofInt y := fun z => by have := h2.mp z; omega
    simp [q1, q2, q3]
  · refine ⟨0, ?_, Or.inr (Or.inl ⟨h, rfl⟩)⟩
    subst h
    simp
  · refine ⟨1, ?_, Or.inr (Or.inr ⟨h, rfl⟩)⟩
    have q3 := h3.mpr h
    have q1 : ¬ Int64.ofInt x < Int64.ofInt y := fun z => by have := h1.mp z; omega
    have q2 : ¬ Int64.ofInt x = Int64.ofInt y := fun z => by have := h2.mp z; omega
    simp [q1, q2, q3]
theorem zz_lcmp {x y : Int} (hx : -9223372036854775808 ≤ x ∧ x ≤ 9223372036854775807) (hy : -9223372036854775808 ≤ y ∧ y ≤ 9223372036854775807) (hd : zz_D Y pc .lcmp 1 pc1) (kk : ∀ v : Int, ((x < y ∧ v = -1) ∨ (x = y ∧ v = 0) ∨ (y < x ∧ v = 1)) → zz_E g l Y rm Q S n pc1 ls (zi v :: st) k j) : zz_E g l Y rm Q S n pc ls (zl y :: zl x :: st) k j := by
  refine mm_lcmp hd.1 (zz_rw hd.2 ?_)
  obtain ⟨v, h1, h2⟩ := zz_cmp hx hy
  rw [h1]
  exact kk v h2
theorem zz_icmp_eq {x y : Int} {tgt : Nat} (hx : -2147483648 ≤ x ∧ x ≤ 2147483647) (hy : -2147483648 ≤ y ∧ y ≤ 2147483647) (hd : zz_B Y pc (Instr.if_icmp .eq) tgt pc1) (kt : x = y → zz_E g l Y rm Q S n tgt ls st k j) (kf : x ≠ y → zz_E g l Y rm Q S n pc1 ls st k j) : zz_E g l Y rm Q S n pc ls (zi y :: zi x :: st) k j := by
  obtain ⟨off, hd, ht, he⟩ := hd
  exact mm_icmp_eq hd ht (fun h => kt ((zz_eq32 hx hy).mp h)) (fun h => (zz_rw he (kf (fun q => h ((zz_eq32 hx hy).mpr q)))))
theorem zz_if_eq {x : Int} {tgt : Nat} (hx : -2147483648 ≤ x ∧ x ≤ 2147483647) (hd : zz_B Y pc (Instr.ifCond .eq) tgt pc1) (kt : x = 0 → zz_E g l Y rm Q S n tgt ls st k j) (kf : x ≠ 0 → zz_E g l Y rm Q S n pc1 ls st k j) : zz_E g l Y rm Q S n pc ls (zi x :: st) k j := by
  obtain ⟨off, hd, ht, he⟩ := hd
  have hy : -2147483648 ≤ (0 : Int) ∧ (0 : Int) ≤ 2147483647 := by omega
  have e0 : (0 : Int32) = Int32.ofInt 0 := rfl
  exact mm_if_eq hd ht (fun h => kt ((zz_eq32 hx hy).mp h)) (fun h => (zz_rw he (kf (fun q => h ((zz_eq32 hx hy).mpr q)))))
theorem zz_icmp_ne {x y : Int} {tgt : Nat} (hx : -2147483648 ≤ x ∧ x ≤ 2147483647) (hy : -2147483648 ≤ y ∧ y ≤ 2147483647) (hd : zz_B Y pc (Instr.if_icmp .ne) tgt pc1) (kt : x ≠ y → zz_E g l Y rm Q S n tgt ls st k j) (kf : x = y → zz_E g l Y rm Q S n pc1 ls st k j) : zz_E g l Y rm Q S n pc ls (zi y :: zi x :: st) k j := by
  obtain ⟨off, hd, ht, he⟩ := hd
  exact mm_icmp_ne hd ht (fun h => kt (fun q => h ((zz_eq32 hx hy).mpr q))) (fun h => (zz_rw he (kf ((zz_eq32 hx hy).mp h))))
theorem zz_if_ne {x : Int} {tgt : Nat} (hx : -2147483648 ≤ x ∧ x ≤ 2147483647) (hd : zz_B Y pc (Instr.ifCond .ne) tgt pc1) (kt : x ≠ 0 → zz_E g l Y rm Q S n tgt ls st k j) (kf : x = 0 → zz_E g l Y rm Q S n pc1 ls st k j) : zz_E g l Y rm Q S n pc ls (zi x :: st) k j := by
  obtain ⟨off, hd, ht, he⟩ := hd
  have hy : -2147483648 ≤ (0 : Int) ∧ (0 : Int) ≤ 2147483647 := by omega
  have e0 : (0 : Int32) = Int32.ofInt 0 := rfl
  exact mm_if_ne hd ht (fun h => kt (fun q => h ((zz_eq32 hx hy).mpr q))) (fun h => (zz_rw he (kf ((zz_eq32 hx hy).mp h))))
theorem zz_icmp_lt {x y : Int} {tgt : Nat} (hx : -2147483648 ≤ x ∧ x ≤ 2147483647) (hy : -2147483648 ≤ y ∧ y ≤ 2147483647) (hd : zz_B Y pc (Instr.if_icmp .lt) tgt pc1) (kt : x < y → zz_E g l Y rm Q S n tgt ls st k j) (kf : y ≤ x → zz_E g l Y rm Q S n pc1 ls st k j) : zz_E g l Y rm Q S n pc ls (zi y :: zi x :: st) k j := by
  obtain ⟨off, hd, ht, he⟩ := hd
  exact mm_icmp_lt hd ht (fun h => kt ((zz_lt32 hx hy).mp h)) (fun h => (zz_rw he (kf (by have := mt (zz_lt32 hx hy).mpr h; omega))))
theorem zz_if_lt {x : Int} {tgt : Nat} (hx : -2147483648 ≤ x ∧ x ≤ 2147483647) (hd : zz_B Y pc (Instr.ifCond .lt) tgt pc1) (kt : x < 0 → zz_E g l Y rm Q S n tgt ls st k j) (kf : 0 ≤ x → zz_E g l Y rm Q S n pc1 ls st k j) : zz_E g l Y rm Q S n pc ls (zi x :: st) k j := by
  obtain ⟨off, hd, ht, he⟩ := hd
  have hy : -2147483648 ≤ (0 : Int) ∧ (0 : Int) ≤ 2147483647 := by omega
  have e0 : (0 : Int32) = Int32.ofInt 0 := rfl
  exact mm_if_lt hd ht (fun h => kt ((zz_lt32 hx hy).mp h)) (fun h => (zz_rw he (kf (by have := mt (zz_lt32 hx hy).mpr h; omega))))
theorem zz_icmp_ge {x y : Int} {tgt : Nat} (hx : -2147483648 ≤ x ∧ x ≤ 2147483647) (hy : -2147483648 ≤ y ∧ y ≤ 2147483647) (hd : zz_B Y pc (Instr.if_icmp .ge) tgt pc1) (kt : y ≤ x → zz_E g l Y rm Q S n tgt ls st k j) (kf : x < y → zz_E g l Y rm Q S n pc1 ls st k j) : zz_E g l Y rm Q S n pc ls (zi y :: zi x :: st) k j := by
  obtain ⟨off, hd, ht, he⟩ := hd
  exact mm_icmp_ge hd ht (fun h => kt ((zz_le32 hy hx).mp h)) (fun h => (zz_rw he (kf (by have := mt (zz_le32 hy hx).mpr h; omega))))
theorem zz_if_ge {x : Int} {tgt : Nat} (hx : -2147483648 ≤ x ∧ x ≤ 2147483647) (hd : zz_B Y pc (Instr.ifCond .ge) tgt pc1) (kt : 0 ≤ x → zz_E g l Y rm Q S n tgt ls st k j) (kf : x < 0 → zz_E g l Y rm Q S n pc1 ls st k j) : zz_E g l Y rm Q S n pc ls (zi x :: st) k j := by
  obtain ⟨off, hd, ht, he⟩ := hd
  have hy : -2147483648 ≤ (0 : Int) ∧ (0 : Int) ≤ 2147483647 := by omega
  have e0 : (0 : Int32) = Int32.ofInt 0 := rfl
  exact mm_if_ge hd ht (fun h => kt ((zz_le32 hy hx).mp h)) (fun h => (zz_rw he (kf (by have := mt (zz_le32 hy hx).mpr h; omega))))
theorem zz_icmp_gt {x y : Int} {tgt : Nat} (hx : -2147483648 ≤ x ∧ x ≤ 2147483647) (hy : -2147483648 ≤ y ∧ y ≤ 2147483647) (hd : zz_B Y pc (Instr.if_icmp .gt) tgt pc1) (kt : y < x → zz_E g l Y rm Q S n tgt ls st k j) (kf : x ≤ y → zz_E g l Y rm Q S n pc1 ls st k j) : zz_E g l Y rm Q S n pc ls (zi y :: zi x :: st) k j := by
  obtain ⟨off, hd, ht, he⟩ := hd
  exact mm_icmp_gt hd ht (fun h => kt ((zz_lt32 hy hx).mp h)) (fun h => (zz_rw he (kf (by have := mt (zz_lt32 hy hx).mpr h; omega))))
theorem zz_if_gt {x : Int} {tgt : Nat} (hx : -2147483648 ≤ x ∧ x ≤ 2147483647) (hd : zz_B Y pc (Instr.ifCond .gt) tgt pc1) (kt : 0 < x → zz_E g l Y rm Q S n tgt ls st k j) (kf : x ≤ 0 → zz_E g l Y rm Q S n pc1 ls st k j) : zz_E g l Y rm Q S n pc ls (zi x :: st) k j := by
  obtain ⟨off, hd, ht, he⟩ := hd
  have hy : -2147483648 ≤ (0 : Int) ∧ (0 : Int) ≤ 2147483647 := by omega
  have e0 : (0 : Int32) = Int32.ofInt 0 := rfl
  exact mm_if_gt hd ht (fun h => kt ((zz_lt32 hy hx).mp h)) (fun h => (zz_rw he (kf (by have := mt (zz_lt32 hy hx).mpr h; omega))))
theorem zz_icmp_le {x y : Int} {tgt : Nat} (hx : -2147483648 ≤ x ∧ x ≤ 2147483647) (hy : -2147483648 ≤ y ∧ y ≤ 2147483647) (hd : zz_B Y pc (Instr.if_icmp .le) tgt pc1) (kt : x ≤ y → zz_E g l Y rm Q S n tgt ls st k j) (kf : y < x → zz_E g l Y rm Q S n pc1 ls st k j) : zz_E g l Y rm Q S n pc ls (zi y :: zi x :: st) k j := by
  obtain ⟨off, hd, ht, he⟩ := hd
  exact mm_icmp_le hd ht (fun h => kt ((zz_le32 hx hy).mp h)) (fun h => (zz_rw he (kf (by have := mt (zz_le32 hx hy).mpr h; omega))))
theorem zz_if_le {x : Int} {tgt : Nat} (hx : -2147483648 ≤ x ∧ x ≤ 2147483647) (hd : zz_B Y pc (Instr.ifCond .le) tgt pc1) (kt : x ≤ 0 → zz_E g l Y rm Q S n tgt ls st k j) (kf : 0 < x → zz_E g l Y rm Q S n pc1 ls st k j) : zz_E g l Y rm Q S n pc ls (zi x :: st) k j := by
  obtain ⟨off, hd, ht, he⟩ := hd
  have hy : -2147483648 ≤ (0 : Int) ∧ (0 : Int) ≤ 2147483647 := by omega
  have e0 : (0 : Int32) = Int32.ofInt 0 := rfl
  exact mm_if_le hd ht (fun h => kt ((zz_le32 hx hy).mp h)) (fun h => (zz_rw he (kf (by have := mt (zz_le32 hx hy).mpr h; omega))))
theorem zz_goto {tgt : Nat} (hd : zz_B Y pc Instr.goto tgt pc1) (kk : zz_E g l Y rm Q S n tgt ls st k j) : zz_E g l Y rm Q S n pc ls st k j := by
  obtain ⟨off, hd, ht, he⟩ := hd
  exact mm_goto hd ht kk
def zz_W (Y : mm_Y) (pc : Nat) (dflt lo hi : Int) (offs : Array Int) : Prop := ∃ len, decode Y.2.1 pc = .ok (.tableswitch dflt lo hi offs, len)
theorem zz_swIn {dflt lo hi : Int} {offs : Array Int} {tgt : Nat} {x : Int} (c off : Int) (hx : x = c) (hc : -2147483648 ≤ c ∧ c ≤ 2147483647 ∧ lo ≤ c ∧ c ≤ hi) (hd : zz_W Y pc dflt lo hi offs) (ho : offs[(c - lo).toNat]? = some off) (ht : (pc : Int) + off = (tgt : Int)) (kk : zz_E g l Y rm Q S n tgt ls st k j) : zz_E g l Y rm Q S n pc ls (zi x :: st) k j := by
  subst hx
  obtain ⟨len, hd⟩ := hd
  have e := zz_t32 (z := x) (by omega)
  exact mm_tableIn hd (by rw [e]; omega) (by rw [e]; omega) (by rw [e]; exact ho) ht kk
theorem zz_swOut {dflt lo hi : Int} {offs : Array Int} {tgt : Nat} {x : Int} (hx : -2147483648 ≤ x ∧ x ≤ 2147483647) (ho : x < lo ∨ hi < x) (hd : zz_W Y pc dflt lo hi offs) (ht : (pc : Int) + dflt = (tgt : Int)) (kk : zz_E g l Y rm Q S n tgt ls st k j) : zz_E g l Y rm Q S n pc ls (zi x :: st) k j := by
  obtain ⟨len, hd⟩ := hd
  exact mm_tableOut hd (by rw [zz_t32 hx]; exact ho) ht kk
theorem zz_lsw {dflt off : Int} {ps : Array (Int × Int)} {tgt : Nat} {x : Int} (hx : -2147483648 ≤ x ∧ x ≤ 2147483647) (hd : ∃ len, decode Y.2.1 pc = .ok (.lookupswitch dflt ps, len)) (hp : (ps.toList.zip (ps.toList.drop 1)).all (fun (a, next) => a.1 < next.1) = true) (ho : Op.lookupswitch.offset ps.toList dflt x = off) (ht : (pc : Int) + off = (tgt : Int)) (kk : zz_E g l Y rm Q S n tgt ls st k j) : zz_E g l Y rm Q S n pc ls (zi x :: st) k j := by
  obtain ⟨len, hd⟩ := hd
  exact mm_lookup hd hp (by rw [zz_t32 hx]; exact ho) ht kk
theorem zz_iret {v : Int} (hd : zz_D Y pc .ireturn 1 pc1) (hr : Y.2.2.2 = some .int) (hk : k ≤ rm.cells) (hj : j ≤ rm.slots) (hQ : Q (.inl (some (zi v)), zz_M S n, n)) : zz_E g l Y rm Q S n pc ls [zi v] k j := mm_iret hd.1 hr hk hj hQ
theorem zz_zret {v : Int} (hd : zz_D Y pc .ireturn 1 pc1) (hr : Y.2.2.2 = some .boolean) (hv : 0 ≤ v ∧ v ≤ 1) (hk : k ≤ rm.cells) (hj : j ≤ rm.slots) (hQ : Q (.inl (some (zi v)), zz_M S n, n)) : zz_E g l Y rm Q S n pc ls [zi v] k j := by
  refine mm_zret hd.1 hr ?_ hk hj hQ
  have : v = 0 ∨ v = 1 := by omega
  rcases this with rfl | rfl <;> decide
theorem zz_bret {v : Int} (hd : zz_D Y pc .ireturn 1 pc1) (hr : Y.2.2.2 = some .byte) (hv : -128 ≤ v ∧ v ≤ 127) (hk : k ≤ rm.cells) (hj : j ≤ rm.slots) (hQ : Q (.inl (some (zi v)), zz_M S n, n)) : zz_E g l Y rm Q S n pc ls [zi v] k j := by
  refine mm_zret hd.1 hr ?_ hk hj hQ
  have h : narrow .byte (.int (Int32.ofInt v)) = .int ((Int32.ofInt v).toInt8.toInt32) := rfl
  rw [h]
  congr 1
  apply Int32.toInt_inj.mp
  rw [Int8.toInt_toInt32, Int32.toInt_toInt8, zz_t32 (by omega)]
  exact Int.bmod_eq_of_le (by omega) (by omega)
theorem zz_lret {v : Int} (hd : zz_D Y pc .lreturn 1 pc1) (hr : Y.2.2.2 = some .long) (hk : k ≤ rm.cells) (hj : j ≤ rm.slots) (hQ : Q (.inl (some (zl v)), zz_M S n, n)) : zz_E g l Y rm Q S n pc ls [zl v] k j := mm_lret hd.1 hr hk hj hQ
theorem zz_vret (hd : zz_D Y pc .return_ 1 pc1) (hr : Y.2.2.2 = none) (hk : k ≤ rm.cells) (hj : j ≤ rm.slots) (hQ : Q (.inl none, zz_M S n, n)) : zz_E g l Y rm Q S n pc ls [] k j := mm_vret hd.1 hr hk hj hQ
theorem zz_aret {a : Nat} {C : String} (hd : zz_D Y pc .areturn 1 pc1) (hr : Y.2.2.2 = some (.object C)) (hk : k ≤ rm.cells) (hj : j ≤ rm.slots) (hQ : Q (.inl (some (.ref a)), zz_M S n, n)) : zz_E g l Y rm Q S n pc ls [.ref a] k j := mm_aret hd.1 hr hk hj hQ
theorem zz_geti {a kf index ci : Nat} {ks : List Nat} {ty : FieldType} {fin : Bool} {z : Int} (hd : zz_D Y pc (.getfield index) 3 pc1) (hF : mm_Fl Y.1.cls index ci kf ty fin) (hT : zz_T a = some (.inl (ci, ks))) (hk : ks[kf]? = some 0) (hn : a < n) (hz : S a kf = z) (kk : zz_E g l Y rm Q S n pc1 ls (zi z :: st) k j) : zz_E g l Y rm Q S n pc ls (.ref a :: st) k j := by
  subst hz
  exact mm_get hd.1 hF (zz_M_at hn hT) (zz_fs_at hk) (zz_rw hd.2 kk)
theorem zz_getl {a kf index ci : Nat} {ks : List Nat} {ty : FieldType} {fin : Bool} {z : Int} (hd : zz_D Y pc (.getfield index) 3 pc1) (hF : mm_Fl Y.1.cls index ci kf ty fin) (hT : zz_T a = some (.inl (ci, ks))) (hk : ks[kf]? = some 1) (hn : a < n) (hz : S a kf = z) (kk : zz_E g l Y rm Q S n pc1 ls (zl z :: st) k j) : zz_E g l Y rm Q S n pc ls (.ref a :: st) k j := by
  subst hz
  exact mm_get hd.1 hF (zz_M_at hn hT) (zz_fs_at hk) (zz_rw hd.2 kk)
theorem zz_getr {a kf index ci kd : Nat} {ks : List Nat} {ty : FieldType} {fin : Bool} {z : Int} (hd : zz_D Y pc (.getfield index) 3 pc1) (hF : mm_Fl Y.1.cls index ci kf ty fin) (hT : zz_T a = some (.inl (ci, ks))) (hk : ks[kf]? = some (kd + 2)) (hn : a < n) (hz : S a kf = z) (h0 : 0 ≤ z) (x : Nat) (hx : zz_rf (kd + 2) z = x) (kk : zz_E g l Y rm Q S n pc1 ls (.ref x :: st) k j) : zz_E g l Y rm Q S n pc ls (.ref a :: st) k j := by
  subst hz
  subst hx
  refine mm_get hd.1 hF (zz_M_at hn hT) (v := .ref (zz_rf (kd + 2) (S a kf))) ?_ (zz_rw hd.2 kk)
  rw [zz_fs_at hk]
  simp only [zz_fv, if_neg (Int.not_lt.mpr h0)]
theorem zz_puti {a kf index ci : Nat} {ks : List Nat} {z : Int} (hd : zz_D Y pc (.putfield index) 3 pc1) (hF : mm_Fl Y.1.cls index ci kf .int false) (hT : zz_T a = some (.inl (ci, ks))) (hk : ks[kf]? = some 0) (hn : a < n) (kk : ∀ S1 : zz_S, S1 = zz_st S a kf z → zz_E g l Y rm Q S1 n pc1 ls st k j) : zz_E g l Y rm Q S n pc ls (zi z :: .ref a :: st) k j := by
  refine mm_put hd.1 hF (zz_M_at hn hT) (by rw [zz_fs_len]; exact (List.getElem?_eq_some_iff.mp hk).1) rfl rfl (fun M1 e => zz_rw hd.2 ?_)
  have h := kk _ rfl
  unfold zz_E at h
  rw [zz_M_st hn hT] at h
  rw [e]
  simp only [zz_en, zz_fs_set hk, zz_fv] at h
  exact h
theorem zz_putz {a kf index ci : Nat} {ks : List Nat} {z : Int} (hd : zz_D Y pc (.putfield index) 3 pc1) (hF : mm_Fl Y.1.cls index ci kf .boolean false) (hT : zz_T a = some (.inl (ci, ks))) (hk : ks[kf]? = some 0) (hn : a < n) (hv : 0 ≤ z ∧ z ≤ 1) (kk : ∀ S1 : zz_S, S1 = zz_st S a kf z → zz_E g l Y rm Q S1 n pc1 ls st k j) : zz_E g l Y rm Q S n pc ls (zi z :: .ref a :: st) k j := by
  have hN : narrow .boolean (mm_tr g (zi z)) = mm_tr g (zi z) := by
    have : z = 0 ∨ z = 1 := by omega
    rcases this with rfl | rfl <;> rfl
  have hT9 : fits .boolean (mm_tr g (zi z)) = true := by
    have : z = 0 ∨ z = 1 := by omega
    rcases this with rfl | rfl <;> rfl
  refine mm_put hd.1 hF (zz_M_at hn hT) (by rw [zz_fs_len]; exact (List.getElem?_eq_some_iff.mp hk).1) hN hT9 (fun M1 e => zz_rw hd.2 ?_)
  have h := kk _ rfl
  unfold zz_E at h
  rw [zz_M_st hn hT] at h
  rw [e]
  simp only [zz_en, zz_fs_set hk, zz_fv] at h
  exact h
theorem zz_putl {a kf index ci : Nat} {ks : List Nat} {z : Int} (hd : zz_D Y pc (.putfield index) 3 pc1) (hF : mm_Fl Y.1.cls index ci kf .long false) (hT : zz_T a = some (.inl (ci, ks))) (hk : ks[kf]? = some 1) (hn : a < n) (kk : ∀ S1 : zz_S, S1 = zz_st S a kf z → zz_E g l Y rm Q S1 n pc1 ls st k j) : zz_E g l Y rm Q S n pc ls (zl z :: .ref a :: st) k j := by
  refine mm_put hd.1 hF (zz_M_at hn hT) (by rw [zz_fs_len]; exact (List.getElem?_eq_some_iff.mp hk).1) rfl rfl (fun M1 e => zz_rw hd.2 ?_)
  have h := kk _ rfl
  unfold zz_E at h
  rw [zz_M_st hn hT] at h
  rw [e]
  simp only [zz_en, zz_fs_set hk, zz_fv] at h
  exact h
theorem zz_putr {a kf index ci kd x : Nat} {ks : List Nat} {ty : FieldType} (z : Int) (hd : zz_D Y pc (.putfield index) 3 pc1) (hF : mm_Fl Y.1.cls index ci kf ty false) (hT : zz_T a = some (.inl (ci, ks))) (hk : ks[kf]? = some (kd + 2)) (hn : a < n) (h0 : 0 ≤ z) (hx : zz_rf (kd + 2) z = x) (hna : ∀ v, narrow ty (.ref v) = .ref v) (hfi : ∀ v, fits ty (.ref v) = true) (kk : ∀ S1 : zz_S, S1 = zz_st S a kf z → zz_E g l Y rm Q S1 n pc1 ls st k j) : zz_E g l Y rm Q S n pc ls (.ref x :: .ref a :: st) k j := by
  refine mm_put hd.1 hF (zz_M_at hn hT) (by rw [zz_fs_len]; exact (List.getElem?_eq_some_iff.mp hk).1) (hna _) (hfi _) (fun M1 e => zz_rw hd.2 ?_)
  have h := kk _ rfl
  unfold zz_E at h
  rw [zz_M_st hn hT] at h
  rw [e]
  simp only [zz_en, zz_fs_set hk, zz_fv, if_neg (Int.not_lt.mpr h0), hx] at h
  exact h
theorem zz_in {i : Int} {N : Nat} (h : 0 ≤ i ∧ i < N) (hN : N ≤ 2147483647) : vp_in (Int32.ofInt i) N := by
  rw [vp_in_iff, zz_t32 (by omega)]
  exact h
theorem zz_nc {i : Int} {N : Nat} (h : 0 ≤ i ∧ i < N) (hN : N ≤ 2147483647) : (Int32.ofInt i).toNatClampNeg = i.toNat := by
  rw [← Int32.toNat_toInt, zz_t32 (by omega)]
theorem zz_updI {S : zz_S} {a i : Nat} {z : Int} : upd (fun q => Int32.ofInt (S a q)) i (Int32.ofInt z) = fun q => Int32.ofInt (zz_st S a i z a q) := by
  funext q
  simp only [upd, zz_st]
  by_cases h : q = i
  · simp [h]
  · simp [h]
theorem zz_updL {S : zz_S} {a i : Nat} {z : Int} : vp_updL (fun q => Int64.ofInt (S a q)) i (Int64.ofInt z) = fun q => Int64.ofInt (zz_st S a i z a q) := by
  funext q
  simp only [vp_updL, zz_st]
  by_cases h : q = i
  · simp [h]
  · simp [h]
theorem zz_iald {a t N : Nat} {i z : Int} (hd : zz_D Y pc .iaload 1 pc1) (hT : zz_T a = some (.inr (t, N, 0))) (ht : mm_ty[t]? = some .int) (hn : a < n) (hN : N ≤ 2147483647) (hi : 0 ≤ i ∧ i < N) (hz : S a i.toNat = z) (kk : zz_E g l Y rm Q S n pc1 ls (zi z :: st) k j) : zz_E g l Y rm Q S n pc ls (zi i :: .ref a :: st) k j := by
  subst hz
  refine mm_iald hd.1 (zz_M_at hn hT) ht (zz_in hi hN) (zz_rw hd.2 ?_)
  rw [zz_nc hi hN]
  exact kk
theorem zz_bald {a t N : Nat} {i z : Int} (hd : zz_D Y pc .baload 1 pc1) (hT : zz_T a = some (.inr (t, N, 0))) (ht : mm_ty[t]? = some .byte) (hn : a < n) (hN : N ≤ 2147483647) (hi : 0 ≤ i ∧ i < N) (hz : S a i.toNat = z) (kk : zz_E g l Y rm Q S n pc1 ls (zi z :: st) k j) : zz_E g l Y rm Q S n pc ls (zi i :: .ref a :: st) k j := by
  subst hz
  refine mm_bald hd.1 (zz_M_at hn hT) ht (zz_in hi hN) (zz_rw hd.2 ?_)
  rw [zz_nc hi hN]
  exact kk
theorem zz_zald {a t N : Nat} {i z : Int} (hd : zz_D Y pc .baload 1 pc1) (hT : zz_T a = some (.inr (t, N, 0))) (ht : mm_ty[t]? = some .boolean) (hn : a < n) (hN : N ≤ 2147483647) (hi : 0 ≤ i ∧ i < N) (hz : S a i.toNat = z) (kk : zz_E g l Y rm Q S n pc1 ls (zi z :: st) k j) : zz_E g l Y rm Q S n pc ls (zi i :: .ref a :: st) k j := by
  subst hz
  refine mm_zald hd.1 (zz_M_at hn hT) ht (zz_in hi hN) (zz_rw hd.2 ?_)
  rw [zz_nc hi hN]
  exact kk
theorem zz_cald {a t N : Nat} {i z : Int} (hd : zz_D Y pc .caload 1 pc1) (hT : zz_T a = some (.inr (t, N, 0))) (ht : mm_ty[t]? = some .char) (hn : a < n) (hN : N ≤ 2147483647) (hi : 0 ≤ i ∧ i < N) (hz : S a i.toNat = z) (kk : zz_E g l Y rm Q S n pc1 ls (zi z :: st) k j) : zz_E g l Y rm Q S n pc ls (zi i :: .ref a :: st) k j := by
  subst hz
  refine mm_cald hd.1 (zz_M_at hn hT) ht (zz_in hi hN) (zz_rw hd.2 ?_)
  rw [zz_nc hi hN]
  exact kk
theorem zz_lald {a t N : Nat} {i z : Int} (hd : zz_D Y pc .laload 1 pc1) (hT : zz_T a = some (.inr (t, N, 1))) (ht : mm_ty[t]? = some .long) (hn : a < n) (hN : N ≤ 2147483647) (hi : 0 ≤ i ∧ i < N) (hz : S a i.toNat = z) (kk : zz_E g l Y rm Q S n pc1 ls (zl z :: st) k j) : zz_E g l Y rm Q S n pc ls (zi i :: .ref a :: st) k j := by
  subst hz
  refine mm_lald hd.1 (zz_M_at hn hT) ht (zz_in hi hN) (zz_rw hd.2 ?_)
  rw [zz_nc hi hN]
  exact kk
theorem zz_aald {a t N kd : Nat} {C : String} {i z : Int} (hd : zz_D Y pc .aaload 1 pc1) (hT : zz_T a = some (.inr (t, N, kd + 2))) (ht : mm_ty[t]? = some (.object C)) (hn : a < n) (hN : N ≤ 2147483647) (hi : 0 ≤ i ∧ i < N) (hz : S a i.toNat = z) (h0 : 0 ≤ z) (x : Nat) (hx : zz_rf (kd + 2) z = x) (kk : zz_E g l Y rm Q S n pc1 ls (.ref x :: st) k j) : zz_E g l Y rm Q S n pc ls (zi i :: .ref a :: st) k j := by
  subst hz
  subst hx
  refine mm_aald hd.1 (zz_M_at hn hT) ht (zz_in hi hN) (x := zz_rf (kd + 2) (S a i.toNat)) ?_ (zz_rw hd.2 kk)
  rw [zz_nc hi hN, if_neg (Int.not_lt.mpr h0)]
theorem zz_alen {a t N kd : Nat} {ty : FieldType} (hd : zz_D Y pc .arraylength 1 pc1) (hT : zz_T a = some (.inr (t, N, kd))) (ht : mm_ty[t]? = some ty) (hn : a < n) (kk : zz_E g l Y rm Q S n pc1 ls (zi (N : Int) :: st) k j) : zz_E g l Y rm Q S n pc ls (.ref a :: st) k j := by
  refine mm_alen hd.1 (x := zz_av N kd (S a)) (zz_M_at hn hT) ht (v := Int32.ofInt (N : Int)) ?_ (zz_rw hd.2 kk)
  have : (zz_av N kd (S a)).1 = N := by
    match kd with
    | 0 => rfl
    | 1 => rfl
    | kd + 2 => rfl
  rw [this, Int32.ofInt_eq_ofNat]
theorem zz_iast {a t N : Nat} {i z : Int} (hd : zz_D Y pc .iastore 1 pc1) (hT : zz_T a = some (.inr (t, N, 0))) (ht : mm_ty[t]? = some .int) (hn : a < n) (hN : N ≤ 2147483647) (hi : 0 ≤ i ∧ i < N) (kk : ∀ S1 : zz_S, S1 = zz_st S a i.toNat z → zz_E g l Y rm Q S1 n pc1 ls st k j) : zz_E g l Y rm Q S n pc ls (zi z :: zi i :: .ref a :: st) k j := by
  refine mm_iast hd.1 (zz_M_at hn hT) ht (zz_in hi hN) (fun M1 e => zz_rw hd.2 ?_)
  rw [zz_nc hi hN, zz_updI] at e
  have h := kk _ rfl
  unfold zz_E at h
  rw [zz_M_st hn hT] at h
  rw [e]
  exact h
theorem zz_nar_byte {z : Int} (hv : -128 ≤ z ∧ z ≤ 127) : vp_nar .byte (Int32.ofInt z) = Int32.ofInt z := by
  have h : vp_nar .byte (Int32.ofInt z) = (Int32.ofInt z).toInt8.toInt32 := rfl
  rw [h]
  apply Int32.toInt_inj.mp
  rw [Int8.toInt_toInt32, Int32.toInt_toInt8, zz_t32 (by omega)]
  exact Int.bmod_eq_of_le (by omega) (by omega)
theorem zz_bast {a t N : Nat} {i z : Int} (hd : zz_D Y pc .bastore 1 pc1) (hT : zz_T a = some (.inr (t, N, 0))) (ht : mm_ty[t]? = some .byte) (hn : a < n) (hN : N ≤ 2147483647) (hi : 0 ≤ i ∧ i < N) (hv : -128 ≤ z ∧ z ≤ 127) (kk : ∀ S1 : zz_S, S1 = zz_st S a i.toNat z → zz_E g l Y rm Q S1 n pc1 ls st k j) : zz_E g l Y rm Q S n pc ls (zi z :: zi i :: .ref a :: st) k j := by
  refine mm_bast hd.1 (zz_M_at hn hT) ht (zz_in hi hN) (fun M1 e => zz_rw hd.2 ?_)
  rw [zz_nar_byte hv] at e
  rw [zz_nc hi hN, zz_updI] at e
  have h := kk _ rfl
  unfold zz_E at h
  rw [zz_M_st hn hT] at h
  rw [e]
  exact h
theorem zz_nar_boolean {z : Int} (hv : 0 ≤ z ∧ z ≤ 1) : vp_nar .boolean (Int32.ofInt z) = Int32.ofInt z := by
  have : z = 0 ∨ z = 1 := by omega
  rcases this with rfl | rfl <;> decide
theorem zz_zast {a t N : Nat} {i z : Int} (hd : zz_D Y pc .bastore 1 pc1) (hT : zz_T a = some (.inr (t, N, 0))) (ht : mm_ty[t]? = some .boolean) (hn : a < n) (hN : N ≤ 2147483647) (hi : 0 ≤ i ∧ i < N) (hv : 0 ≤ z ∧ z ≤ 1) (kk : ∀ S1 : zz_S, S1 = zz_st S a i.toNat z → zz_E g l Y rm Q S1 n pc1 ls st k j) : zz_E g l Y rm Q S n pc ls (zi z :: zi i :: .ref a :: st) k j := by
  refine mm_zast hd.1 (zz_M_at hn hT) ht (zz_in hi hN) (fun M1 e => zz_rw hd.2 ?_)
  rw [zz_nar_boolean hv] at e
  rw [zz_nc hi hN, zz_updI] at e
  have h := kk _ rfl
  unfold zz_E at h
  rw [zz_M_st hn hT] at h
  rw [e]
  exact h
theorem zz_nar_char {z : Int} (hv : 0 ≤ z ∧ z ≤ 65535) : vp_nar .char (Int32.ofInt z) = Int32.ofInt z := by
  have h : vp_nar .char (Int32.ofInt z) = ((Int32.ofInt z).toUInt32 % 65536).toInt32 := rfl
  rw [h]
  obtain ⟨m, rfl⟩ := Int.eq_ofNat_of_zero_le hv.1
  have hm : m ≤ 65535 := by omega
  apply Int32.toBitVec_inj.mp
  apply BitVec.eq_of_toNat_eq
  simp only [UInt32.toBitVec_toInt32, UInt32.toBitVec_mod, Int32.toBitVec_toUInt32, Int32.toBitVec_ofInt, BitVec.toNat_umod, BitVec.toNat_ofInt]
  have : (65536 : UInt32).toBitVec.toNat = 65536 := by decide
  rw [this]
  omega
theorem zz_cast {a t N : Nat} {i z : Int} (hd : zz_D Y pc .castore 1 pc1) (hT : zz_T a = some (.inr (t, N, 0))) (ht : mm_ty[t]? = some .char) (hn : a < n) (hN : N ≤ 2147483647) (hi : 0 ≤ i ∧ i < N) (hv : 0 ≤ z ∧ z ≤ 65535) (kk : ∀ S1 : zz_S, S1 = zz_st S a i.toNat z → zz_E g l Y rm Q S1 n pc1 ls st k j) : zz_E g l Y rm Q S n pc ls (zi z :: zi i :: .ref a :: st) k j := by
  refine mm_cast hd.1 (zz_M_at hn hT) ht (zz_in hi hN) (fun M1 e => zz_rw hd.2 ?_)
  rw [zz_nar_char hv] at e
  rw [zz_nc hi hN, zz_updI] at e
  have h := kk _ rfl
  unfold zz_E at h
  rw [zz_M_st hn hT] at h
  rw [e]
  exact h
theorem zz_last {a t N : Nat} {i z : Int} (hd : zz_D Y pc .lastore 1 pc1) (hT : zz_T a = some (.inr (t, N, 1))) (ht : mm_ty[t]? = some .long) (hn : a < n) (hN : N ≤ 2147483647) (hi : 0 ≤ i ∧ i < N) (kk : ∀ S1 : zz_S, S1 = zz_st S a i.toNat z → zz_E g l Y rm Q S1 n pc1 ls st k j) : zz_E g l Y rm Q S n pc ls (zl z :: zi i :: .ref a :: st) k j := by
  refine mm_last hd.1 (zz_M_at hn hT) ht (zz_in hi hN) (fun M1 e => zz_rw hd.2 ?_)
  rw [zz_nc hi hN, zz_updL] at e
  have h := kk _ rfl
  unfold zz_E at h
  rw [zz_M_st hn hT] at h
  rw [e]
  exact h
theorem zz_gets {q0 index : Nat} {q : String × String × List Int32} (hd : zz_D Y pc (.getstatic index) 3 pc1) (hq : mm_sta[q0]? = some q) (h0 : q0 < 1000) (hl : Cond.fieldLink Y.1.cls index q.1 q.2.1 "[I" ∈ mm_tb) (kk : zz_E g l Y rm Q S n pc1 ls (.ref q0 :: st) k j) : zz_E g l Y rm Q S n pc ls st k j := mm_gets hd.1 hq h0 hl (zz_rw hd.2 kk)
theorem zz_tiald {q0 N : Nat} {q : String × String × List Int32} {i : Int} (z : Int) (hd : zz_D Y pc .iaload 1 pc1) (hq : mm_sta[q0]? = some q) (h0 : q0 < 1000) (hl : q.2.2.length = N) (hN : N ≤ 2147483647) (hi : 0 ≤ i ∧ i < N) (hz : q.2.2.getD i.toNat 0 = Int32.ofInt z) (kk : zz_E g l Y rm Q S n pc1 ls (zi z :: st) k j) : zz_E g l Y rm Q S n pc ls (zi i :: .ref q0 :: st) k j := by
  refine mm_tiald hd.1 hq h0 (by rw [hl]; exact zz_in hi hN) (zz_rw hd.2 ?_)
  rw [zz_nc hi hN, hz]
  exact kk
theorem zz_less {ls1 : List (Option Value)} (h : mm_sub ls1 ls) (kk : zz_E g l Y rm Q S n pc ls1 st k j) : zz_E g l Y rm Q S n pc ls st k j := mm_less h kk
theorem zz_enter {as : List Value} (hy : plainName Y.1.cls = true) (hfit : (lg_sl (as.map (mm_tr g))).length ≤ Y.2.2.1) (h : zz_E g l Y rm Q S n 0 (mm_ent as) [] 0 0) : mm_Met g l Y rm as (zz_M S n) n Q := mm_enter hy hfit h
end ZZ
/-- ends of methods -/
def zz_QI (n : Nat) (P : Int → zz_S → Prop) : mm_O → Prop := fun u => ∃ v S1, u = (.inl (some (zi v)), zz_M S1 n, n) ∧ P v S1
def zz_QJ (n : Nat) (P : Int → zz_S → Prop) : mm_O → Prop := fun u => ∃ v S1, u = (.inl (some (zl v)), zz_M S1 n, n) ∧ P v S1
def zz_QA (n : Nat) (P : Nat → zz_S → Prop) : mm_O → Prop := fun u => ∃ v S1, u = (.inl (some (.ref v)), zz_M S1 n, n) ∧ P v S1
def zz_QV (n : Nat) (P : zz_S → Prop) : mm_O → Prop := fun u => ∃ S1, u = (.inl none, zz_M S1 n, n) ∧ P S1
section ZC
variable {g : mm_G} {l : Launch} {Y : mm_Y} {rm : Room} {Q : mm_O → Prop} {pc pc1 : Nat} {ls : List (Option Value)} {st : List Value} {S : zz_S} {n k j : Nat}
theorem zz_callVI {Z : mm_Y} {rz : Room} {P : Int → zz_S → Prop} {a ci index np : Nat} {ks : List Nat} {stk : List Value} (as : List Value) (hd : zz_D Y pc (.invokevirtual index) 3 pc1) (hZ : mm_Vl Y.1.cls index ci np Z) (hT : zz_T a = some (.inl (ci, ks))) (hn : a < n) (hst : stk = as.reverse ++ .ref a :: st) (hlen : as.length = np) (hroom : rz.frames + 1 ≤ rm.frames ∧ (st.map fun v => v.category).sum + (Z.2.2.1 + 11) + rz.locals ≤ rm.locals) (hz : rz.cells = 0 ∧ rz.slots = 0) (hk : k ≤ rm.cells) (hj : j ≤ rm.slots) (hM : mm_Met g l Z rz (.ref a :: as) (zz_M S n) n (zz_QI n P)) (kr : ∀ (v : Int) (S1 : zz_S), P v S1 → zz_E g l Y rm Q S1 n pc1 ls (zi v :: st) k j) : zz_E g l Y rm Q S n pc ls stk k j := by
  subst hst
  refine mm_callV hd.1 hZ hM (zz_M_at hn hT) hlen hroom (by omega) (by omega) (fun v M1 n1 hQ => ?_) (fun i M1 n1 hQ => ?_)
  · obtain ⟨v1, S1, e, hP⟩ := hQ
    cases e
    rw [hz.1, hz.2]
    exact zz_rw hd.2 (kr v1 S1 hP)
  · obtain ⟨v1, S1, e, hP⟩ := hQ
    cases e
theorem zz_callSI {Z : mm_Y} {rz : Room} {P : Int → zz_S → Prop} {index np : Nat} {stk : List Value} (as : List Value) (hd : zz_D Y pc (.invokestatic index) 3 pc1) (hZ : mm_Sl Y.1.cls index np Z) (hst : stk = as.reverse ++ st) (hlen : as.length = np) (hroom : rz.frames + 1 ≤ rm.frames ∧ (st.map fun v => v.category).sum + (Z.2.2.1 + 11) + rz.locals ≤ rm.locals) (hz : rz.cells = 0 ∧ rz.slots = 0) (hk : k ≤ rm.cells) (hj : j ≤ rm.slots) (hM : mm_Met g l Z rz (as) (zz_M S n) n (zz_QI n P)) (kr : ∀ (v : Int) (S1 : zz_S), P v S1 → zz_E g l Y rm Q S1 n pc1 ls (zi v :: st) k j) : zz_E g l Y rm Q S n pc ls stk k j := by
  subst hst
  refine mm_callS hd.1 hZ hM hlen hroom (by omega) (by omega) (fun v M1 n1 hQ => ?_) (fun i M1 n1 hQ => ?_)
  · obtain ⟨v1, S1, e, hP⟩ := hQ
    cases e
    rw [hz.1, hz.2]
    exact zz_rw hd.2 (kr v1 S1 hP)
  · obtain ⟨v1, S1, e, hP⟩ := hQ
    cases e
theorem zz_callVJ {Z : mm_Y} {rz : Room} {P : Int → zz_S → Prop} {a ci index np : Nat} {ks : List Nat} {stk : List Value} (as : List Value) (hd : zz_D Y pc (.invokevirtual index) 3 pc1) (hZ : mm_Vl Y.1.cls index ci np Z) (hT : zz_T a = some (.inl (ci, ks))) (hn : a < n) (hst : stk = as.reverse ++ .ref a :: st) (hlen : as.length = np) (hroom : rz.frames + 1 ≤ rm.frames ∧ (st.map fun v => v.category).sum + (Z.2.2.1 + 11) + rz.locals ≤ rm.locals) (hz : rz.cells = 0 ∧ rz.slots = 0) (hk : k ≤ rm.cells) (hj : j ≤ rm.slots) (hM : mm_Met g l Z rz (.ref a :: as) (zz_M S n) n (zz_QJ n P)) (kr : ∀ (v : Int) (S1 : zz_S), P v S1 → zz_E g l Y rm Q S1 n pc1 ls (zl v :: st) k j) : zz_E g l Y rm Q S n pc ls stk k j := by
  subst hst
  refine mm_callV hd.1 hZ hM (zz_M_at hn hT) hlen hroom (by omega) (by omega) (fun v M1 n1 hQ => ?_) (fun i M1 n1 hQ => ?_)
  · obtain ⟨v1, S1, e, hP⟩ := hQ
    cases e
    rw [hz.1, hz.2]
    exact zz_rw hd.2 (kr v1 S1 hP)
  · obtain ⟨v1, S1, e, hP⟩ := hQ
    cases e
theorem zz_callSJ {Z : mm_Y} {rz : Room} {P : Int → zz_S → Prop} {index np : Nat} {stk : List Value} (as : List Value) (hd : zz_D Y pc (.invokestatic index) 3 pc1) (hZ : mm_Sl Y.1.cls index np Z) (hst : stk = as.reverse ++ st) (hlen : as.length = np) (hroom : rz.frames + 1 ≤ rm.frames ∧ (st.map fun v => v.category).sum + (Z.2.2.1 + 11) + rz.locals ≤ rm.locals) (hz : rz.cells = 0 ∧ rz.slots = 0) (hk : k ≤ rm.cells) (hj : j ≤ rm.slots) (hM : mm_Met g l Z rz (as) (zz_M S n) n (zz_QJ n P)) (kr : ∀ (v : Int) (S1 : zz_S), P v S1 → zz_E g l Y rm Q S1 n pc1 ls (zl v :: st) k j) : zz_E g l Y rm Q S n pc ls stk k j := by
  subst hst
  refine mm_callS hd.1 hZ hM hlen hroom (by omega) (by omega) (fun v M1 n1 hQ => ?_) (fun i M1 n1 hQ => ?_)
  · obtain ⟨v1, S1, e, hP⟩ := hQ
    cases e
    rw [hz.1, hz.2]
    exact zz_rw hd.2 (kr v1 S1 hP)
  · obtain ⟨v1, S1, e, hP⟩ := hQ
    cases e
theorem zz_callVA {Z : mm_Y} {rz : Room} {P : Nat → zz_S → Prop} {a ci index np : Nat} {ks : List Nat} {stk : List Value} (as : List Value) (hd : zz_D Y pc (.invokevirtual index) 3 pc1) (hZ : mm_Vl Y.1.cls index ci np Z) (hT : zz_T a = some (.inl (ci, ks))) (hn : a < n) (hst : stk = as.reverse ++ .ref a :: st) (hlen : as.length = np) (hroom : rz.frames + 1 ≤ rm.frames ∧ (st.map fun v => v.category).sum + (Z.2.2.1 + 11) + rz.locals ≤ rm.locals) (hz : rz.cells = 0 ∧ rz.slots = 0) (hk : k ≤ rm.cells) (hj : j ≤ rm.slots) (hM : mm_Met g l Z rz (.ref a :: as) (zz_M S n) n (zz_QA n P)) (kr : ∀ (v : Nat) (S1 : zz_S), P v S1 → zz_E g l Y rm Q S1 n pc1 ls (.ref v :: st) k j) : zz_E g l Y rm Q S n pc ls stk k j := by
  subst hst
  refine mm_callV hd.1 hZ hM (zz_M_at hn hT) hlen hroom (by omega) (by omega) (fun v M1 n1 hQ => ?_) (fun i M1 n1 hQ => ?_)
  · obtain ⟨v1, S1, e, hP⟩ := hQ
    cases e
    rw [hz.1, hz.2]
    exact zz_rw hd.2 (kr v1 S1 hP)
  · obtain ⟨v1, S1, e, hP⟩ := hQ
    cases e
theorem zz_callSA {Z : mm_Y} {rz : Room} {P : Nat → zz_S → Prop} {index np : Nat} {stk : List Value} (as : List Value) (hd : zz_D Y pc (.invokestatic index) 3 pc1) (hZ : mm_Sl Y.1.cls index np Z) (hst : stk = as.reverse ++ st) (hlen : as.length = np) (hroom : rz.frames + 1 ≤ rm.frames ∧ (st.map fun v => v.category).sum + (Z.2.2.1 + 11) + rz.locals ≤ rm.locals) (hz : rz.cells = 0 ∧ rz.slots = 0) (hk : k ≤ rm.cells) (hj : j ≤ rm.slots) (hM : mm_Met g l Z rz (as) (zz_M S n) n (zz_QA n P)) (kr : ∀ (v : Nat) (S1 : zz_S), P v S1 → zz_E g l Y rm Q S1 n pc1 ls (.ref v :: st) k j) : zz_E g l Y rm Q S n pc ls stk k j := by
  subst hst
  refine mm_callS hd.1 hZ hM hlen hroom (by omega) (by omega) (fun v M1 n1 hQ => ?_) (fun i M1 n1 hQ => ?_)
  · obtain ⟨v1, S1, e, hP⟩ := hQ
    cases e
    rw [hz.1, hz.2]
    exact zz_rw hd.2 (kr v1 S1 hP)
  · obtain ⟨v1, S1, e, hP⟩ := hQ
    cases e
theorem zz_callVV {Z : mm_Y} {rz : Room} {P : zz_S → Prop} {a ci index np : Nat} {ks : List Nat} {stk : List Value} (as : List Value) (hd : zz_D Y pc (.invokevirtual index) 3 pc1) (hZ : mm_Vl Y.1.cls index ci np Z) (hT : zz_T a = some (.inl (ci, ks))) (hn : a < n) (hst : stk = as.reverse ++ .ref a :: st) (hlen : as.length = np) (hroom : rz.frames + 1 ≤ rm.frames ∧ (st.map fun v => v.category).sum + (Z.2.2.1 + 11) + rz.locals ≤ rm.locals) (hz : rz.cells = 0 ∧ rz.slots = 0) (hk : k ≤ rm.cells) (hj : j ≤ rm.slots) (hM : mm_Met g l Z rz (.ref a :: as) (zz_M S n) n (zz_QV n P)) (kr : ∀ (S1 : zz_S), P S1 → zz_E g l Y rm Q S1 n pc1 ls (st) k j) : zz_E g l Y rm Q S n pc ls stk k j := by
  subst hst
  refine mm_callV hd.1 hZ hM (zz_M_at hn hT) hlen hroom (by omega) (by omega) (fun v M1 n1 hQ => ?_) (fun i M1 n1 hQ => ?_)
  · obtain ⟨S1, e, hP⟩ := hQ
    cases e
    rw [hz.1, hz.2]
    exact zz_rw hd.2 (kr S1 hP)
  · obtain ⟨S1, e, hP⟩ := hQ
    cases e
theorem zz_callSV {Z : mm_Y} {rz : Room} {P : zz_S → Prop} {index np : Nat} {stk : List Value} (as : List Value) (hd : zz_D Y pc (.invokestatic index) 3 pc1) (hZ : mm_Sl Y.1.cls index np Z) (hst : stk = as.reverse ++ st) (hlen : as.length = np) (hroom : rz.frames + 1 ≤ rm.frames ∧ (st.map fun v => v.category).sum + (Z.2.2.1 + 11) + rz.locals ≤ rm.locals) (hz : rz.cells = 0 ∧ rz.slots = 0) (hk : k ≤ rm.cells) (hj : j ≤ rm.slots) (hM : mm_Met g l Z rz (as) (zz_M S n) n (zz_QV n P)) (kr : ∀ (S1 : zz_S), P S1 → zz_E g l Y rm Q S1 n pc1 ls (st) k j) : zz_E g l Y rm Q S n pc ls stk k j := by
  subst hst
  refine mm_callS hd.1 hZ hM hlen hroom (by omega) (by omega) (fun v M1 n1 hQ => ?_) (fun i M1 n1 hQ => ?_)
  · obtain ⟨S1, e, hP⟩ := hQ
    cases e
    rw [hz.1, hz.2]
    exact zz_rw hd.2 (kr S1 hP)
  · obtain ⟨S1, e, hP⟩ := hQ
    cases e
theorem zz_callCV {Z : mm_Y} {rz : Room} {P : zz_S → Prop} {a index np : Nat} {stk : List Value} (as : List Value) (hd : zz_D Y pc (.invokespecial index) 3 pc1) (hZ : mm_Il Y.1.cls index np Z) (hst : stk = as.reverse ++ .ref a :: st) (hlen : as.length = np) (hroom : rz.frames + 1 ≤ rm.frames ∧ (st.map fun v => v.category).sum + (Z.2.2.1 + 11) + rz.locals ≤ rm.locals) (hz : rz.cells = 0 ∧ rz.slots = 0) (hk : k ≤ rm.cells) (hj : j ≤ rm.slots) (hM : mm_Met g l Z rz (.ref a :: as) (zz_M S n) n (zz_QV n P)) (kr : ∀ (S1 : zz_S), P S1 → zz_E g l Y rm Q S1 n pc1 ls (st) k j) : zz_E g l Y rm Q S n pc ls stk k j := by
  subst hst
  refine mm_callI hd.1 hZ hM hlen hroom (by omega) (by omega) (fun v M1 n1 hQ => ?_) (fun i M1 n1 hQ => ?_)
  · obtain ⟨S1, e, hP⟩ := hQ
    cases e
    rw [hz.1, hz.2]
    exact zz_rw hd.2 (kr S1 hP)
  · obtain ⟨S1, e, hP⟩ := hQ
    cases e
end ZC
end
section
/-! Frames, cells by number, and helpers. By program (wip/zz/gen42.py). -/
def zz_fr (sl : List (Nat × Nat)) (cl : List Nat) (V : Nat → Nat → Prop) (S S1 : zz_S) : Prop := ∀ a i, sl.contains (a, i) = false → cl.contains a = false → ¬ V a i → S1 a i = S a i
theorem zz_fr.refl {sl : List (Nat × Nat)} {cl : List Nat} {V : Nat → Nat → Prop} {S : zz_S} : zz_fr sl cl V S S := fun _ _ _ _ _ => rfl
theorem zz_fr.puts {sl : List (Nat × Nat)} {cl : List Nat} {V : Nat → Nat → Prop} {S0 S S1 : zz_S} {a i : Nat} {z : Int} (h : zz_fr sl cl V S0 S) (e : S1 = zz_st S a i z) (hm : sl.contains (a, i) = true) : zz_fr sl cl V S0 S1 := by
  intro b j h1 h2 h3
  rw [e, zz_st_n (fun q => by rw [q.1, q.2, hm] at h1; cases h1)]
  exact h b j h1 h2 h3
theorem zz_fr.putc {sl : List (Nat × Nat)} {cl : List Nat} {V : Nat → Nat → Prop} {S0 S S1 : zz_S} {a i : Nat} {z : Int} (h : zz_fr sl cl V S0 S) (e : S1 = zz_st S a i z) (hm : cl.contains a = true) : zz_fr sl cl V S0 S1 := by
  intro b j h1 h2 h3
  rw [e, zz_st_n (fun q => by rw [q.1, hm] at h2; cases h2)]
  exact h b j h1 h2 h3
theorem zz_fr.putv {sl : List (Nat × Nat)} {cl : List Nat} {V : Nat → Nat → Prop} {S0 S S1 : zz_S} {a i : Nat} {z : Int} (h : zz_fr sl cl V S0 S) (e : S1 = zz_st S a i z) (hm : V a i) : zz_fr sl cl V S0 S1 := by
  intro b j h1 h2 h3
  rw [e, zz_st_n (fun q => h3 (by rw [q.1, q.2]; exact hm))]
  exact h b j h1 h2 h3
def zz_sb (sl' : List (Nat × Nat)) (cl' : List Nat) (sl : List (Nat × Nat)) (cl : List Nat) : Bool := sl'.all (fun p => sl.contains p || cl.contains p.1) && cl'.all (fun a => cl.contains a)
theorem zz_fr.trans {sl sl' : List (Nat × Nat)} {cl cl' : List Nat} {V V' : Nat → Nat → Prop} {S0 S S1 : zz_S} (h : zz_fr sl cl V S0 S) (h1 : zz_fr sl' cl' V' S S1) (hs : zz_sb sl' cl' sl cl = true) (hv : ∀ a i, V' a i → sl.contains (a, i) = true ∨ cl.contains a = true ∨ V a i) : zz_fr sl cl V S0 S1 := by
  simp only [zz_sb, Bool.and_eq_true, List.all_eq_true, Bool.or_eq_true] at hs
  intro a i q1 q2 q3
  refine (h1 a i ?_ ?_ ?_).trans (h a i q1 q2 q3)
  · cases e : sl'.contains (a, i) with
    | false => rfl
    | true =>
      have := hs.1 (a, i) (by simpa using e)
      rw [q1, q2] at this
      simp at this
  · cases e : cl'.contains a with
    | false => rfl
    | true =>
      have := hs.2 a (by simpa using e)
      rw [q2] at this
      cases this
  · intro z
    rcases hv a i z with w | w | w
    · rw [q1] at w; cases w
    · rw [q2] at w; cases w
    · exact q3 w
theorem zz_fr.eq {S S1 : zz_S} (h : zz_fr [] [] (fun _ _ => False) S S1) : S = S1 := by
  funext a i
  exact (h a i rfl rfl (fun h => h)).symm
theorem zz_nv {V : Nat → Nat → Prop} {sl : List (Nat × Nat)} {cl : List Nat} : ∀ a i, (fun (_ _ : Nat) => False) a i → sl.contains (a, i) = true ∨ cl.contains a = true ∨ V a i := fun _ _ h => h.elim
theorem zz_rs {S S1 : zz_S} {a i : Nat} {z : Int} (e : S1 = zz_st S a i z) : S1 a i = z := by rw [e, zz_st_s]
theorem zz_ro {S S1 : zz_S} {a i b j : Nat} {z v : Int} (e : S1 = zz_st S a i z) (h : ¬ (b = a ∧ j = i)) (hv : S b j = v) : S1 b j = v := by rw [e, zz_st_n h, hv]
theorem zz_rc {sl : List (Nat × Nat)} {cl : List Nat} {V : Nat → Nat → Prop} {S S1 : zz_S} {a i : Nat} {v : Int} (f : zz_fr sl cl V S S1) (h1 : sl.contains (a, i) = false) (h2 : cl.contains a = false) (h3 : ¬ V a i) (hv : S a i = v) : S1 a i = v := (f a i h1 h2 h3).trans hv
theorem zz_nc1 {sl : List (Nat × Nat)} {a i : Nat} (h : sl.all (fun p => !(p.1 == a)) = true) : sl.contains (a, i) = false := by
  cases e : sl.contains (a, i) with
  | false => rfl
  | true =>
    have := List.all_eq_true.mp h (a, i) (by simpa using e)
    simp at this
theorem zz_ltn {a n : Nat} (h : zz_end ≤ n) (e : Nat.blt a zz_end = true) : a < n := Nat.lt_of_lt_of_le (Nat.blt_eq.mp e) h
theorem zz_G.eq {S : zz_S} (h : zz_G S) (a i : Nat) (c : Int) (e : zz_rg a i = (c, c)) (ha : Nat.ble 1000 a = true) : S a i = c := by
  have := h.at a i c c e (Nat.le_of_ble_eq_true ha)
  omega
theorem zz_G.r {S : zz_S} (h : zz_G S) (a i : Nat) (lo hi : Int) (e : zz_rg a i = (lo, hi)) (ha : Nat.ble 1000 a = true) : lo ≤ S a i ∧ S a i ≤ hi := h.at a i lo hi e (Nat.le_of_ble_eq_true ha)
section ZH
variable {g : mm_G} {l : Launch} {Y : mm_Y} {rm : Room} {Q : mm_O → Prop} {pc pc1 : Nat} {ls : List (Option Value)} {st : List Value} {S : zz_S} {n k j : Nat}
theorem zz_nme {e : Int} (kk : ∀ w : Int, w = e → zz_E g l Y rm Q S n pc ls (zi w :: st) k j) : zz_E g l Y rm Q S n pc ls (zi e :: st) k j := kk e rfl
theorem zz_nmel {e : Int} (kk : ∀ w : Int, w = e → zz_E g l Y rm Q S n pc ls (zl w :: st) k j) : zz_E g l Y rm Q S n pc ls (zl e :: st) k j := kk e rfl
theorem zz_iincN {i : Nat} {c x : Int} (ls1 : Int → List (Option Value)) (hd : zz_D Y pc (.iinc i c) 3 pc1) (hg : mm_lg ls i = some (zi x)) (hl : ∀ v, mm_st1 ls i (zi v) = ls1 v) (kk : ∀ v : Int, (-2147483648 ≤ v ∧ v ≤ 2147483647) → (-2147483648 ≤ x + c ∧ x + c ≤ 2147483647 → v = x + c) → zz_E g l Y rm Q S n pc1 (ls1 v) st k j) : zz_E g l Y rm Q S n pc ls st k j := by
  have h := kk (Int32.ofInt (x + c)).toInt (zz_r32 _) (fun h => zz_t32 h)
  refine zz_iinc (ls1 (Int32.ofInt (x + c)).toInt) hd hg ?_ h
  rw [← hl]
  unfold zi
  rw [zz_bm32]
theorem zz_pc {pc2 : Nat} (e : pc = pc2) (kk : zz_E g l Y rm Q S n pc2 ls st k j) : zz_E g l Y rm Q S n pc ls st k j := e ▸ kk
theorem zz_mmax {index : Nat} {x y : Int} (hx : -2147483648 ≤ x ∧ x ≤ 2147483647) (hy : -2147483648 ≤ y ∧ y ≤ 2147483647) (hd : zz_D Y pc (.invokestatic index) 3 pc1) (hw : Cond.methodLink Y.1.cls index Lib.Math.max.name ∈ mm_tb ∧ Cond.static Lib.Math.max.name ∈ mm_tb ∧ Cond.initialized "java/lang/Math" ∈ mm_tb ∧ Cond.code Lib.Math.max.name Lib.Math.max.code 2 (some .int) ∈ mm_tb) (hroom : 1 ≤ rm.frames ∧ (st.map fun v => v.category).sum + 13 ≤ rm.locals) (hk : k ≤ rm.cells) (hj : j ≤ rm.slots) (kk : ∀ v : Int, ((x < y ∧ v = y) ∨ (y ≤ x ∧ v = x)) → zz_E g l Y rm Q S n pc1 ls (zi v :: st) k j) : zz_E g l Y rm Q S n pc ls (zi y :: zi x :: st) k j := by
  refine mm_mmax hd.1 hw hroom hk hj (zz_rw hd.2 ?_)
  by_cases h : x < y
  · rw [if_pos ((zz_lt32 hx hy).mpr h)]; exact kk y (Or.inl ⟨h, rfl⟩)
  · rw [if_neg (fun q => h ((zz_lt32 hx hy).mp q))]; exact kk x (Or.inr ⟨Int.not_lt.mp h, rfl⟩)
theorem zz_mmin {index : Nat} {x y : Int} (hx : -2147483648 ≤ x ∧ x ≤ 2147483647) (hy : -2147483648 ≤ y ∧ y ≤ 2147483647) (hd : zz_D Y pc (.invokestatic index) 3 pc1) (hw : Cond.methodLink Y.1.cls index Lib.Math.min.name ∈ mm_tb ∧ Cond.static Lib.Math.min.name ∈ mm_tb ∧ Cond.initialized "java/lang/Math" ∈ mm_tb ∧ Cond.code Lib.Math.min.name Lib.Math.min.code 2 (some .int) ∈ mm_tb) (hroom : 1 ≤ rm.frames ∧ (st.map fun v => v.category).sum + 13 ≤ rm.locals) (hk : k ≤ rm.cells) (hj : j ≤ rm.slots) (kk : ∀ v : Int, ((y < x ∧ v = y) ∨ (x ≤ y ∧ v = x)) → zz_E g l Y rm Q S n pc1 ls (zi v :: st) k j) : zz_E g l Y rm Q S n pc ls (zi y :: zi x :: st) k j := by
  refine mm_mmin hd.1 hw hroom hk hj (zz_rw hd.2 ?_)
  by_cases h : y < x
  · rw [if_pos ((zz_lt32 hy hx).mpr h)]; exact kk y (Or.inl ⟨h, rfl⟩)
  · rw [if_neg (fun q => h ((zz_lt32 hy hx).mp q))]; exact kk x (Or.inr ⟨Int.not_lt.mp h, rfl⟩)
theorem zz_lt64 {a b : Int} (ha : -9223372036854775808 ≤ a ∧ a ≤ 9223372036854775807) (hb : -9223372036854775808 ≤ b ∧ b ≤ 9223372036854775807) : Int64.ofInt a < Int64.ofInt b ↔ a < b := by
  rw [Int64.lt_iff_toInt_lt, zz_t64 ha, zz_t64 hb]
theorem zz_mmaxl {index : Nat} {x y : Int} (hx : -9223372036854775808 ≤ x ∧ x ≤ 9223372036854775807) (hy : -9223372036854775808 ≤ y ∧ y ≤ 9223372036854775807) (hd : zz_D Y pc (.invokestatic index) 3 pc1) (hw : Cond.methodLink Y.1.cls index Lib.MathLoose.max_long.x ∈ mm_tb ∧ Cond.static Lib.MathLoose.max_long.x ∈ mm_tb ∧ Cond.initialized "java/lang/Math" ∈ mm_tb ∧ Cond.code Lib.MathLoose.max_long.x Lib.MathLoose.max_long.code 4 (some .long) ∈ mm_tb) (hroom : 1 ≤ rm.frames ∧ (st.map fun v => v.category).sum + 15 ≤ rm.locals) (hk : k ≤ rm.cells) (hj : j ≤ rm.slots) (kk : ∀ v : Int, ((y < x ∧ v = x) ∨ (x ≤ y ∧ v = y)) → zz_E g l Y rm Q S n pc1 ls (zl v :: st) k j) : zz_E g l Y rm Q S n pc ls (zl y :: zl x :: st) k j := by
  refine mm_mmaxl hd.1 hw hroom hk hj (zz_rw hd.2 ?_)
  by_cases h : y < x
  · rw [if_pos ((zz_lt64 hy hx).mpr h)]; exact kk x (Or.inl ⟨h, rfl⟩)
  · rw [if_neg (fun q => h ((zz_lt64 hy hx).mp q))]; exact kk y (Or.inr ⟨Int.not_lt.mp h, rfl⟩)
theorem zz_mminl {index : Nat} {x y : Int} (hx : -9223372036854775808 ≤ x ∧ x ≤ 9223372036854775807) (hy : -9223372036854775808 ≤ y ∧ y ≤ 9223372036854775807) (hd : zz_D Y pc (.invokestatic index) 3 pc1) (hw : Cond.methodLink Y.1.cls index Lib.MathLoose.min_long.x ∈ mm_tb ∧ Cond.static Lib.MathLoose.min_long.x ∈ mm_tb ∧ Cond.initialized "java/lang/Math" ∈ mm_tb ∧ Cond.code Lib.MathLoose.min_long.x Lib.MathLoose.min_long.code 4 (some .long) ∈ mm_tb) (hroom : 1 ≤ rm.frames ∧ (st.map fun v => v.category).sum + 15 ≤ rm.locals) (hk : k ≤ rm.cells) (hj : j ≤ rm.slots) (kk : ∀ v : Int, ((y < x ∧ v = y) ∨ (x ≤ y ∧ v = x)) → zz_E g l Y rm Q S n pc1 ls (zl v :: st) k j) : zz_E g l Y rm Q S n pc ls (zl y :: zl x :: st) k j := by
  refine mm_mminl hd.1 hw hroom hk hj (zz_rw hd.2 ?_)
  by_cases h : y < x
  · rw [if_pos ((zz_lt64 hy hx).mpr h)]; exact kk y (Or.inl ⟨h, rfl⟩)
  · rw [if_neg (fun q => h ((zz_lt64 hy hx).mp q))]; exact kk x (Or.inr ⟨Int.not_lt.mp h, rfl⟩)
end ZH
theorem zT_1000 : zz_T 1000 = some (.inl (0, [2, 2, 2, 2, 2, 2, 2, 3, 3, 4, 4, 0])) := rfl
theorem zT_1001 : zz_T 1001 = some (.inl (1, [2, 0])) := rfl
theorem zT_1002 : zz_T 1002 = some (.inr (0, 12, 6)) := rfl
theorem zT_1003 : zz_T 1003 = some (.inl (2, [0, 0, 0, 0, 0, 0, 0, 0, 0, 0, 0, 0, 0, 0, 0])) := rfl
theorem zT_1004 : zz_T 1004 = some (.inl (2, [0, 0, 0, 0, 0, 0, 0, 0, 0, 0, 0, 0, 0, 0, 0])) := rfl
theorem zT_1005 : zz_T 1005 = some (.inl (2, [0, 0, 0, 0, 0, 0, 0, 0, 0, 0, 0, 0, 0, 0, 0])) := rfl
theorem zT_1006 : zz_T 1006 = some (.inl (2, [0, 0, 0, 0, 0, 0, 0, 0, 0, 0, 0, 0, 0, 0, 0])) := rfl
theorem zT_1007 : zz_T 1007 = some (.inl (2, [0, 0, 0, 0, 0, 0, 0, 0, 0, 0, 0, 0, 0, 0, 0])) := rfl
theorem zT_1008 : zz_T 1008 = some (.inl (2, [0, 0, 0, 0, 0, 0, 0, 0, 0, 0, 0, 0, 0, 0, 0])) := rfl
theorem zT_1009 : zz_T 1009 = some (.inl (2, [0, 0, 0, 0, 0, 0, 0, 0, 0, 0, 0, 0, 0, 0, 0])) := rfl
theorem zT_1010 : zz_T 1010 = some (.inl (2, [0, 0, 0, 0, 0, 0, 0, 0, 0, 0, 0, 0, 0, 0, 0])) := rfl
theorem zT_1011 : zz_T 1011 = some (.inl (2, [0, 0, 0, 0, 0, 0, 0, 0, 0, 0, 0, 0, 0, 0, 0])) := rfl
theorem zT_1012 : zz_T 1012 = some (.inl (2, [0, 0, 0, 0, 0, 0, 0, 0, 0, 0, 0, 0, 0, 0, 0])) := rfl
theorem zT_1013 : zz_T 1013 = some (.inl (2, [0, 0, 0, 0, 0, 0, 0, 0, 0, 0, 0, 0, 0, 0, 0])) := rfl
theorem zT_1014 : zz_T 1014 = some (.inl (2, [0, 0, 0, 0, 0, 0, 0, 0, 0, 0, 0, 0, 0, 0, 0])) := rfl
theorem zT_1015 : zz_T 1015 = some (.inl (1, [2, 0])) := rfl
theorem zT_1016 : zz_T 1016 = some (.inr (0, 12, 6)) := rfl
theorem zT_1017 : zz_T 1017 = some (.inl (2, [0, 0, 0, 0, 0, 0, 0, 0, 0, 0, 0, 0, 0, 0, 0])) := rfl
theorem zT_1018 : zz_T 1018 = some (.inl (2, [0, 0, 0, 0, 0, 0, 0, 0, 0, 0, 0, 0, 0, 0, 0])) := rfl
theorem zT_1019 : zz_T 1019 = some (.inl (2, [0, 0, 0, 0, 0, 0, 0, 0, 0, 0, 0, 0, 0, 0, 0])) := rfl
theorem zT_1020 : zz_T 1020 = some (.inl (2, [0, 0, 0, 0, 0, 0, 0, 0, 0, 0, 0, 0, 0, 0, 0])) := rfl
theorem zT_1021 : zz_T 1021 = some (.inl (2, [0, 0, 0, 0, 0, 0, 0, 0, 0, 0, 0, 0, 0, 0, 0])) := rfl
theorem zT_1022 : zz_T 1022 = some (.inl (2, [0, 0, 0, 0, 0, 0, 0, 0, 0, 0, 0, 0, 0, 0, 0])) := rfl
theorem zT_1023 : zz_T 1023 = some (.inl (2, [0, 0, 0, 0, 0, 0, 0, 0, 0, 0, 0, 0, 0, 0, 0])) := rfl
theorem zT_1024 : zz_T 1024 = some (.inl (2, [0, 0, 0, 0, 0, 0, 0, 0, 0, 0, 0, 0, 0, 0, 0])) := rfl
theorem zT_1025 : zz_T 1025 = some (.inl (2, [0, 0, 0, 0, 0, 0, 0, 0, 0, 0, 0, 0, 0, 0, 0])) := rfl
theorem zT_1026 : zz_T 1026 = some (.inl (2, [0, 0, 0, 0, 0, 0, 0, 0, 0, 0, 0, 0, 0, 0, 0])) := rfl
theorem zT_1027 : zz_T 1027 = some (.inl (2, [0, 0, 0, 0, 0, 0, 0, 0, 0, 0, 0, 0, 0, 0, 0])) := rfl
theorem zT_1028 : zz_T 1028 = some (.inl (2, [0, 0, 0, 0, 0, 0, 0, 0, 0, 0, 0, 0, 0, 0, 0])) := rfl
theorem zT_1029 : zz_T 1029 = some (.inr (1, 600, 1)) := rfl
theorem zT_1030 : zz_T 1030 = some (.inr (1, 600, 1)) := rfl
theorem zT_1031 : zz_T 1031 = some (.inl (3, [2, 2, 2, 2, 2, 5, 0, 0, 0, 0, 0, 0, 0, 0])) := rfl
theorem zT_1032 : zz_T 1032 = some (.inr (2, 4096, 0)) := rfl
theorem zT_1033 : zz_T 1033 = some (.inr (2, 512, 0)) := rfl
theorem zT_1034 : zz_T 1034 = some (.inr (2, 512, 0)) := rfl
theorem zT_1035 : zz_T 1035 = some (.inr (3, 256, 0)) := rfl
theorem zT_1036 : zz_T 1036 = some (.inr (2, 256, 0)) := rfl
theorem zT_1037 : zz_T 1037 = some (.inl (4, [2, 2, 2, 2])) := rfl
theorem zT_1038 : zz_T 1038 = some (.inr (3, 5, 0)) := rfl
theorem zT_1039 : zz_T 1039 = some (.inr (3, 5, 0)) := rfl
theorem zT_1040 : zz_T 1040 = some (.inr (3, 5, 0)) := rfl
theorem zT_1041 : zz_T 1041 = some (.inr (3, 5, 0)) := rfl
theorem zT_1042 : zz_T 1042 = some (.inl (5, [2, 2, 2, 2, 2, 2, 2, 2, 5, 0])) := rfl
theorem zT_1043 : zz_T 1043 = some (.inr (3, 10, 0)) := rfl
theorem zT_1044 : zz_T 1044 = some (.inr (1, 600, 1)) := rfl
theorem zT_1045 : zz_T 1045 = some (.inr (3, 600, 0)) := rfl
theorem zT_1046 : zz_T 1046 = some (.inr (3, 600, 0)) := rfl
theorem zT_1047 : zz_T 1047 = some (.inr (3, 3, 0)) := rfl
theorem zT_1048 : zz_T 1048 = some (.inr (3, 3, 0)) := rfl
theorem zT_1049 : zz_T 1049 = some (.inr (4, 3, 5)) := rfl
theorem zT_1050 : zz_T 1050 = some (.inl (4, [2, 2, 2, 2])) := rfl
theorem zT_1051 : zz_T 1051 = some (.inr (3, 5, 0)) := rfl
theorem zT_1052 : zz_T 1052 = some (.inr (3, 5, 0)) := rfl
theorem zT_1053 : zz_T 1053 = some (.inr (3, 5, 0)) := rfl
theorem zT_1054 : zz_T 1054 = some (.inr (3, 5, 0)) := rfl
theorem zT_1055 : zz_T 1055 = some (.inl (4, [2, 2, 2, 2])) := rfl
theorem zT_1056 : zz_T 1056 = some (.inr (3, 5, 0)) := rfl
theorem zT_1057 : zz_T 1057 = some (.inr (3, 5, 0)) := rfl
theorem zT_1058 : zz_T 1058 = some (.inr (3, 5, 0)) := rfl
theorem zT_1059 : zz_T 1059 = some (.inr (3, 5, 0)) := rfl
theorem zT_1060 : zz_T 1060 = some (.inl (4, [2, 2, 2, 2])) := rfl
theorem zT_1061 : zz_T 1061 = some (.inr (3, 5, 0)) := rfl
theorem zT_1062 : zz_T 1062 = some (.inr (3, 5, 0)) := rfl
theorem zT_1063 : zz_T 1063 = some (.inr (3, 5, 0)) := rfl
theorem zT_1064 : zz_T 1064 = some (.inr (3, 5, 0)) := rfl
theorem zT_1065 : zz_T 1065 = some (.inl (4, [2, 2, 2, 2])) := rfl
theorem zT_1066 : zz_T 1066 = some (.inr (3, 5, 0)) := rfl
theorem zT_1067 : zz_T 1067 = some (.inr (3, 5, 0)) := rfl
theorem zT_1068 : zz_T 1068 = some (.inr (3, 5, 0)) := rfl
theorem zT_1069 : zz_T 1069 = some (.inr (3, 5, 0)) := rfl
theorem zT_1070 : zz_T 1070 = some (.inl (6, [2, 0, 0, 0, 0, 0, 0])) := rfl
theorem zT_1071 : zz_T 1071 = some (.inr (5, 1500, 0)) := rfl
theorem zT_1072 : zz_T 1072 = some (.inl (7, [2, 0, 1, 0])) := rfl
theorem zT_1073 : zz_T 1073 = some (.inl (8, [2, 3, 2, 2, 0, 0, 0, 0, 0])) := rfl
theorem zT_1074 : zz_T 1074 = some (.inr (3, 11, 0)) := rfl
theorem zT_1075 : zz_T 1075 = some (.inr (3, 11, 0)) := rfl
theorem zT_1076 : zz_T 1076 = some (.inl (9, [4, 0, 0, 6, 6, 6, 0, 0, 0, 0, 0, 0, 0, 0, 0, 0, 0])) := rfl
theorem zT_1077 : zz_T 1077 = some (.inl (10, [2, 0])) := rfl
theorem zT_1078 : zz_T 1078 = some (.inr (5, 128, 0)) := rfl
theorem zT_1079 : zz_T 1079 = some (.inl (11, [0, 0, 2, 2, 2, 2, 2, 0, 2, 2, 0, 2, 2, 2, 0, 0, 0, 2, 2, 0, 2, 2, 2, 2, 2, 2, 2, 2, 0, 2, 0, 0, 0, 0, 0, 2, 0, 2, 2, 2, 2, 2, 2, 2, 2, 2, 2, 2, 2, 2, 0, 0, 0, 0, 0, 0, 0, 0, 2, 2, 0, 1, 2, 2, 1, 0, 0, 2, 2])) := rfl
theorem zT_1080 : zz_T 1080 = some (.inr (3, 4096, 0)) := rfl
theorem zT_1081 : zz_T 1081 = some (.inr (3, 512, 0)) := rfl
theorem zT_1082 : zz_T 1082 = some (.inr (3, 512, 0)) := rfl
theorem zT_1083 : zz_T 1083 = some (.inr (3, 256, 0)) := rfl
theorem zT_1084 : zz_T 1084 = some (.inr (3, 256, 0)) := rfl
theorem zT_1085 : zz_T 1085 = some (.inr (1, 601, 1)) := rfl
theorem zT_1086 : zz_T 1086 = some (.inr (1, 601, 1)) := rfl
theorem zT_1087 : zz_T 1087 = some (.inr (3, 12, 0)) := rfl
theorem zT_1088 : zz_T 1088 = some (.inr (3, 10, 0)) := rfl
theorem zT_1089 : zz_T 1089 = some (.inr (3, 10, 0)) := rfl
theorem zT_1090 : zz_T 1090 = some (.inr (3, 3, 0)) := rfl
theorem zT_1091 : zz_T 1091 = some (.inr (3, 4, 0)) := rfl
theorem zT_1092 : zz_T 1092 = some (.inr (3, 601, 0)) := rfl
theorem zT_1093 : zz_T 1093 = some (.inr (3, 601, 0)) := rfl
theorem zT_1094 : zz_T 1094 = some (.inr (3, 601, 0)) := rfl
theorem zT_1095 : zz_T 1095 = some (.inr (6, 601, 0)) := rfl
theorem zT_1096 : zz_T 1096 = some (.inr (3, 601, 0)) := rfl
theorem zT_1097 : zz_T 1097 = some (.inr (3, 3, 0)) := rfl
theorem zT_1098 : zz_T 1098 = some (.inr (3, 3, 0)) := rfl
theorem zT_1099 : zz_T 1099 = some (.inr (3, 1500, 0)) := rfl
theorem zT_1100 : zz_T 1100 = some (.inr (1, 24, 1)) := rfl
theorem zT_1101 : zz_T 1101 = some (.inr (3, 200, 0)) := rfl
theorem zT_1102 : zz_T 1102 = some (.inr (3, 11, 0)) := rfl
theorem zT_1103 : zz_T 1103 = some (.inr (3, 11, 0)) := rfl
theorem zT_1104 : zz_T 1104 = some (.inr (3, 11, 0)) := rfl
theorem zT_1105 : zz_T 1105 = some (.inr (3, 12, 0)) := rfl
theorem zT_1106 : zz_T 1106 = some (.inr (3, 10, 0)) := rfl
theorem zT_1107 : zz_T 1107 = some (.inr (3, 10, 0)) := rfl
theorem zT_1108 : zz_T 1108 = some (.inr (3, 10, 0)) := rfl
theorem zT_1109 : zz_T 1109 = some (.inr (3, 10, 0)) := rfl
theorem zT_1110 : zz_T 1110 = some (.inr (3, 10, 0)) := rfl
theorem zT_1111 : zz_T 1111 = some (.inr (3, 10, 0)) := rfl
theorem zT_1112 : zz_T 1112 = some (.inr (3, 10, 0)) := rfl
theorem zT_1113 : zz_T 1113 = some (.inr (3, 10, 0)) := rfl
theorem zT_1114 : zz_T 1114 = some (.inr (3, 10, 0)) := rfl
theorem zT_1115 : zz_T 1115 = some (.inr (3, 10, 0)) := rfl
theorem zT_1116 : zz_T 1116 = some (.inr (3, 10, 0)) := rfl
theorem zT_1117 : zz_T 1117 = some (.inr (1, 11, 1)) := rfl
theorem zT_1118 : zz_T 1118 = some (.inr (3, 8, 0)) := rfl
theorem zT_1119 : zz_T 1119 = some (.inr (3, 147, 0)) := rfl
theorem zT_1120 : zz_T 1120 = some (.inr (3, 12, 0)) := rfl
theorem zT_1121 : zz_T 1121 = some (.inr (1, 1, 1)) := rfl
theorem zT_k3 {z : Int} (h : 0 ≤ z ∧ z ≤ 1) : zz_T (zz_rf 3 z) = some (.inl (1, [2, 0])) := by
  have : z = 0 ∨ z = 1 := by omega
  rcases this with rfl | rfl <;> rfl
theorem zN_k3 {z : Int} {n : Nat} (hn : zz_end ≤ n) (h : 0 ≤ z ∧ z ≤ 1) : zz_rf 3 z < n := by
  have : z = 0 ∨ z = 1 := by omega
  refine Nat.lt_of_lt_of_le ?_ hn
  rcases this with rfl | rfl <;> decide
theorem zT_k3a {z : Int} (h : 0 ≤ z ∧ z ≤ 1) : zz_T (zz_rf 3 z + 1) = some (.inr (0, 12, 6)) := by
  have : z = 0 ∨ z = 1 := by omega
  rcases this with rfl | rfl <;> rfl
theorem zN_k3a {z : Int} {n : Nat} (hn : zz_end ≤ n) (h : 0 ≤ z ∧ z ≤ 1) : (zz_rf 3 z + 1) < n := by
  have : z = 0 ∨ z = 1 := by omega
  refine Nat.lt_of_lt_of_le ?_ hn
  rcases this with rfl | rfl <;> decide
theorem zT_k4 {z : Int} (h : 0 ≤ z ∧ z ≤ 1) : zz_T (zz_rf 4 z) = some (.inr (1, 600, 1)) := by
  have : z = 0 ∨ z = 1 := by omega
  rcases this with rfl | rfl <;> rfl
theorem zN_k4 {z : Int} {n : Nat} (hn : zz_end ≤ n) (h : 0 ≤ z ∧ z ≤ 1) : zz_rf 4 z < n := by
  have : z = 0 ∨ z = 1 := by omega
  refine Nat.lt_of_lt_of_le ?_ hn
  rcases this with rfl | rfl <;> decide
theorem zT_k5 {z : Int} (h : 0 ≤ z ∧ z ≤ 4) : zz_T (zz_rf 5 z) = some (.inl (4, [2, 2, 2, 2])) := by
  have : z = 0 ∨ z = 1 ∨ z = 2 ∨ z = 3 ∨ z = 4 := by omega
  rcases this with rfl | rfl | rfl | rfl | rfl <;> rfl
theorem zN_k5 {z : Int} {n : Nat} (hn : zz_end ≤ n) (h : 0 ≤ z ∧ z ≤ 4) : zz_rf 5 z < n := by
  have : z = 0 ∨ z = 1 ∨ z = 2 ∨ z = 3 ∨ z = 4 := by omega
  refine Nat.lt_of_lt_of_le ?_ hn
  rcases this with rfl | rfl | rfl | rfl | rfl <;> decide
theorem zT_k5a1 {z : Int} (h : 0 ≤ z ∧ z ≤ 4) : zz_T (zz_rf 5 z + 1) = some (.inr (3, 5, 0)) := by
  have : z = 0 ∨ z = 1 ∨ z = 2 ∨ z = 3 ∨ z = 4 := by omega
  rcases this with rfl | rfl | rfl | rfl | rfl <;> rfl
theorem zN_k5a1 {z : Int} {n : Nat} (hn : zz_end ≤ n) (h : 0 ≤ z ∧ z ≤ 4) : (zz_rf 5 z + 1) < n := by
  have : z = 0 ∨ z = 1 ∨ z = 2 ∨ z = 3 ∨ z = 4 := by omega
  refine Nat.lt_of_lt_of_le ?_ hn
  rcases this with rfl | rfl | rfl | rfl | rfl <;> decide
theorem zT_k5a2 {z : Int} (h : 0 ≤ z ∧ z ≤ 4) : zz_T (zz_rf 5 z + 2) = some (.inr (3, 5, 0)) := by
  have : z = 0 ∨ z = 1 ∨ z = 2 ∨ z = 3 ∨ z = 4 := by omega
  rcases this with rfl | rfl | rfl | rfl | rfl <;> rfl
theorem zN_k5a2 {z : Int} {n : Nat} (hn : zz_end ≤ n) (h : 0 ≤ z ∧ z ≤ 4) : (zz_rf 5 z + 2) < n := by
  have : z = 0 ∨ z = 1 ∨ z = 2 ∨ z = 3 ∨ z = 4 := by omega
  refine Nat.lt_of_lt_of_le ?_ hn
  rcases this with rfl | rfl | rfl | rfl | rfl <;> decide
theorem zT_k5a3 {z : Int} (h : 0 ≤ z ∧ z ≤ 4) : zz_T (zz_rf 5 z + 3) = some (.inr (3, 5, 0)) := by
  have : z = 0 ∨ z = 1 ∨ z = 2 ∨ z = 3 ∨ z = 4 := by omega
  rcases this with rfl | rfl | rfl | rfl | rfl <;> rfl
theorem zN_k5a3 {z : Int} {n : Nat} (hn : zz_end ≤ n) (h : 0 ≤ z ∧ z ≤ 4) : (zz_rf 5 z + 3) < n := by
  have : z = 0 ∨ z = 1 ∨ z = 2 ∨ z = 3 ∨ z = 4 := by omega
  refine Nat.lt_of_lt_of_le ?_ hn
  rcases this with rfl | rfl | rfl | rfl | rfl <;> decide
theorem zT_k5a4 {z : Int} (h : 0 ≤ z ∧ z ≤ 4) : zz_T (zz_rf 5 z + 4) = some (.inr (3, 5, 0)) := by
  have : z = 0 ∨ z = 1 ∨ z = 2 ∨ z = 3 ∨ z = 4 := by omega
  rcases this with rfl | rfl | rfl | rfl | rfl <;> rfl
theorem zN_k5a4 {z : Int} {n : Nat} (hn : zz_end ≤ n) (h : 0 ≤ z ∧ z ≤ 4) : (zz_rf 5 z + 4) < n := by
  have : z = 0 ∨ z = 1 ∨ z = 2 ∨ z = 3 ∨ z = 4 := by omega
  refine Nat.lt_of_lt_of_le ?_ hn
  rcases this with rfl | rfl | rfl | rfl | rfl <;> decide
theorem zT_k6 {z : Int} (h : 0 ≤ z ∧ z ≤ 23) : zz_T (zz_rf 6 z) = some (.inl (2, [0, 0, 0, 0, 0, 0, 0, 0, 0, 0, 0, 0, 0, 0, 0])) := by
  have : z = 0 ∨ z = 1 ∨ z = 2 ∨ z = 3 ∨ z = 4 ∨ z = 5 ∨ z = 6 ∨ z = 7 ∨ z = 8 ∨ z = 9 ∨ z = 10 ∨ z = 11 ∨ z = 12 ∨ z = 13 ∨ z = 14 ∨ z = 15 ∨ z = 16 ∨ z = 17 ∨ z = 18 ∨ z = 19 ∨ z = 20 ∨ z = 21 ∨ z = 22 ∨ z = 23 := by omega
  rcases this with rfl | rfl | rfl | rfl | rfl | rfl | rfl | rfl | rfl | rfl | rfl | rfl | rfl | rfl | rfl | rfl | rfl | rfl | rfl | rfl | rfl | rfl | rfl | rfl <;> rfl
theorem zN_k6 {z : Int} {n : Nat} (hn : zz_end ≤ n) (h : 0 ≤ z ∧ z ≤ 23) : zz_rf 6 z < n := by
  have : z = 0 ∨ z = 1 ∨ z = 2 ∨ z = 3 ∨ z = 4 ∨ z = 5 ∨ z = 6 ∨ z = 7 ∨ z = 8 ∨ z = 9 ∨ z = 10 ∨ z = 11 ∨ z = 12 ∨ z = 13 ∨ z = 14 ∨ z = 15 ∨ z = 16 ∨ z = 17 ∨ z = 18 ∨ z = 19 ∨ z = 20 ∨ z = 21 ∨ z = 22 ∨ z = 23 := by omega
  refine Nat.lt_of_lt_of_le ?_ hn
  rcases this with rfl | rfl | rfl | rfl | rfl | rfl | rfl | rfl | rfl | rfl | rfl | rfl | rfl | rfl | rfl | rfl | rfl | rfl | rfl | rfl | rfl | rfl | rfl | rfl <;> decide
theorem zz_band64 {x y v : Int} (hx : -9223372036854775808 ≤ x ∧ x ≤ 9223372036854775807) (hy : -9223372036854775808 ≤ y ∧ y ≤ 9223372036854775807) (e : v = (Int64.ofInt x &&& Int64.ofInt y).toInt) : (0 ≤ x → 0 ≤ v ∧ v ≤ x) ∧ (0 ≤ y → 0 ≤ v ∧ v ≤ y) := by
  have key : ∀ x y : Int64, 0 ≤ x.toInt → 0 ≤ (x &&& y).toInt ∧ (x &&& y).toInt ≤ x.toInt := by
    intro x y h
    have h1 : x.toBitVec.toInt = x.toInt := rfl
    have h2 : (x &&& y).toInt = (x.toBitVec &&& y.toBitVec).toInt := by rw [← Int64.toInt_toBitVec, Int64.toBitVec_and]
    have hm : x.toBitVec.msb = false := by
      rw [BitVec.msb_eq_toInt]
      simpa [h1] using h
    have hm2 : (x.toBitVec &&& y.toBitVec).msb = false := by rw [BitVec.msb_and, hm]; rfl
    rw [h2, ← h1, BitVec.toInt_eq_toNat_of_msb hm2, BitVec.toInt_eq_toNat_of_msb hm, BitVec.toNat_and]
    have := @Nat.and_le_left x.toBitVec.toNat y.toBitVec.toNat
    omega
  subst e
  refine ⟨fun h => ?_, fun h => ?_⟩
  · have := key (Int64.ofInt x) (Int64.ofInt y) (by rw [zz_t64 hx]; exact h)
    rw [zz_t64 hx] at this
    exact this
  · have := key (Int64.ofInt y) (Int64.ofInt x) (by rw [zz_t64 hy]; exact h)
    rw [zz_t64 hy, Int64.and_comm] at this
    exact this
theorem zz_lsr5 {x v : Int} (hx : 0 ≤ x ∧ x ≤ 9223372036854775807) (e : v = (Int64.ofInt x >>> ((Int32.ofInt 5).toInt64 &&& 63)).toInt) : v = x / 32 := by
  have h5 : (Int32.ofInt 5).toInt64 &&& 63 = 5 := by decide
  rw [h5] at e
  rw [e, ← Int64.toInt_toBitVec, Int64.toBitVec_shiftRight]
  have h6 : (BitVec.smod (Int64.toBitVec 5) 64).toNat = 5 := by decide
  rw [BitVec.sshiftRight', h6, BitVec.toInt_sshiftRight, Int64.toInt_toBitVec, zz_t64 (by omega)]
  exact Int.shiftRight_eq_div_pow x 5
theorem zz_sl1 {b v : Int} (hb : 0 ≤ b ∧ b ≤ 12) (e : v = (Int64.ofInt 1 <<< ((Int32.ofInt b).toInt64 &&& 63)).toInt) : (b = 0 ∧ v = 1) ∨ (b = 1 ∧ v = 2) ∨ (b = 2 ∧ v = 4) ∨ (b = 3 ∧ v = 8) ∨ (b = 4 ∧ v = 16) ∨ (b = 5 ∧ v = 32) ∨ (b = 6 ∧ v = 64) ∨ (b = 7 ∧ v = 128) ∨ (b = 8 ∧ v = 256) ∨ (b = 9 ∧ v = 512) ∨ (b = 10 ∧ v = 1024) ∨ (b = 11 ∧ v = 2048) ∨ (b = 12 ∧ v = 4096) := by
  have : b = 0 ∨ b = 1 ∨ b = 2 ∨ b = 3 ∨ b = 4 ∨ b = 5 ∨ b = 6 ∨ b = 7 ∨ b = 8 ∨ b = 9 ∨ b = 10 ∨ b = 11 ∨ b = 12 := by omega
  subst e
  rcases this with rfl | rfl | rfl | rfl | rfl | rfl | rfl | rfl | rfl | rfl | rfl | rfl | rfl <;> decide
theorem zz_mulb {a b : Int} (A B C : Int) (ha : 0 ≤ a ∧ a ≤ A) (hb : 0 ≤ b ∧ b ≤ B) (hC : A * B = C) : 0 ≤ a * b ∧ a * b ≤ C := by
  refine ⟨Int.mul_nonneg ha.1 hb.1, ?_⟩
  rw [← hC]
  exact Int.mul_le_mul ha.2 hb.2 hb.1 (Int.le_trans ha.1 ha.2)
theorem zz_rf3 {z : Int} (h : 0 ≤ z ∧ z ≤ 1) : (zz_rf 3 z : Int) = 1001 + 14 * z := by
  have : z = 0 ∨ z = 1 := by omega
  rcases this with rfl | rfl <;> rfl
theorem zz_rf6 {z : Int} (h : 0 ≤ z ∧ z ≤ 23) : (z < 12 ∧ (zz_rf 6 z : Int) = 1003 + z) ∨ (12 ≤ z ∧ (zz_rf 6 z : Int) = 1005 + z) := by
  by_cases q : z < 12
  · have e : zz_rf 6 z = 1003 + z.toNat := if_pos q
    exact Or.inl ⟨q, by rw [e]; omega⟩
  · have e : zz_rf 6 z = 1005 + z.toNat := if_neg q
    exact Or.inr ⟨by omega, by rw [e]; omega⟩
theorem zz_rf5 {z : Int} (h : 0 ≤ z ∧ z ≤ 4) : (z = 4 ∧ (zz_rf 5 z : Int) = 1037) ∨ (z < 4 ∧ (zz_rf 5 z : Int) = 1050 + 5 * z) := by
  by_cases q : z = 4
  · have e : zz_rf 5 z = 1037 := if_pos q
    exact Or.inl ⟨q, by rw [e]; rfl⟩
  · have e : zz_rf 5 z = 1050 + 5 * z.toNat := if_neg q
    exact Or.inr ⟨by omega, by rw [e]; omega⟩
end
section
/-! Throws, and calls of methods that may throw. By program (wip/zz/gen43.py). -/
theorem zz_T_none {a : Nat} (h : zz_end ≤ a) : zz_T a = none := by
  have hl : zz_tab.length = 122 := rfl
  have h' : 1122 ≤ a := h
  unfold zz_T
  rw [if_neg (by omega)]
  exact List.getElem?_eq_none (by omega)
theorem zz_M_n {S : zz_S} {n : Nat} (hn : zz_end ≤ n) : zz_M S (n + 1) = zz_M S n := by
  funext a
  unfold zz_M
  by_cases h : a < n
  · rw [if_pos h, if_pos (by omega)]
  · rw [if_neg h]
    by_cases h2 : a < n + 1
    · rw [if_pos h2, zz_T_none (Nat.le_trans hn (Nat.not_lt.mp h))]; rfl
    · rw [if_neg h2]
def zz_XI (n : Nat) (P : Int → zz_S → Prop) (X : Nat → zz_S → Prop) : mm_O → Prop := fun u => (∃ v S1, u = (.inl (some (zi v)), zz_M S1 n, n) ∧ P v S1) ∨ (∃ i S1, u = (.inr i, zz_M S1 (n + 1), n + 1) ∧ X i S1)
def zz_XJ (n : Nat) (P : Int → zz_S → Prop) (X : Nat → zz_S → Prop) : mm_O → Prop := fun u => (∃ v S1, u = (.inl (some (zl v)), zz_M S1 n, n) ∧ P v S1) ∨ (∃ i S1, u = (.inr i, zz_M S1 (n + 1), n + 1) ∧ X i S1)
def zz_XV (n : Nat) (P : zz_S → Prop) (X : Nat → zz_S → Prop) : mm_O → Prop := fun u => (∃ S1, u = (.inl none, zz_M S1 n, n) ∧ P S1) ∨ (∃ i S1, u = (.inr i, zz_M S1 (n + 1), n + 1) ∧ X i S1)
def zz_Thr (Y : mm_Y) (pc ix is ic : Nat) : Prop := decode Y.2.1 pc = .ok (.new ix, 3) ∧ decode Y.2.1 (pc + 3) = .ok (.dup, 1) ∧ decode Y.2.1 (pc + 3 + 1) = .ok (.ldc is, 2) ∧ decode Y.2.1 (pc + 3 + 1 + 2) = .ok (.invokespecial ic, 3) ∧ decode Y.2.1 (pc + 3 + 1 + 2 + 3) = .ok (.athrow, 1)
def zz_ThrW (Y : mm_Y) (pc ix is ic : Nat) : Prop := decode Y.2.1 pc = .ok (.new ix, 3) ∧ decode Y.2.1 (pc + 3) = .ok (.dup, 1) ∧ decode Y.2.1 (pc + 3 + 1) = .ok (.ldc_w is, 3) ∧ decode Y.2.1 (pc + 3 + 1 + 3) = .ok (.invokespecial ic, 3) ∧ decode Y.2.1 (pc + 3 + 1 + 3 + 3) = .ok (.athrow, 1)
section ZX
variable {g : mm_G} {l : Launch} {Y : mm_Y} {rm : Room} {Q : mm_O → Prop} {pc pc1 : Nat} {ls : List (Option Value)} {st : List Value} {S : zz_S} {n k j : Nat}
theorem zz_throw {ix is ic i np : Nat} (hfl : l.flags = flags0) (hn : zz_end ≤ n) (hd : zz_Thr Y pc ix is ic) (hY : mm_Yw Y np) (hXl : mm_Xl Y.1.cls ix is ic i) (hk : k + 1 ≤ rm.cells) (hj : j + 6 ≤ rm.slots) (hroom : 5 < rm.frames ∧ (st.map fun v => v.category).sum + 82 ≤ rm.locals) (hQ : Q (.inr i, zz_M S (n + 1), n + 1)) : zz_E g l Y rm Q S n pc ls st k j :=
  mm_throw hfl hd.1 hd.2.1 hd.2.2.1 hd.2.2.2.1 hd.2.2.2.2 hY hXl hk hj hroom (by rw [← zz_M_n hn]; exact hQ)
theorem zz_throwW {ix is ic i np : Nat} (hfl : l.flags = flags0) (hn : zz_end ≤ n) (hd : zz_ThrW Y pc ix is ic) (hY : mm_Yw Y np) (hXl : mm_Xl Y.1.cls ix is ic i) (hk : k + 1 ≤ rm.cells) (hj : j + 6 ≤ rm.slots) (hroom : 5 < rm.frames ∧ (st.map fun v => v.category).sum + 82 ≤ rm.locals) (hQ : Q (.inr i, zz_M S (n + 1), n + 1)) : zz_E g l Y rm Q S n pc ls st k j :=
  mm_throwW hfl hd.1 hd.2.1 hd.2.2.1 hd.2.2.2.1 hd.2.2.2.2 hY hXl hk hj hroom (by rw [← zz_M_n hn]; exact hQ)
theorem zz_callVXI {Z : mm_Y} {rz : Room} {P : Int → zz_S → Prop} {X : Nat → zz_S → Prop} {a ci index np nq : Nat} {ks : List Nat} {stk : List Value} (as : List Value) (hd : zz_D Y pc (.invokevirtual index) 3 pc1) (hZ : mm_Vl Y.1.cls index ci np Z) (hT : zz_T a = some (.inl (ci, ks))) (hn : a < n) (hst : stk = as.reverse ++ .ref a :: st) (hlen : as.length = np) (hroom : rz.frames + 1 ≤ rm.frames ∧ (st.map fun v => v.category).sum + (Z.2.2.1 + 11) + rz.locals ≤ rm.locals) (hk : k + rz.cells ≤ rm.cells) (hj : j + rz.slots ≤ rm.slots) (hM : mm_Met g l Z rz (.ref a :: as) (zz_M S n) n (zz_XI n P X)) (hY : mm_Yw Y nq) (kx : ∀ i S1, X i S1 → Q (.inr i, zz_M S1 (n + 1), n + 1)) (kr : ∀ (v : Int) (S1 : zz_S), P v S1 → zz_E g l Y rm Q S1 n pc1 ls (zi v :: st) (k + rz.cells) (j + rz.slots)) : zz_E g l Y rm Q S n pc ls stk k j := by
  subst hst
  refine mm_callV hd.1 hZ hM (zz_M_at hn hT) hlen hroom hk hj (fun v M1 n1 hQ => ?_) (fun i M1 n1 hQ => ?_)
  · rcases hQ with ⟨v1, S1, e, hP⟩ | ⟨i, S1, e, hX⟩
    · cases e
      exact zz_rw hd.2 (kr v1 S1 hP)
    · cases e
  · rcases hQ with ⟨v1, S1, e, hP⟩ | ⟨i, S1, e, hX⟩
    · cases e
    · cases e
      exact mm_out hY hk hj (kx _ _ hX)
theorem zz_callVXJ {Z : mm_Y} {rz : Room} {P : Int → zz_S → Prop} {X : Nat → zz_S → Prop} {a ci index np nq : Nat} {ks : List Nat} {stk : List Value} (as : List Value) (hd : zz_D Y pc (.invokevirtual index) 3 pc1) (hZ : mm_Vl Y.1.cls index ci np Z) (hT : zz_T a = some (.inl (ci, ks))) (hn : a < n) (hst : stk = as.reverse ++ .ref a :: st) (hlen : as.length = np) (hroom : rz.frames + 1 ≤ rm.frames ∧ (st.map fun v => v.category).sum + (Z.2.2.1 + 11) + rz.locals ≤ rm.locals) (hk : k + rz.cells ≤ rm.cells) (hj : j + rz.slots ≤ rm.slots) (hM : mm_Met g l Z rz (.ref a :: as) (zz_M S n) n (zz_XJ n P X)) (hY : mm_Yw Y nq) (kx : ∀ i S1, X i S1 → Q (.inr i, zz_M S1 (n + 1), n + 1)) (kr : ∀ (v : Int) (S1 : zz_S), P v S1 → zz_E g l Y rm Q S1 n pc1 ls (zl v :: st) (k + rz.cells) (j + rz.slots)) : zz_E g l Y rm Q S n pc ls stk k j := by
  subst hst
  refine mm_callV hd.1 hZ hM (zz_M_at hn hT) hlen hroom hk hj (fun v M1 n1 hQ => ?_) (fun i M1 n1 hQ => ?_)
  · rcases hQ with ⟨v1, S1, e, hP⟩ | ⟨i, S1, e, hX⟩
    · cases e
      exact zz_rw hd.2 (kr v1 S1 hP)
    · cases e
  · rcases hQ with ⟨v1, S1, e, hP⟩ | ⟨i, S1, e, hX⟩
    · cases e
    · cases e
      exact mm_out hY hk hj (kx _ _ hX)
theorem zz_callVXV {Z : mm_Y} {rz : Room} {P : zz_S → Prop} {X : Nat → zz_S → Prop} {a ci index np nq : Nat} {ks : List Nat} {stk : List Value} (as : List Value) (hd : zz_D Y pc (.invokevirtual index) 3 pc1) (hZ : mm_Vl Y.1.cls index ci np Z) (hT : zz_T a = some (.inl (ci, ks))) (hn : a < n) (hst : stk = as.reverse ++ .ref a :: st) (hlen : as.length = np) (hroom : rz.frames + 1 ≤ rm.frames ∧ (st.map fun v => v.category).sum + (Z.2.2.1 + 11) + rz.locals ≤ rm.locals) (hk : k + rz.cells ≤ rm.cells) (hj : j + rz.slots ≤ rm.slots) (hM : mm_Met g l Z rz (.ref a :: as) (zz_M S n) n (zz_XV n P X)) (hY : mm_Yw Y nq) (kx : ∀ i S1, X i S1 → Q (.inr i, zz_M S1 (n + 1), n + 1)) (kr : ∀ (S1 : zz_S), P S1 → zz_E g l Y rm Q S1 n pc1 ls (st) (k + rz.cells) (j + rz.slots)) : zz_E g l Y rm Q S n pc ls stk k j := by
  subst hst
  refine mm_callV hd.1 hZ hM (zz_M_at hn hT) hlen hroom hk hj (fun v M1 n1 hQ => ?_) (fun i M1 n1 hQ => ?_)
  · rcases hQ with ⟨S1, e, hP⟩ | ⟨i, S1, e, hX⟩
    · cases e
      exact zz_rw hd.2 (kr S1 hP)
    · cases e
  · rcases hQ with ⟨S1, e, hP⟩ | ⟨i, S1, e, hX⟩
    · cases e
    · cases e
      exact mm_out hY hk hj (kx _ _ hX)
end ZX
end
section
/-! Families of cells: networks (3), words (4), reaches (5), layers (6). By program (wip/zz/gen44.py). -/
theorem zM_k3 {cl : List Nat} {z : Int} (h : 0 ≤ z ∧ z ≤ 1) (e : [1001, 1015].all (fun a => cl.contains a) = true) : cl.contains (zz_rf 3 z) = true := by
  have : z = 0 ∨ z = 1 := by omega
  have q := List.all_eq_true.mp e
  rcases this with rfl | rfl <;> exact q _ (by decide)
theorem zQ_k3 {cl : List Nat} {z : Int} (h : 0 ≤ z ∧ z ≤ 1) (e : [1001, 1015].all (fun a => !cl.contains a) = true) : cl.contains (zz_rf 3 z) = false := by
  have : z = 0 ∨ z = 1 := by omega
  have q := List.all_eq_true.mp e
  rcases this with rfl | rfl <;> exact (Bool.not_eq_true' _).mp (q _ (by decide))
theorem zP_k3 {sl : List (Nat × Nat)} {i : Nat} {z : Int} (h : 0 ≤ z ∧ z ≤ 1) (e : sl.all (fun p => ![1001, 1015].contains p.1) = true) : sl.contains (zz_rf 3 z, i) = false := by
  have : z = 0 ∨ z = 1 := by omega
  cases w : sl.contains (zz_rf 3 z, i) with
  | false => rfl
  | true =>
    have q := List.all_eq_true.mp e (zz_rf 3 z, i) (by simpa using w)
    rcases this with rfl | rfl <;> exact absurd (show false = true from q) (by decide)
theorem zB_k3 {z : Int} (h : 0 ≤ z ∧ z ≤ 1) : Nat.ble 1000 (zz_rf 3 z) = true := by
  have : z = 0 ∨ z = 1 := by omega
  rcases this with rfl | rfl <;> rfl
theorem zR_k3_1 {z : Int} (h : 0 ≤ z ∧ z ≤ 1) : zz_rg (zz_rf 3 z) 1 = (1, 11) := by
  have : z = 0 ∨ z = 1 := by omega
  rcases this with rfl | rfl <;> rfl
theorem zM_k3a {cl : List Nat} {z : Int} (h : 0 ≤ z ∧ z ≤ 1) (e : [1002, 1016].all (fun a => cl.contains a) = true) : cl.contains (zz_rf 3 z + 1) = true := by
  have : z = 0 ∨ z = 1 := by omega
  have q := List.all_eq_true.mp e
  rcases this with rfl | rfl <;> exact q _ (by decide)
theorem zQ_k3a {cl : List Nat} {z : Int} (h : 0 ≤ z ∧ z ≤ 1) (e : [1002, 1016].all (fun a => !cl.contains a) = true) : cl.contains (zz_rf 3 z + 1) = false := by
  have : z = 0 ∨ z = 1 := by omega
  have q := List.all_eq_true.mp e
  rcases this with rfl | rfl <;> exact (Bool.not_eq_true' _).mp (q _ (by decide))
theorem zP_k3a {sl : List (Nat × Nat)} {i : Nat} {z : Int} (h : 0 ≤ z ∧ z ≤ 1) (e : sl.all (fun p => ![1002, 1016].contains p.1) = true) : sl.contains (zz_rf 3 z + 1, i) = false := by
  have : z = 0 ∨ z = 1 := by omega
  cases w : sl.contains (zz_rf 3 z + 1, i) with
  | false => rfl
  | true =>
    have q := List.all_eq_true.mp e (zz_rf 3 z + 1, i) (by simpa using w)
    rcases this with rfl | rfl <;> exact absurd (show false = true from q) (by decide)
theorem zB_k3a {z : Int} (h : 0 ≤ z ∧ z ≤ 1) : Nat.ble 1000 (zz_rf 3 z + 1) = true := by
  have : z = 0 ∨ z = 1 := by omega
  rcases this with rfl | rfl <;> rfl
theorem zM_k4 {cl : List Nat} {z : Int} (h : 0 ≤ z ∧ z ≤ 1) (e : [1029, 1030].all (fun a => cl.contains a) = true) : cl.contains (zz_rf 4 z) = true := by
  have : z = 0 ∨ z = 1 := by omega
  have q := List.all_eq_true.mp e
  rcases this with rfl | rfl <;> exact q _ (by decide)
theorem zQ_k4 {cl : List Nat} {z : Int} (h : 0 ≤ z ∧ z ≤ 1) (e : [1029, 1030].all (fun a => !cl.contains a) = true) : cl.contains (zz_rf 4 z) = false := by
  have : z = 0 ∨ z = 1 := by omega
  have q := List.all_eq_true.mp e
  rcases this with rfl | rfl <;> exact (Bool.not_eq_true' _).mp (q _ (by decide))
theorem zP_k4 {sl : List (Nat × Nat)} {i : Nat} {z : Int} (h : 0 ≤ z ∧ z ≤ 1) (e : sl.all (fun p => ![1029, 1030].contains p.1) = true) : sl.contains (zz_rf 4 z, i) = false := by
  have : z = 0 ∨ z = 1 := by omega
  cases w : sl.contains (zz_rf 4 z, i) with
  | false => rfl
  | true =>
    have q := List.all_eq_true.mp e (zz_rf 4 z, i) (by simpa using w)
    rcases this with rfl | rfl <;> exact absurd (show false = true from q) (by decide)
theorem zB_k4 {z : Int} (h : 0 ≤ z ∧ z ≤ 1) : Nat.ble 1000 (zz_rf 4 z) = true := by
  have : z = 0 ∨ z = 1 := by omega
  rcases this with rfl | rfl <;> rfl
theorem zR_k4 {i : Nat} {z : Int} (h : 0 ≤ z ∧ z ≤ 1) : zz_rg (zz_rf 4 z) i = (-9223372036854775808, 9223372036854775807) := by
  have : z = 0 ∨ z = 1 := by omega
  rcases this with rfl | rfl <;> rfl
theorem zM_k5 {cl : List Nat} {z : Int} (h : 0 ≤ z ∧ z ≤ 4) (e : [1050, 1055, 1060, 1065, 1037].all (fun a => cl.contains a) = true) : cl.contains (zz_rf 5 z) = true := by
  have : z = 0 ∨ z = 1 ∨ z = 2 ∨ z = 3 ∨ z = 4 := by omega
  have q := List.all_eq_true.mp e
  rcases this with rfl | rfl | rfl | rfl | rfl <;> exact q _ (by decide)
theorem zQ_k5 {cl : List Nat} {z : Int} (h : 0 ≤ z ∧ z ≤ 4) (e : [1050, 1055, 1060, 1065, 1037].all (fun a => !cl.contains a) = true) : cl.contains (zz_rf 5 z) = false := by
  have : z = 0 ∨ z = 1 ∨ z = 2 ∨ z = 3 ∨ z = 4 := by omega
  have q := List.all_eq_true.mp e
  rcases this with rfl | rfl | rfl | rfl | rfl <;> exact (Bool.not_eq_true' _).mp (q _ (by decide))
theorem zP_k5 {sl : List (Nat × Nat)} {i : Nat} {z : Int} (h : 0 ≤ z ∧ z ≤ 4) (e : sl.all (fun p => ![1050, 1055, 1060, 1065, 1037].contains p.1) = true) : sl.contains (zz_rf 5 z, i) = false := by
  have : z = 0 ∨ z = 1 ∨ z = 2 ∨ z = 3 ∨ z = 4 := by omega
  cases w : sl.contains (zz_rf 5 z, i) with
  | false => rfl
  | true =>
    have q := List.all_eq_true.mp e (zz_rf 5 z, i) (by simpa using w)
    rcases this with rfl | rfl | rfl | rfl | rfl <;> exact absurd (show false = true from q) (by decide)
theorem zB_k5 {z : Int} (h : 0 ≤ z ∧ z ≤ 4) : Nat.ble 1000 (zz_rf 5 z) = true := by
  have : z = 0 ∨ z = 1 ∨ z = 2 ∨ z = 3 ∨ z = 4 := by omega
  rcases this with rfl | rfl | rfl | rfl | rfl <;> rfl
theorem zM_k5a1 {cl : List Nat} {z : Int} (h : 0 ≤ z ∧ z ≤ 4) (e : [1051, 1056, 1061, 1066, 1038].all (fun a => cl.contains a) = true) : cl.contains (zz_rf 5 z + 1) = true := by
  have : z = 0 ∨ z = 1 ∨ z = 2 ∨ z = 3 ∨ z = 4 := by omega
  have q := List.all_eq_true.mp e
  rcases this with rfl | rfl | rfl | rfl | rfl <;> exact q _ (by decide)
theorem zQ_k5a1 {cl : List Nat} {z : Int} (h : 0 ≤ z ∧ z ≤ 4) (e : [1051, 1056, 1061, 1066, 1038].all (fun a => !cl.contains a) = true) : cl.contains (zz_rf 5 z + 1) = false := by
  have : z = 0 ∨ z = 1 ∨ z = 2 ∨ z = 3 ∨ z = 4 := by omega
  have q := List.all_eq_true.mp e
  rcases this with rfl | rfl | rfl | rfl | rfl <;> exact (Bool.not_eq_true' _).mp (q _ (by decide))
theorem zP_k5a1 {sl : List (Nat × Nat)} {i : Nat} {z : Int} (h : 0 ≤ z ∧ z ≤ 4) (e : sl.all (fun p => ![1051, 1056, 1061, 1066, 1038].contains p.1) = true) : sl.contains (zz_rf 5 z + 1, i) = false := by
  have : z = 0 ∨ z = 1 ∨ z = 2 ∨ z = 3 ∨ z = 4 := by omega
  cases w : sl.contains (zz_rf 5 z + 1, i) with
  | false => rfl
  | true =>
    have q := List.all_eq_true.mp e (zz_rf 5 z + 1, i) (by simpa using w)
    rcases this with rfl | rfl | rfl | rfl | rfl <;> exact absurd (show false = true from q) (by decide)
theorem zB_k5a1 {z : Int} (h : 0 ≤ z ∧ z ≤ 4) : Nat.ble 1000 (zz_rf 5 z + 1) = true := by
  have : z = 0 ∨ z = 1 ∨ z = 2 ∨ z = 3 ∨ z = 4 := by omega
  rcases this with rfl | rfl | rfl | rfl | rfl <;> rfl
theorem zR_k5a1 {i : Nat} {z : Int} (h : 0 ≤ z ∧ z ≤ 4) : zz_rg (zz_rf 5 z + 1) i = (-2147483648, 2147483647) := by
  have : z = 0 ∨ z = 1 ∨ z = 2 ∨ z = 3 ∨ z = 4 := by omega
  rcases this with rfl | rfl | rfl | rfl | rfl <;> rfl
theorem zM_k5a2 {cl : List Nat} {z : Int} (h : 0 ≤ z ∧ z ≤ 4) (e : [1052, 1057, 1062, 1067, 1039].all (fun a => cl.contains a) = true) : cl.contains (zz_rf 5 z + 2) = true := by
  have : z = 0 ∨ z = 1 ∨ z = 2 ∨ z = 3 ∨ z = 4 := by omega
  have q := List.all_eq_true.mp e
  rcases this with rfl | rfl | rfl | rfl | rfl <;> exact q _ (by decide)
theorem zQ_k5a2 {cl : List Nat} {z : Int} (h : 0 ≤ z ∧ z ≤ 4) (e : [1052, 1057, 1062, 1067, 1039].all (fun a => !cl.contains a) = true) : cl.contains (zz_rf 5 z + 2) = false := by
  have : z = 0 ∨ z = 1 ∨ z = 2 ∨ z = 3 ∨ z = 4 := by omega
  have q := List.all_eq_true.mp e
  rcases this with rfl | rfl | rfl | rfl | rfl <;> exact (Bool.not_eq_true' _).mp (q _ (by decide))
theorem zP_k5a2 {sl : List (Nat × Nat)} {i : Nat} {z : Int} (h : 0 ≤ z ∧ z ≤ 4) (e : sl.all (fun p => ![1052, 1057, 1062, 1067, 1039].contains p.1) = true) : sl.contains (zz_rf 5 z + 2, i) = false := by
  have : z = 0 ∨ z = 1 ∨ z = 2 ∨ z = 3 ∨ z = 4 := by omega
  cases w : sl.contains (zz_rf 5 z + 2, i) with
  | false => rfl
  | true =>
    have q := List.all_eq_true.mp e (zz_rf 5 z + 2, i) (by simpa using w)
    rcases this with rfl | rfl | rfl | rfl | rfl <;> exact absurd (show false = true from q) (by decide)
theorem zB_k5a2 {z : Int} (h : 0 ≤ z ∧ z ≤ 4) : Nat.ble 1000 (zz_rf 5 z + 2) = true := by
  have : z = 0 ∨ z = 1 ∨ z = 2 ∨ z = 3 ∨ z = 4 := by omega
  rcases this with rfl | rfl | rfl | rfl | rfl <;> rfl
theorem zR_k5a2 {i : Nat} {z : Int} (h : 0 ≤ z ∧ z ≤ 4) : zz_rg (zz_rf 5 z + 2) i = (-2147483648, 2147483647) := by
  have : z = 0 ∨ z = 1 ∨ z = 2 ∨ z = 3 ∨ z = 4 := by omega
  rcases this with rfl | rfl | rfl | rfl | rfl <;> rfl
theorem zM_k5a3 {cl : List Nat} {z : Int} (h : 0 ≤ z ∧ z ≤ 4) (e : [1053, 1058, 1063, 1068, 1040].all (fun a => cl.contains a) = true) : cl.contains (zz_rf 5 z + 3) = true := by
  have : z = 0 ∨ z = 1 ∨ z = 2 ∨ z = 3 ∨ z = 4 := by omega
  have q := List.all_eq_true.mp e
  rcases this with rfl | rfl | rfl | rfl | rfl <;> exact q _ (by decide)
theorem zQ_k5a3 {cl : List Nat} {z : Int} (h : 0 ≤ z ∧ z ≤ 4) (e : [1053, 1058, 1063, 1068, 1040].all (fun a => !cl.contains a) = true) : cl.contains (zz_rf 5 z + 3) = false := by
  have : z = 0 ∨ z = 1 ∨ z = 2 ∨ z = 3 ∨ z = 4 := by omega
  have q := List.all_eq_true.mp e
  rcases this with rfl | rfl | rfl | rfl | rfl <;> exact (Bool.not_eq_true' _).mp (q _ (by decide))
theorem zP_k5a3 {sl : List (Nat × Nat)} {i : Nat} {z : Int} (h : 0 ≤ z ∧ z ≤ 4) (e : sl.all (fun p => ![1053, 1058, 1063, 1068, 1040].contains p.1) = true) : sl.contains (zz_rf 5 z + 3, i) = false := by
  have : z = 0 ∨ z = 1 ∨ z = 2 ∨ z = 3 ∨ z = 4 := by omega
  cases w : sl.contains (zz_rf 5 z + 3, i) with
  | false => rfl
  | true =>
    have q := List.all_eq_true.mp e (zz_rf 5 z + 3, i) (by simpa using w)
    rcases this with rfl | rfl | rfl | rfl | rfl <;> exact absurd (show false = true from q) (by decide)
theorem zB_k5a3 {z : Int} (h : 0 ≤ z ∧ z ≤ 4) : Nat.ble 1000 (zz_rf 5 z + 3) = true := by
  have : z = 0 ∨ z = 1 ∨ z = 2 ∨ z = 3 ∨ z = 4 := by omega
  rcases this with rfl | rfl | rfl | rfl | rfl <;> rfl
theorem zR_k5a3 {i : Nat} {z : Int} (h : 0 ≤ z ∧ z ≤ 4) : zz_rg (zz_rf 5 z + 3) i = (-2147483648, 2147483647) := by
  have : z = 0 ∨ z = 1 ∨ z = 2 ∨ z = 3 ∨ z = 4 := by omega
  rcases this with rfl | rfl | rfl | rfl | rfl <;> rfl
theorem zM_k5a4 {cl : List Nat} {z : Int} (h : 0 ≤ z ∧ z ≤ 4) (e : [1054, 1059, 1064, 1069, 1041].all (fun a => cl.contains a) = true) : cl.contains (zz_rf 5 z + 4) = true := by
  have : z = 0 ∨ z = 1 ∨ z = 2 ∨ z = 3 ∨ z = 4 := by omega
  have q := List.all_eq_true.mp e
  rcases this with rfl | rfl | rfl | rfl | rfl <;> exact q _ (by decide)
theorem zQ_k5a4 {cl : List Nat} {z : Int} (h : 0 ≤ z ∧ z ≤ 4) (e : [1054, 1059, 1064, 1069, 1041].all (fun a => !cl.contains a) = true) : cl.contains (zz_rf 5 z + 4) = false := by
  have : z = 0 ∨ z = 1 ∨ z = 2 ∨ z = 3 ∨ z = 4 := by omega
  have q := List.all_eq_true.mp e
  rcases this with rfl | rfl | rfl | rfl | rfl <;> exact (Bool.not_eq_true' _).mp (q _ (by decide))
theorem zP_k5a4 {sl : List (Nat × Nat)} {i : Nat} {z : Int} (h : 0 ≤ z ∧ z ≤ 4) (e : sl.all (fun p => ![1054, 1059, 1064, 1069, 1041].contains p.1) = true) : sl.contains (zz_rf 5 z + 4, i) = false := by
  have : z = 0 ∨ z = 1 ∨ z = 2 ∨ z = 3 ∨ z = 4 := by omega
  cases w : sl.contains (zz_rf 5 z + 4, i) with
  | false => rfl
  | true =>
    have q := List.all_eq_true.mp e (zz_rf 5 z + 4, i) (by simpa using w)
    rcases this with rfl | rfl | rfl | rfl | rfl <;> exact absurd (show false = true from q) (by decide)
theorem zB_k5a4 {z : Int} (h : 0 ≤ z ∧ z ≤ 4) : Nat.ble 1000 (zz_rf 5 z + 4) = true := by
  have : z = 0 ∨ z = 1 ∨ z = 2 ∨ z = 3 ∨ z = 4 := by omega
  rcases this with rfl | rfl | rfl | rfl | rfl <;> rfl
theorem zR_k5a4 {i : Nat} {z : Int} (h : 0 ≤ z ∧ z ≤ 4) : zz_rg (zz_rf 5 z + 4) i = (-2147483648, 2147483647) := by
  have : z = 0 ∨ z = 1 ∨ z = 2 ∨ z = 3 ∨ z = 4 := by omega
  rcases this with rfl | rfl | rfl | rfl | rfl <;> rfl
theorem zM_k6 {cl : List Nat} {z : Int} (h : 0 ≤ z ∧ z ≤ 23) (e : [1003, 1004, 1005, 1006, 1007, 1008, 1009, 1010, 1011, 1012, 1013, 1014, 1017, 1018, 1019, 1020, 1021, 1022, 1023, 1024, 1025, 1026, 1027, 1028].all (fun a => cl.contains a) = true) : cl.contains (zz_rf 6 z) = true := by
  have : z = 0 ∨ z = 1 ∨ z = 2 ∨ z = 3 ∨ z = 4 ∨ z = 5 ∨ z = 6 ∨ z = 7 ∨ z = 8 ∨ z = 9 ∨ z = 10 ∨ z = 11 ∨ z = 12 ∨ z = 13 ∨ z = 14 ∨ z = 15 ∨ z = 16 ∨ z = 17 ∨ z = 18 ∨ z = 19 ∨ z = 20 ∨ z = 21 ∨ z = 22 ∨ z = 23 := by omega
  have q := List.all_eq_true.mp e
  rcases this with rfl | rfl | rfl | rfl | rfl | rfl | rfl | rfl | rfl | rfl | rfl | rfl | rfl | rfl | rfl | rfl | rfl | rfl | rfl | rfl | rfl | rfl | rfl | rfl <;> exact q _ (by decide)
theorem zQ_k6 {cl : List Nat} {z : Int} (h : 0 ≤ z ∧ z ≤ 23) (e : [1003, 1004, 1005, 1006, 1007, 1008, 1009, 1010, 1011, 1012, 1013, 1014, 1017, 1018, 1019, 1020, 1021, 1022, 1023, 1024, 1025, 1026, 1027, 1028].all (fun a => !cl.contains a) = true) : cl.contains (zz_rf 6 z) = false := by
  have : z = 0 ∨ z = 1 ∨ z = 2 ∨ z = 3 ∨ z = 4 ∨ z = 5 ∨ z = 6 ∨ z = 7 ∨ z = 8 ∨ z = 9 ∨ z = 10 ∨ z = 11 ∨ z = 12 ∨ z = 13 ∨ z = 14 ∨ z = 15 ∨ z = 16 ∨ z = 17 ∨ z = 18 ∨ z = 19 ∨ z = 20 ∨ z = 21 ∨ z = 22 ∨ z = 23 := by omega
  have q := List.all_eq_true.mp e
  rcases this with rfl | rfl | rfl | rfl | rfl | rfl | rfl | rfl | rfl | rfl | rfl | rfl | rfl | rfl | rfl | rfl | rfl | rfl | rfl | rfl | rfl | rfl | rfl | rfl <;> exact (Bool.not_eq_true' _).mp (q _ (by decide))
theorem zP_k6 {sl : List (Nat × Nat)} {i : Nat} {z : Int} (h : 0 ≤ z ∧ z ≤ 23) (e : sl.all (fun p => ![1003, 1004, 1005, 1006, 1007, 1008, 1009, 1010, 1011, 1012, 1013, 1014, 1017, 1018, 1019, 1020, 1021, 1022, 1023, 1024, 1025, 1026, 1027, 1028].contains p.1) = true) : sl.contains (zz_rf 6 z, i) = false := by
  have : z = 0 ∨ z = 1 ∨ z = 2 ∨ z = 3 ∨ z = 4 ∨ z = 5 ∨ z = 6 ∨ z = 7 ∨ z = 8 ∨ z = 9 ∨ z = 10 ∨ z = 11 ∨ z = 12 ∨ z = 13 ∨ z = 14 ∨ z = 15 ∨ z = 16 ∨ z = 17 ∨ z = 18 ∨ z = 19 ∨ z = 20 ∨ z = 21 ∨ z = 22 ∨ z = 23 := by omega
  cases w : sl.contains (zz_rf 6 z, i) with
  | false => rfl
  | true =>
    have q := List.all_eq_true.mp e (zz_rf 6 z, i) (by simpa using w)
    rcases this with rfl | rfl | rfl | rfl | rfl | rfl | rfl | rfl | rfl | rfl | rfl | rfl | rfl | rfl | rfl | rfl | rfl | rfl | rfl | rfl | rfl | rfl | rfl | rfl <;> exact absurd (show false = true from q) (by decide)
theorem zB_k6 {z : Int} (h : 0 ≤ z ∧ z ≤ 23) : Nat.ble 1000 (zz_rf 6 z) = true := by
  have : z = 0 ∨ z = 1 ∨ z = 2 ∨ z = 3 ∨ z = 4 ∨ z = 5 ∨ z = 6 ∨ z = 7 ∨ z = 8 ∨ z = 9 ∨ z = 10 ∨ z = 11 ∨ z = 12 ∨ z = 13 ∨ z = 14 ∨ z = 15 ∨ z = 16 ∨ z = 17 ∨ z = 18 ∨ z = 19 ∨ z = 20 ∨ z = 21 ∨ z = 22 ∨ z = 23 := by omega
  rcases this with rfl | rfl | rfl | rfl | rfl | rfl | rfl | rfl | rfl | rfl | rfl | rfl | rfl | rfl | rfl | rfl | rfl | rfl | rfl | rfl | rfl | rfl | rfl | rfl <;> rfl
theorem zR_k6_0 {z : Int} (h : 0 ≤ z ∧ z ≤ 23) : zz_rg (zz_rf 6 z) 0 = (-2147483648, 2147483647) := by
  have : z = 0 ∨ z = 1 ∨ z = 2 ∨ z = 3 ∨ z = 4 ∨ z = 5 ∨ z = 6 ∨ z = 7 ∨ z = 8 ∨ z = 9 ∨ z = 10 ∨ z = 11 ∨ z = 12 ∨ z = 13 ∨ z = 14 ∨ z = 15 ∨ z = 16 ∨ z = 17 ∨ z = 18 ∨ z = 19 ∨ z = 20 ∨ z = 21 ∨ z = 22 ∨ z = 23 := by omega
  rcases this with rfl | rfl | rfl | rfl | rfl | rfl | rfl | rfl | rfl | rfl | rfl | rfl | rfl | rfl | rfl | rfl | rfl | rfl | rfl | rfl | rfl | rfl | rfl | rfl <;> rfl
theorem zR_k6_1 {z : Int} (h : 0 ≤ z ∧ z ≤ 23) : zz_rg (zz_rf 6 z) 1 = (-2147483648, 2147483647) := by
  have : z = 0 ∨ z = 1 ∨ z = 2 ∨ z = 3 ∨ z = 4 ∨ z = 5 ∨ z = 6 ∨ z = 7 ∨ z = 8 ∨ z = 9 ∨ z = 10 ∨ z = 11 ∨ z = 12 ∨ z = 13 ∨ z = 14 ∨ z = 15 ∨ z = 16 ∨ z = 17 ∨ z = 18 ∨ z = 19 ∨ z = 20 ∨ z = 21 ∨ z = 22 ∨ z = 23 := by omega
  rcases this with rfl | rfl | rfl | rfl | rfl | rfl | rfl | rfl | rfl | rfl | rfl | rfl | rfl | rfl | rfl | rfl | rfl | rfl | rfl | rfl | rfl | rfl | rfl | rfl <;> rfl
theorem zR_k6_2 {z : Int} (h : 0 ≤ z ∧ z ≤ 23) : zz_rg (zz_rf 6 z) 2 = (-2147483648, 2147483647) := by
  have : z = 0 ∨ z = 1 ∨ z = 2 ∨ z = 3 ∨ z = 4 ∨ z = 5 ∨ z = 6 ∨ z = 7 ∨ z = 8 ∨ z = 9 ∨ z = 10 ∨ z = 11 ∨ z = 12 ∨ z = 13 ∨ z = 14 ∨ z = 15 ∨ z = 16 ∨ z = 17 ∨ z = 18 ∨ z = 19 ∨ z = 20 ∨ z = 21 ∨ z = 22 ∨ z = 23 := by omega
  rcases this with rfl | rfl | rfl | rfl | rfl | rfl | rfl | rfl | rfl | rfl | rfl | rfl | rfl | rfl | rfl | rfl | rfl | rfl | rfl | rfl | rfl | rfl | rfl | rfl <;> rfl
theorem zR_k6_3 {z : Int} (h : 0 ≤ z ∧ z ≤ 23) : zz_rg (zz_rf 6 z) 3 = (-2147483648, 2147483647) := by
  have : z = 0 ∨ z = 1 ∨ z = 2 ∨ z = 3 ∨ z = 4 ∨ z = 5 ∨ z = 6 ∨ z = 7 ∨ z = 8 ∨ z = 9 ∨ z = 10 ∨ z = 11 ∨ z = 12 ∨ z = 13 ∨ z = 14 ∨ z = 15 ∨ z = 16 ∨ z = 17 ∨ z = 18 ∨ z = 19 ∨ z = 20 ∨ z = 21 ∨ z = 22 ∨ z = 23 := by omega
  rcases this with rfl | rfl | rfl | rfl | rfl | rfl | rfl | rfl | rfl | rfl | rfl | rfl | rfl | rfl | rfl | rfl | rfl | rfl | rfl | rfl | rfl | rfl | rfl | rfl <;> rfl
theorem zR_k6_4 {z : Int} (h : 0 ≤ z ∧ z ≤ 23) : zz_rg (zz_rf 6 z) 4 = (-2147483648, 2147483647) := by
  have : z = 0 ∨ z = 1 ∨ z = 2 ∨ z = 3 ∨ z = 4 ∨ z = 5 ∨ z = 6 ∨ z = 7 ∨ z = 8 ∨ z = 9 ∨ z = 10 ∨ z = 11 ∨ z = 12 ∨ z = 13 ∨ z = 14 ∨ z = 15 ∨ z = 16 ∨ z = 17 ∨ z = 18 ∨ z = 19 ∨ z = 20 ∨ z = 21 ∨ z = 22 ∨ z = 23 := by omega
  rcases this with rfl | rfl | rfl | rfl | rfl | rfl | rfl | rfl | rfl | rfl | rfl | rfl | rfl | rfl | rfl | rfl | rfl | rfl | rfl | rfl | rfl | rfl | rfl | rfl <;> rfl
theorem zR_k6_5 {z : Int} (h : 0 ≤ z ∧ z ≤ 23) : zz_rg (zz_rf 6 z) 5 = (-2147483648, 2147483647) := by
  have : z = 0 ∨ z = 1 ∨ z = 2 ∨ z = 3 ∨ z = 4 ∨ z = 5 ∨ z = 6 ∨ z = 7 ∨ z = 8 ∨ z = 9 ∨ z = 10 ∨ z = 11 ∨ z = 12 ∨ z = 13 ∨ z = 14 ∨ z = 15 ∨ z = 16 ∨ z = 17 ∨ z = 18 ∨ z = 19 ∨ z = 20 ∨ z = 21 ∨ z = 22 ∨ z = 23 := by omega
  rcases this with rfl | rfl | rfl | rfl | rfl | rfl | rfl | rfl | rfl | rfl | rfl | rfl | rfl | rfl | rfl | rfl | rfl | rfl | rfl | rfl | rfl | rfl | rfl | rfl <;> rfl
theorem zR_k6_6 {z : Int} (h : 0 ≤ z ∧ z ≤ 23) : zz_rg (zz_rf 6 z) 6 = (-2147483648, 2147483647) := by
  have : z = 0 ∨ z = 1 ∨ z = 2 ∨ z = 3 ∨ z = 4 ∨ z = 5 ∨ z = 6 ∨ z = 7 ∨ z = 8 ∨ z = 9 ∨ z = 10 ∨ z = 11 ∨ z = 12 ∨ z = 13 ∨ z = 14 ∨ z = 15 ∨ z = 16 ∨ z = 17 ∨ z = 18 ∨ z = 19 ∨ z = 20 ∨ z = 21 ∨ z = 22 ∨ z = 23 := by omega
  rcases this with rfl | rfl | rfl | rfl | rfl | rfl | rfl | rfl | rfl | rfl | rfl | rfl | rfl | rfl | rfl | rfl | rfl | rfl | rfl | rfl | rfl | rfl | rfl | rfl <;> rfl
theorem zR_k6_7 {z : Int} (h : 0 ≤ z ∧ z ≤ 23) : zz_rg (zz_rf 6 z) 7 = (-2147483648, 2147483647) := by
  have : z = 0 ∨ z = 1 ∨ z = 2 ∨ z = 3 ∨ z = 4 ∨ z = 5 ∨ z = 6 ∨ z = 7 ∨ z = 8 ∨ z = 9 ∨ z = 10 ∨ z = 11 ∨ z = 12 ∨ z = 13 ∨ z = 14 ∨ z = 15 ∨ z = 16 ∨ z = 17 ∨ z = 18 ∨ z = 19 ∨ z = 20 ∨ z = 21 ∨ z = 22 ∨ z = 23 := by omega
  rcases this with rfl | rfl | rfl | rfl | rfl | rfl | rfl | rfl | rfl | rfl | rfl | rfl | rfl | rfl | rfl | rfl | rfl | rfl | rfl | rfl | rfl | rfl | rfl | rfl <;> rfl
theorem zR_k6_8 {z : Int} (h : 0 ≤ z ∧ z ≤ 23) : zz_rg (zz_rf 6 z) 8 = (0, 1) := by
  have : z = 0 ∨ z = 1 ∨ z = 2 ∨ z = 3 ∨ z = 4 ∨ z = 5 ∨ z = 6 ∨ z = 7 ∨ z = 8 ∨ z = 9 ∨ z = 10 ∨ z = 11 ∨ z = 12 ∨ z = 13 ∨ z = 14 ∨ z = 15 ∨ z = 16 ∨ z = 17 ∨ z = 18 ∨ z = 19 ∨ z = 20 ∨ z = 21 ∨ z = 22 ∨ z = 23 := by omega
  rcases this with rfl | rfl | rfl | rfl | rfl | rfl | rfl | rfl | rfl | rfl | rfl | rfl | rfl | rfl | rfl | rfl | rfl | rfl | rfl | rfl | rfl | rfl | rfl | rfl <;> rfl
theorem zR_k6_9 {z : Int} (h : 0 ≤ z ∧ z ≤ 23) : zz_rg (zz_rf 6 z) 9 = (-2147483648, 2147483647) := by
  have : z = 0 ∨ z = 1 ∨ z = 2 ∨ z = 3 ∨ z = 4 ∨ z = 5 ∨ z = 6 ∨ z = 7 ∨ z = 8 ∨ z = 9 ∨ z = 10 ∨ z = 11 ∨ z = 12 ∨ z = 13 ∨ z = 14 ∨ z = 15 ∨ z = 16 ∨ z = 17 ∨ z = 18 ∨ z = 19 ∨ z = 20 ∨ z = 21 ∨ z = 22 ∨ z = 23 := by omega
  rcases this with rfl | rfl | rfl | rfl | rfl | rfl | rfl | rfl | rfl | rfl | rfl | rfl | rfl | rfl | rfl | rfl | rfl | rfl | rfl | rfl | rfl | rfl | rfl | rfl <;> rfl
theorem zR_k6_10 {z : Int} (h : 0 ≤ z ∧ z ≤ 23) : zz_rg (zz_rf 6 z) 10 = (-2147483648, 2147483647) := by
  have : z = 0 ∨ z = 1 ∨ z = 2 ∨ z = 3 ∨ z = 4 ∨ z = 5 ∨ z = 6 ∨ z = 7 ∨ z = 8 ∨ z = 9 ∨ z = 10 ∨ z = 11 ∨ z = 12 ∨ z = 13 ∨ z = 14 ∨ z = 15 ∨ z = 16 ∨ z = 17 ∨ z = 18 ∨ z = 19 ∨ z = 20 ∨ z = 21 ∨ z = 22 ∨ z = 23 := by omega
  rcases this with rfl | rfl | rfl | rfl | rfl | rfl | rfl | rfl | rfl | rfl | rfl | rfl | rfl | rfl | rfl | rfl | rfl | rfl | rfl | rfl | rfl | rfl | rfl | rfl <;> rfl
theorem zR_k6_11 {z : Int} (h : 0 ≤ z ∧ z ≤ 23) : zz_rg (zz_rf 6 z) 11 = (-2147483648, 2147483647) := by
  have : z = 0 ∨ z = 1 ∨ z = 2 ∨ z = 3 ∨ z = 4 ∨ z = 5 ∨ z = 6 ∨ z = 7 ∨ z = 8 ∨ z = 9 ∨ z = 10 ∨ z = 11 ∨ z = 12 ∨ z = 13 ∨ z = 14 ∨ z = 15 ∨ z = 16 ∨ z = 17 ∨ z = 18 ∨ z = 19 ∨ z = 20 ∨ z = 21 ∨ z = 22 ∨ z = 23 := by omega
  rcases this with rfl | rfl | rfl | rfl | rfl | rfl | rfl | rfl | rfl | rfl | rfl | rfl | rfl | rfl | rfl | rfl | rfl | rfl | rfl | rfl | rfl | rfl | rfl | rfl <;> rfl
theorem zR_k6_12 {z : Int} (h : 0 ≤ z ∧ z ≤ 23) : zz_rg (zz_rf 6 z) 12 = (-2147483648, 2147483647) := by
  have : z = 0 ∨ z = 1 ∨ z = 2 ∨ z = 3 ∨ z = 4 ∨ z = 5 ∨ z = 6 ∨ z = 7 ∨ z = 8 ∨ z = 9 ∨ z = 10 ∨ z = 11 ∨ z = 12 ∨ z = 13 ∨ z = 14 ∨ z = 15 ∨ z = 16 ∨ z = 17 ∨ z = 18 ∨ z = 19 ∨ z = 20 ∨ z = 21 ∨ z = 22 ∨ z = 23 := by omega
  rcases this with rfl | rfl | rfl | rfl | rfl | rfl | rfl | rfl | rfl | rfl | rfl | rfl | rfl | rfl | rfl | rfl | rfl | rfl | rfl | rfl | rfl | rfl | rfl | rfl <;> rfl
theorem zR_k6_13 {z : Int} (h : 0 ≤ z ∧ z ≤ 23) : zz_rg (zz_rf 6 z) 13 = (-2147483648, 2147483647) := by
  have : z = 0 ∨ z = 1 ∨ z = 2 ∨ z = 3 ∨ z = 4 ∨ z = 5 ∨ z = 6 ∨ z = 7 ∨ z = 8 ∨ z = 9 ∨ z = 10 ∨ z = 11 ∨ z = 12 ∨ z = 13 ∨ z = 14 ∨ z = 15 ∨ z = 16 ∨ z = 17 ∨ z = 18 ∨ z = 19 ∨ z = 20 ∨ z = 21 ∨ z = 22 ∨ z = 23 := by omega
  rcases this with rfl | rfl | rfl | rfl | rfl | rfl | rfl | rfl | rfl | rfl | rfl | rfl | rfl | rfl | rfl | rfl | rfl | rfl | rfl | rfl | rfl | rfl | rfl | rfl <;> rfl
theorem zR_k6_14 {z : Int} (h : 0 ≤ z ∧ z ≤ 23) : zz_rg (zz_rf 6 z) 14 = (-2147483648, 2147483647) := by
  have : z = 0 ∨ z = 1 ∨ z = 2 ∨ z = 3 ∨ z = 4 ∨ z = 5 ∨ z = 6 ∨ z = 7 ∨ z = 8 ∨ z = 9 ∨ z = 10 ∨ z = 11 ∨ z = 12 ∨ z = 13 ∨ z = 14 ∨ z = 15 ∨ z = 16 ∨ z = 17 ∨ z = 18 ∨ z = 19 ∨ z = 20 ∨ z = 21 ∨ z = 22 ∨ z = 23 := by omega
  rcases this with rfl | rfl | rfl | rfl | rfl | rfl | rfl | rfl | rfl | rfl | rfl | rfl | rfl | rfl | rfl | rfl | rfl | rfl | rfl | rfl | rfl | rfl | rfl | rfl <;> rfl
theorem zz_rf4 {z : Int} (h : 0 ≤ z ∧ z ≤ 1) : (zz_rf 4 z : Int) = 1029 + z := by
  have : z = 0 ∨ z = 1 := by omega
  rcases this with rfl | rfl <;> rfl
theorem zE_k3a {S : zz_S} {z : Int} (G : zz_G S) (h : 0 ≤ z ∧ z ≤ 1) : S (zz_rf 3 z) 0 = (((zz_rf 3 z + 1 : Nat)) : Int) := by
  have : z = 0 ∨ z = 1 := by omega
  rcases this with rfl | rfl
  · exact zz_G.eq G 1001 0 1002 rfl rfl
  · exact zz_G.eq G 1015 0 1016 rfl rfl
theorem zE_lay {S : zz_S} {z i : Int} (G : zz_G S) (h : 0 ≤ z ∧ z ≤ 1) (hi : 0 ≤ i ∧ i ≤ 11) : S (zz_rf 3 z + 1) i.toNat = 12 * z + i := by
  have : z = 0 ∨ z = 1 := by omega
  rcases this with rfl | rfl
  · have := zz_G.r G 1002 i.toNat (0 + (i.toNat : Int)) (0 + (i.toNat : Int)) rfl rfl
    show S 1002 i.toNat = 12 * 0 + i
    omega
  · have := zz_G.r G 1016 i.toNat (12 + (i.toNat : Int)) (12 + (i.toNat : Int)) rfl rfl
    show S 1016 i.toNat = 12 * 1 + i
    omega
theorem zE_k5a1 {S : zz_S} {z : Int} (G : zz_G S) (h : 0 ≤ z ∧ z ≤ 4) : S (zz_rf 5 z) 0 = (((zz_rf 5 z + 1 : Nat)) : Int) := by
  have : z = 0 ∨ z = 1 ∨ z = 2 ∨ z = 3 ∨ z = 4 := by omega
  rcases this with rfl | rfl | rfl | rfl | rfl
  · exact zz_G.eq G 1050 0 1051 rfl rfl
  · exact zz_G.eq G 1055 0 1056 rfl rfl
  · exact zz_G.eq G 1060 0 1061 rfl rfl
  · exact zz_G.eq G 1065 0 1066 rfl rfl
  · exact zz_G.eq G 1037 0 1038 rfl rfl
theorem zE_k5a2 {S : zz_S} {z : Int} (G : zz_G S) (h : 0 ≤ z ∧ z ≤ 4) : S (zz_rf 5 z) 1 = (((zz_rf 5 z + 2 : Nat)) : Int) := by
  have : z = 0 ∨ z = 1 ∨ z = 2 ∨ z = 3 ∨ z = 4 := by omega
  rcases this with rfl | rfl | rfl | rfl | rfl
  · exact zz_G.eq G 1050 1 1052 rfl rfl
  · exact zz_G.eq G 1055 1 1057 rfl rfl
  · exact zz_G.eq G 1060 1 1062 rfl rfl
  · exact zz_G.eq G 1065 1 1067 rfl rfl
  · exact zz_G.eq G 1037 1 1039 rfl rfl
theorem zE_k5a3 {S : zz_S} {z : Int} (G : zz_G S) (h : 0 ≤ z ∧ z ≤ 4) : S (zz_rf 5 z) 2 = (((zz_rf 5 z + 3 : Nat)) : Int) := by
  have : z = 0 ∨ z = 1 ∨ z = 2 ∨ z = 3 ∨ z = 4 := by omega
  rcases this with rfl | rfl | rfl | rfl | rfl
  · exact zz_G.eq G 1050 2 1053 rfl rfl
  · exact zz_G.eq G 1055 2 1058 rfl rfl
  · exact zz_G.eq G 1060 2 1063 rfl rfl
  · exact zz_G.eq G 1065 2 1068 rfl rfl
  · exact zz_G.eq G 1037 2 1040 rfl rfl
theorem zE_k5a4 {S : zz_S} {z : Int} (G : zz_G S) (h : 0 ≤ z ∧ z ≤ 4) : S (zz_rf 5 z) 3 = (((zz_rf 5 z + 4 : Nat)) : Int) := by
  have : z = 0 ∨ z = 1 ∨ z = 2 ∨ z = 3 ∨ z = 4 := by omega
  rcases this with rfl | rfl | rfl | rfl | rfl
  · exact zz_G.eq G 1050 3 1054 rfl rfl
  · exact zz_G.eq G 1055 3 1059 rfl rfl
  · exact zz_G.eq G 1060 3 1064 rfl rfl
  · exact zz_G.eq G 1065 3 1069 rfl rfl
  · exact zz_G.eq G 1037 3 1041 rfl rfl
end
section
/-! Rows for references in arrays, System.arraycopy of long[], and the texts' own methods. -/
section ZJ
variable {g : mm_G} {l : Launch} {Y : mm_Y} {rm : Room} {Q : mm_O → Prop} {pc pc1 : Nat} {ls : List (Option Value)} {st : List Value} {M : mm_M} {S : zz_S} {n k j : Nat}
theorem mm_aast {a t N ci v : Nat} {r : vw_C} {f : Nat → Option Nat} {i : Int32} {vs : List Value} (hd : decode Y.2.1 pc = .ok (.aastore, 1)) (hm : M a = some (.inl (t, N, .inr (.inr (.inr (.inr f)))))) (ht : mm_ty[t]? = some (.object r.1)) (hc : mm_cl[ci]? = some r) (hv : M v = some (.inr (ci, vs))) (hin : vp_in i N) (kk : ∀ M1 : mm_M, M1 = mm_up M a (.inl (t, N, .inr (.inr (.inr (.inr (fun q => if q = i.toNatClampNeg then some v else f q)))))) → mm_Ev g l Y rm Q (pc + 1) ls st M1 n k j) : mm_Ev g l Y rm Q pc ls (.ref v :: .int i :: .ref a :: st) M n k j := by
  intro p e s m args below meth c H locs lsM hC hH hS hL
  obtain ⟨h1000, -, hat⟩ := hH.2.2 a _ hm
  obtain ⟨-, -, r', hr', cellV, g1, g2, g3, -⟩ := hH.2.2 v _ hv
  have hI := hC.2.2.2.2.2.2.2.2.1
  have hlt : i.toNatClampNeg < N := Nat.not_le.mp fun q => hin (Or.inr q)
  have h0 : ¬ i < 0 := fun q => hin (Or.inl q)
  have hcls := (hI.1.1 ci r hc).2
  obtain ⟨kA, comp, k1, k2, k3, -⟩ := (hI.1.2 t _ (mm_tys_at ht)).2
  have hcomp : comp = g.1.1 ci := Option.some.inj (k3.symm.trans hcls.1)
  subst hcomp
  obtain ⟨kC, hkC, -⟩ := hcls.2
  refine W.aast hC.1 hC.2.1 hat (fun q h => by cases h) (fun h => by cases h) k1 k2 rfl hkC ⟨h0, by show _ < (arrV _ _ _).slots.size; rw [arrV_size]; exact hlt⟩ g1 (fun q h => by rw [g3] at h; cases h) (by rw [g2]; exact hkC) (by rw [g2]; exact va_assign hcls) rfl rfl hd fun H1 e1 z oq => ?_
  refine kk _ rfl p e s m args below meth c H1 _ lsM hC (hH.set hm z oq ?_) (hS.put z oq (mm_ad_A h1000)) hL
  show H1[_]? = some (vp_cell _ _)
  rw [e1]
  show some ((vp_cell _ (N, .inr (.inr (.inr (.inr (fun i => (f i).map (mm_ad g)))))) ).setSlot _ _) = some (vp_cell _ (N, .inr (.inr (.inr (.inr (fun q => (if q = i.toNatClampNeg then some v else f q).map (mm_ad g)))))))
  rw [vp_cell_q, vp_cell_q, arrV_store]
  congr 2
  funext q
  by_cases hq : q = i.toNatClampNeg
  · subst hq
    simp [updV, va_up, va_rf]
  · simp [updV, va_up, hq]
theorem mm_copyl {a0 a t0 t1 n0 n1 index : Nat} {f h : Nat → Int64} {sp dp nn : Int32} (hd : decode Y.2.1 pc = .ok (.invokestatic index, 3)) (hw : Cond.methodLink Y.1.cls index arraycopyName ∈ mm_tb ∧ Cond.native arraycopyName ∈ mm_tb ∧ Cond.static arraycopyName ∈ mm_tb ∧ Cond.initialized "java/lang/System" ∈ mm_tb) (hm0 : M a0 = some (.inl (t0, n0, .inr (.inl f)))) (hm1 : M a = some (.inl (t1, n1, .inr (.inl h)))) (ht0 : mm_ty[t0]? = some .long) (ht1 : mm_ty[t1]? = some .long) (h1 : ¬ sp < 0) (h2 : ¬ dp < 0) (h3 : ¬ nn < 0) (h4 : sp.toNatClampNeg + nn.toNatClampNeg ≤ n0) (h5 : dp.toNatClampNeg + nn.toNatClampNeg ≤ n1)
    (hroom : 1 ≤ rm.frames ∧ (st.map fun v => v.category).sum + (nativeFrameWords "java/lang/System" "arraycopy" 5 + 11) ≤ rm.locals)
    (kk : ∀ M1 : mm_M, M1 = mm_up M a (.inl (t1, n1, .inr (.inl (va_cpy f h sp.toNatClampNeg dp.toNatClampNeg nn.toNatClampNeg)))) → mm_Ev g l Y rm Q (pc + 3) ls st M1 n k j) : mm_Ev g l Y rm Q pc ls (.int nn :: .int dp :: .ref a :: .int sp :: .ref a0 :: st) M n k j := by
  intro p e s m args below meth c H locs lsM hC hH hS hL T hT X
  have hI := hC.2.2.2.2.2.2.2.2.1
  have hts := hC.2.2.2.2.2.1
  have n9 : ∀ z : Int32, ¬ z < 0 → z.toInt = (z.toNatClampNeg : Int) := by
    intro z hz
    have hz0 : (0 : Int) ≤ z.toInt := by
      have := Int32.not_lt.mp hz
      simpa using Int32.le_iff_toInt_le.mp this
    show z.toInt = ((z.toInt.toNat : Nat) : Int)
    omega
  obtain ⟨-, -, hc0⟩ := hH.2.2 a0 _ hm0
  obtain ⟨h1000, -, hc1⟩ := hH.2.2 a _ hm1
  have hc0 : H[mm_ad g a0]? = some (vp_cell (g.2.1 t0) (n0, .inr (.inl f))) := hc0
  have hc1 : H[mm_ad g a]? = some (vp_cell (g.2.1 t1) (n1, .inr (.inl h))) := hc1
  obtain ⟨-, k0, hk0, cm0, hkk0⟩ := (hI.1.2 t0 _ (mm_tys_at ht0)).1 n0 (fun j => .long (f j))
  obtain ⟨-, k1, hk1, cm1, hkk1⟩ := (hI.1.2 t1 _ (mm_tys_at ht1)).1 n1 (fun j => .long (h j))
  obtain ⟨vm', X', step⟩ := X.arraycopy hC.1 hC.2.2.2.2.1 (hts _ hw.1) (hts _ hw.2.1) (hts _ hw.2.2.1) (hts _ hw.2.2.2) (src := mm_ad g a0) (dst := mm_ad g a) (cs := vp_cell (g.2.1 t0) (n0, .inr (.inl f))) (cd := vp_cell (g.2.1 t1) (n1, .inr (.inl h))) (srcPos := sp) (destPos := dp) (n := nn) (by rw [hT]; exact hc0) (by rw [hT]; exact hc1)
    (fun _ h => by cases h) (fun _ h => by cases h) (fun h => by cases h) (fun h => by cases h) hk0 hk1 hkk0 hkk1 (by simp [refKind]) h1 h2 h3
    (by rw [n9 sp h1, n9 nn h3]; show ¬ _ > ((arrV _ n0 (fun j => .long (f j))).slots.size : Int); rw [arrV_size]; omega)
    (by rw [n9 dp h2, n9 nn h3]; show ¬ _ > ((arrV _ n1 (fun j => .long (h j))).slots.size : Int); rw [arrV_size]; omega)
    (fun vm₁ _ i hi => by
      have e : (vp_cell (g.2.1 t0) (n0, .inr (.inl f))).slots.getD (sp.toNatClampNeg + i) .null = .long (f (sp.toNatClampNeg + i)) := by
        show (arrV _ n0 (fun j => .long (f j))).slots.getD _ _ = _
        rw [Array.getD_eq_getD_getElem?, arrV_read _ _ (by omega)]
        rfl
      refine ⟨?_, ?_⟩
      · rw [e]
        rfl
      · rw [e]
        exact trivial)
    (g := F0 m pc lsM (.int nn :: .int dp :: .ref (mm_ad g a) :: .int sp :: .ref (mm_ad g a0) :: st.map (mm_tr g))) rfl (by rw [hC.2.2.1]; exact hL.1) (rest := st.map (mm_tr g)) rfl (by rw [hC.2.1]; exact hd) hroom.1 (by rw [mm_cat_sum]; show 2 * 0 + _ + _ ≤ _; omega)
  have e1 : copied (vp_cell (g.2.1 t0) (n0, .inr (.inl f))) (vp_cell (g.2.1 t1) (n1, .inr (.inl h))) sp dp nn = vp_cell (g.2.1 t1) (n1, .inr (.inl (va_cpy f h sp.toNatClampNeg dp.toNatClampNeg nn.toNatClampNeg))) := va_copied (fun z => .long z) _ _ f h h4
  rw [e1] at X' step
  have hl : mm_ad g a < H.size := (Array.getElem?_eq_some_iff.mp hc1).1
  have hheap : ((T.setVm vm').setCell (mm_ad g a) (vp_cell (g.2.1 t1) (n1, .inr (.inl (va_cpy f h sp.toNatClampNeg dp.toNatClampNeg nn.toNatClampNeg))))).heap = H.setIfInBounds (mm_ad g a) (vp_cell (g.2.1 t1) (n1, .inr (.inl (va_cpy f h sp.toNatClampNeg dp.toNatClampNeg nn.toNatClampNeg)))) := by rw [← hT]; rfl
  have oq : ∀ q : Nat, q ≠ mm_ad g a → (H.setIfInBounds (mm_ad g a) (vp_cell (g.2.1 t1) (n1, .inr (.inl (va_cpy f h sp.toNatClampNeg dp.toNatClampNeg nn.toNatClampNeg)))))[q]? = H[q]? := fun q hq => by simp [Array.getElem?_setIfInBounds, Ne.symm hq]
  obtain ⟨t, a1, b1⟩ := kk _ rfl p e s m args below meth c _ _ lsM hC (hH.set hm1 (e1 := .inl (t1, n1, .inr (.inl (va_cpy f h sp.toNatClampNeg dp.toNatClampNeg nn.toNatClampNeg)))) (by simp) oq (show (H.setIfInBounds (mm_ad g a) _)[mm_ad g a]? = some _ by simp [Array.getElem?_setIfInBounds, hl]; rfl)) ⟨by simp; exact hS.1, fun q g1 g2 => by
      rw [oq q (fun e => g2 (by rw [e]; exact mm_ad_A h1000))]
      exact hS.2.1 q g1 g2, fun q hq => by
      rcases List.mem_append.mp hq with h | h
      · exact hS.2.2 q h
      · obtain ⟨z, -, hz⟩ := List.mem_map.mp h
        rw [← hz]
        exact mm_ad_A h1000⟩ hL _ hheap X'
  exact ⟨t, step t a1, b1⟩
theorem zz_aast {a t N kd ci v : Nat} {ks : List Nat} {r : vw_C} {i : Int} (z : Int) (hd : zz_D Y pc .aastore 1 pc1) (hT : zz_T a = some (.inr (t, N, kd + 2))) (ht : mm_ty[t]? = some (.object r.1)) (hc : mm_cl[ci]? = some r) (hTv : zz_T v = some (.inl (ci, ks))) (hn : a < n) (hnv : v < n) (hN : N ≤ 2147483647) (hi : 0 ≤ i ∧ i < N) (h0 : 0 ≤ z) (hx : zz_rf (kd + 2) z = v) (kk : ∀ S1 : zz_S, S1 = zz_st S a i.toNat z → zz_E g l Y rm Q S1 n pc1 ls st k j) : zz_E g l Y rm Q S n pc ls (.ref v :: zi i :: .ref a :: st) k j := by
  refine mm_aast hd.1 (zz_M_at hn hT) ht hc (zz_M_at hnv hTv) (zz_in hi hN) (fun M1 e => zz_rw hd.2 ?_)
  have h := kk _ rfl
  unfold zz_E at h
  rw [zz_M_st hn hT] at h
  rw [e, zz_nc hi hN]
  have e2 : zz_en (.inr (t, N, kd + 2)) (zz_st S a i.toNat z a) = .inl (t, N, .inr (.inr (.inr (.inr (fun q => if q = i.toNat then some v else (if S a q < 0 then none else some (zz_rf (kd + 2) (S a q)))))))) := by
    have e3 : (fun q => if zz_st S a i.toNat z a q < 0 then none else some (zz_rf (kd + 2) (zz_st S a i.toNat z a q))) = (fun q => if q = i.toNat then some v else (if S a q < 0 then none else some (zz_rf (kd + 2) (S a q)))) := by
      funext q
      by_cases hq : q = i.toNat
      · subst hq
        rw [zz_st_s, if_neg (Int.not_lt.mpr h0), if_pos rfl, hx]
      · rw [zz_st_n (fun w => hq w.2), if_neg hq]
    simp only [zz_en, zz_av]
    rw [e3]
  rw [e2] at h
  exact h
theorem zz_copyl {a0 a n0 n1 t0 t1 index : Nat} {sp dp nn : Int} (hd : zz_D Y pc (.invokestatic index) 3 pc1) (hw : Cond.methodLink Y.1.cls index arraycopyName ∈ mm_tb ∧ Cond.native arraycopyName ∈ mm_tb ∧ Cond.static arraycopyName ∈ mm_tb ∧ Cond.initialized "java/lang/System" ∈ mm_tb) (hT0 : zz_T a0 = some (.inr (t0, n0, 1))) (hT1 : zz_T a = some (.inr (t1, n1, 1))) (ht0 : mm_ty[t0]? = some .long) (ht1 : mm_ty[t1]? = some .long) (hn0 : a0 < n) (hn1 : a < n) (hr : ∀ i, zz_rg a i = (-9223372036854775808, 9223372036854775807)) (hp : 0 ≤ sp ∧ 0 ≤ dp ∧ 0 ≤ nn ∧ sp + nn ≤ n0 ∧ dp + nn ≤ n1) (hN : n0 ≤ 2147483647 ∧ n1 ≤ 2147483647)
    (hroom : 1 ≤ rm.frames ∧ (st.map fun v => v.category).sum + (nativeFrameWords "java/lang/System" "arraycopy" 5 + 11) ≤ rm.locals) (G : zz_G S)
    (kk : ∀ S1 : zz_S, zz_G S1 → zz_fr [] [a] (fun _ _ => False) S S1 → zz_E g l Y rm Q S1 n pc1 ls st k j) : zz_E g l Y rm Q S n pc ls (zi nn :: zi dp :: .ref a :: zi sp :: .ref a0 :: st) k j := by
  have nz : ∀ z : Int, 0 ≤ z → z ≤ 2147483647 → ¬ Int32.ofInt z < 0 := fun z h1 h2 h => by
    rw [Int32.lt_iff_toInt_lt, zz_t32 (by omega)] at h
    have : (0 : Int32).toInt = 0 := by decide
    omega
  have nc : ∀ z : Int, 0 ≤ z → z ≤ 2147483647 → (Int32.ofInt z).toNatClampNeg = z.toNat := fun z h1 h2 => by
    rw [← Int32.toNat_toInt, zz_t32 (by omega)]
  refine mm_copyl hd.1 hw (zz_M_at hn0 hT0) (zz_M_at hn1 hT1) ht0 ht1 (nz sp hp.1 (by omega)) (nz dp hp.2.1 (by omega)) (nz nn hp.2.2.1 (by omega)) (by rw [nc sp hp.1 (by omega), nc nn hp.2.2.1 (by omega)]; omega) (by rw [nc dp hp.2.1 (by omega), nc nn hp.2.2.1 (by omega)]; omega) hroom (fun M1 e => zz_rw hd.2 ?_)
  generalize hF : va_cpy (fun i => Int64.ofInt (S a0 i)) (fun i => Int64.ofInt (S a i)) (Int32.ofInt sp).toNatClampNeg (Int32.ofInt dp).toNatClampNeg (Int32.ofInt nn).toNatClampNeg = F at e
  have h := kk (fun b i => if b = a then (F i).toInt else S b i) (fun b i hb => by
      show (zz_rg b i).1 ≤ (if b = a then (F i).toInt else S b i) ∧ (if b = a then (F i).toInt else S b i) ≤ (zz_rg b i).2
      by_cases q : b = a
      · subst q
        rw [if_pos rfl, hr]
        exact zz_r64 _
      · rw [if_neg q]
        exact G b i hb) (fun b i h1 h2 h3 => by
      have q : ¬ b = a := fun w => by subst w; simp at h2
      show (if b = a then _ else _) = _
      rw [if_neg q])
  unfold zz_E at h
  have e2 : zz_M (fun b i => if b = a then (F i).toInt else S b i) n = M1 := by
    rw [e]
    funext b
    by_cases q : b = a
    · subst q
      rw [mm_up_s, zz_M_at hn1 hT1]
      simp only [zz_en, zz_av, if_true, Int64.ofInt_toInt]
    · rw [mm_up_n q]
      simp only [zz_M, if_neg q]
  rw [e2] at h
  exact h
theorem zz_strV {t index : Nat} (ht : t < mm_txt.length) (h4 : t < 400) (hd : zz_D Y pc (.getfield index) 3 pc1) (hl : Cond.fieldLink Y.1.cls index "java/lang/String" "value" "[B" ∈ mm_tb) (kk : zz_E g l Y rm Q S n pc1 ls (.ref (500 + t) :: st) k j) : zz_E g l Y rm Q S n pc ls (.ref (100 + t) :: st) k j := by
  intro p e s m args below meth c H locs lsM hC hH hS hL
  have ha : mm_ad g (100 + t) = g.2.2.2 (100 + t) := by unfold mm_ad; rw [if_pos (by omega)]
  have hb : mm_ad g (500 + t) = g.2.2.2 (500 + t) := by unfold mm_ad; rw [if_pos (by omega)]
  show W p l e rm s m args below meth c H locs k j _ (F0 m pc lsM (.ref (mm_ad g (100 + t)) :: st.map (mm_tr g)))
  rw [ha]
  refine vk_getf hC.1 hC.2.1 (hC.2.2.2.2.2.2.2.2.1.2.2.2.2.1.1 t ht).2.2.1 hS hC.2.2.2.2.1 (hC.2.2.2.2.2.1 _ hl) (fun _ h => h) hd.1 ?_
  show W p l e rm s m args below meth c H locs k j _ (F0 m (pc + 3) lsM (.ref (g.2.2.2 (500 + t)) :: st.map (mm_tr g)))
  rw [← hb]
  exact zz_rw hd.2 kk p e s m args below meth c H locs lsM hC hH hS hL
theorem zz_strC {t index : Nat} (ht : t < mm_txt.length) (h4 : t < 400) (hd : zz_D Y pc (.getfield index) 3 pc1) (hl : Cond.fieldLink Y.1.cls index "java/lang/String" "coder" "B" ∈ mm_tb) (kk : zz_E g l Y rm Q S n pc1 ls (zi 0 :: st) k j) : zz_E g l Y rm Q S n pc ls (.ref (100 + t) :: st) k j := by
  intro p e s m args below meth c H locs lsM hC hH hS hL
  have ha : mm_ad g (100 + t) = g.2.2.2 (100 + t) := by unfold mm_ad; rw [if_pos (by omega)]
  show W p l e rm s m args below meth c H locs k j _ (F0 m pc lsM (.ref (mm_ad g (100 + t)) :: st.map (mm_tr g)))
  rw [ha]
  exact vk_getf hC.1 hC.2.1 (hC.2.2.2.2.2.2.2.2.1.2.2.2.2.1.1 t ht).2.1 hS hC.2.2.2.2.1 (hC.2.2.2.2.2.1 _ hl) (fun _ h => h) hd.1 (zz_rw hd.2 kk p e s m args below meth c H locs lsM hC hH hS hL)
theorem zz_gsZ {index : Nat} (hd : zz_D Y pc (.getstatic index) 3 pc1) (hl : Cond.fieldLink Y.1.cls index "java/lang/String" "COMPACT_STRINGS" "Z" ∈ mm_tb) (kk : zz_E g l Y rm Q S n pc1 ls (zi 1 :: st) k j) : zz_E g l Y rm Q S n pc ls st k j := by
  intro p e s m args below meth c H locs lsM hC hH hS hL
  exact va_gets hC.1 hC.2.1 hC.2.2.2.2.2.2.2.2.1.2.2.2.2.2.1 hS hC.2.2.2.2.1 (hC.2.2.2.2.2.1 _ hl) (fun _ h => h) hd.1 (zz_rw hd.2 kk p e s m args below meth c H locs lsM hC hH hS hL)
theorem zz_strL {t : Nat} (ht : t < mm_txt.length) (h4 : t < 400) (hd : zz_D Y pc .arraylength 1 pc1) (kk : zz_E g l Y rm Q S n pc1 ls (zi (mm_len.getD t 0 : Nat) :: st) k j) : zz_E g l Y rm Q S n pc ls (.ref (500 + t) :: st) k j := by
  intro p e s m args below meth c H locs lsM hC hH hS hL
  have hb : mm_ad g (500 + t) = g.2.2.2 (500 + t) := by unfold mm_ad; rw [if_pos (by omega)]
  show W p l e rm s m args below meth c H locs k j _ (F0 m pc lsM (.ref (mm_ad g (500 + t)) :: st.map (mm_tr g)))
  rw [hb]
  exact va_tlen hC.1 hC.2.1 (hC.2.2.2.2.2.2.2.2.1.2.2.2.2.1.1 t ht).2.2.2 hS (v := Int32.ofInt (mm_len.getD t 0 : Nat)) (Int32.ofInt_eq_ofNat).symm hd.1 (zz_rw hd.2 kk p e s m args below meth c H locs lsM hC hH hS hL)
theorem zz_strB {t : Nat} {i : Int} (ht : t < mm_txt.length) (h4 : t < 400) (hd : zz_D Y pc .baload 1 pc1) (hN : mm_len.getD t 0 ≤ 2147483647) (hi : 0 ≤ i ∧ i < (mm_len.getD t 0 : Nat)) (kk : ∀ v : Int, (-2147483648 ≤ v ∧ v ≤ 2147483647) → zz_E g l Y rm Q S n pc1 ls (zi v :: st) k j) : zz_E g l Y rm Q S n pc ls (zi i :: .ref (500 + t) :: st) k j := by
  intro p e s m args below meth c H locs lsM hC hH hS hL
  have hb : mm_ad g (500 + t) = g.2.2.2 (500 + t) := by unfold mm_ad; rw [if_pos (by omega)]
  show W p l e rm s m args below meth c H locs k j _ (F0 m pc lsM (.int (Int32.ofInt i) :: .ref (mm_ad g (500 + t)) :: st.map (mm_tr g)))
  rw [hb]
  have h9 := kk ((mm_byt.getD t []).getD (Int32.ofInt i).toNatClampNeg 0).toInt (zz_r32 _)
  unfold zi at h9
  rw [Int32.ofInt_toInt] at h9
  exact va_tb hC.1 hC.2.1 (hC.2.2.2.2.2.2.2.2.1.2.2.2.2.1.1 t ht).2.2.2 hS (zz_in hi hN) rfl hd.1 (zz_rw hd.2 h9 p e s m args below meth c H locs lsM hC hH hS hL)
theorem zz_gsQ {index : Nat} (hd : zz_D Y pc (.getstatic index) 3 pc1) (hl : Cond.fieldLink Y.1.cls index "jdk/internal/util/Preconditions" "SIOOBE_FORMATTER" "Ljava/util/function/BiFunction;" ∈ mm_tb) (kk : ∀ v : Value, v = .null ∨ v = .ref 999 → zz_E g l Y rm Q S n pc1 ls (v :: st) k j) : zz_E g l Y rm Q S n pc ls st k j := by
  intro p e s m args below meth c H locs lsM hC hH hS hL
  have ha : mm_ad g 999 = g.2.2.2 999 := rfl
  rcases hC.2.2.2.2.2.2.2.2.1.2.2.2.2.2.2.1 with h | h
  · exact va_gets hC.1 hC.2.1 h hS hC.2.2.2.2.1 (hC.2.2.2.2.2.1 _ hl) (fun _ h => h) hd.1 (zz_rw hd.2 (kk .null (Or.inl rfl)) p e s m args below meth c H locs lsM hC hH hS hL)
  · exact va_gets hC.1 hC.2.1 h hS hC.2.2.2.2.1 (hC.2.2.2.2.2.1 _ hl) (fun _ h => h) hd.1 (zz_rw hd.2 (kk (.ref 999) (Or.inr rfl)) p e s m args below meth c H locs lsM hC hH hS hL)
/-- a call of a text's own method -/
theorem zz_callT {Z : mm_Y} {rz : Room} {P : Int → zz_S → Prop} {t index np : Nat} {stk : List Value} (as : List Value) (ht : t < mm_txt.length) (h4 : t < 400) (hd : zz_D Y pc (.invokevirtual index) 3 pc1) (hZ : mm_Yw Z np ∧ Cond.methodLink Y.1.cls index Z.1 ∈ mm_tb ∧ Cond.instanceMethod Z.1 ∈ mm_tb ∧ Cond.selects "java/lang/String" Z.1 Z.1 ∈ mm_tb) (hst : stk = as.reverse ++ .ref (100 + t) :: st) (hlen : as.length = np) (hroom : rz.frames + 1 ≤ rm.frames ∧ (st.map fun v => v.category).sum + (Z.2.2.1 + 11) + rz.locals ≤ rm.locals) (hz : rz.cells = 0 ∧ rz.slots = 0) (hk : k ≤ rm.cells) (hj : j ≤ rm.slots) (hM : mm_Met g l Z rz (.ref (100 + t) :: as) (zz_M S n) n (zz_QI n P)) (kr : ∀ (v : Int) (S1 : zz_S), P v S1 → zz_E g l Y rm Q S1 n pc1 ls (zi v :: st) k j) : zz_E g l Y rm Q S n pc ls stk k j := by
  subst hst
  intro p e s m args below meth c H locs lsM hC hH hS hL
  obtain ⟨hx, hb, hml, -, hown, hts, -, -, hI, hbs⟩ := id hC
  obtain ⟨hYw, w1, w2, w3⟩ := hZ
  have ha : mm_ad g (100 + t) = g.2.2.2 (100 + t) := by unfold mm_ad; rw [if_pos (by omega)]
  obtain ⟨cellB, hcB, hoB, hclB⟩ := vk_recv hI.2.2.2.2.1 ht hS
  have hst : (as.reverse ++ .ref (100 + t) :: st).map (mm_tr g) = (as.map (mm_tr g)).reverse ++ .ref (mm_ad g (100 + t)) :: st.map (mm_tr g) := by
    rw [List.map_append, List.map_reverse]; rfl
  rw [hst]
  obtain ⟨mk0, methM0, hnamed0, hmeth0, -, -⟩ := Cond.instanceMethod_spec (hts _ w2)
  obtain ⟨methM', cM, hmethM', -, -, -, -, -, -, hsigM⟩ := Cond.code_spec hnamed0 (hts _ hYw.1)
  have hLk := mm_lkV (l := l) (e := e) (R := rm) (below := below) (meth := meth) (locs := locs) (cells := k) (slots := j) hx hown (hts _ w1) (hts _ w2) (hts _ w3) (sig0 := methM'.sig) (fun mk methM h1 h2 => by
    cases hnamed0.symm.trans h1
    cases hmethM'.symm.trans h2
    rfl) hYw.2.2.1 (by rw [ha]; exact hcB) hoB hclB (fr := F0 m pc lsM ((as.map (mm_tr g)).reverse ++ .ref (mm_ad g (100 + t)) :: st.map (mm_tr g))) rfl (argsL := as.map (mm_tr g)) (rest := st.map (mm_tr g)) (by rw [List.length_map, hlen]; exact hYw.len _ hsigM) rfl (by rw [hb]; exact hd.1)
  refine mm_callAny (S := headSpec (mm_wd Z) rz) (maxL := Z.2.2.1) (Wd := (st.map fun v => v.category).sum) hLk hM rfl (by rw [hml]; exact hL.1) hroom.1 hroom.2 (by rw [mm_cat_sum]; show 2 * 0 + _ ≤ _; omega) (by rw [hb]; exact hd.1)
    (fun U mk hW hn => mm_pay hYw hts hW hn) (by show k + rz.cells ≤ _; omega) (by show j + rz.slots ≤ _; omega) (fun U hW hU => ⟨rfl, (hI.moved hW).kept (by rw [hU]; exact hS.2.1), by rw [hU]; exact hH⟩) hS hbs
    (fun v M1 n1 H1 locs1 hQz hH1 hS1 => ?_) (fun i x M1 n1 H1 locs1 hQz hH1 hS1 hX => ?_)
  · obtain ⟨v1, S1, e1, hP⟩ := hQz
    cases e1
    have h9 := zz_rw hd.2 (kr v1 S1 hP) p e s m args below meth c H1 locs1 lsM hC hH1 hS1 hL
    have e2 : k + rz.cells = k := by omega
    have e3 : j + rz.slots = j := by omega
    show W p l e rm s m args below meth c H1 locs1 (k + rz.cells) (j + rz.slots) _ _
    rw [e2, e3]
    exact h9
  · obtain ⟨v1, S1, e1, hP⟩ := hQz
    cases e1
end ZJ
end
section
/-! New cells: objects, arrays, arrays of references; writes of final fields. -/
section ZN
variable {g : mm_G} {l : Launch} {Y : mm_Y} {rm : Room} {Q : mm_O → Prop} {pc pc1 : Nat} {ls : List (Option Value)} {st : List Value} {M : mm_M} {S : zz_S} {n k j : Nat}
theorem mm_anewa {index t N : Nat} {C : String} {z : Int32} (hd : decode Y.2.1 pc = .ok (.anewarray index, 3)) (ht : mm_ty[t]? = some (.object C)) (hl : Cond.classLink Y.1.cls index C ∈ mm_tb) (ho : Cond.arrayOver (.object C) ∈ mm_tb) (hn : ¬ z < 0) (hN : z.toNatClampNeg = N) (hbytes : N * 4 ≤ 536870912) (hcells : k + 1 ≤ rm.cells) (hslots : j + N ≤ rm.slots)
    (kk : ∀ M1 : mm_M, M1 = mm_up M n (.inl (t, N, .inr (.inr (.inr (.inr (fun _ => none)))))) → mm_Ev g l Y rm Q (pc + 3) ls (.ref n :: st) M1 (n + 1) (k + 1) (j + N)) : mm_Ev g l Y rm Q pc ls (.int z :: st) M n k j := by
  intro p e s m args below meth c H locs lsM hC hH hS hL
  obtain ⟨hx, hb, -, -, hown, hts, -, -, hI, hbs⟩ := id hC
  subst hN
  refine W.anew hx hb hown (hts _ hl) (hts _ ho) rfl hd rfl hn hbytes hcells hslots fun cA kA comp f1 f2 f3 f4 => ?_
  generalize hH1 : H.push ({ cls := cA, slots := Array.replicate z.toNatClampNeg .null, vm := .none } : Cell) = H1
  have z1 : H1.size = H.size + 1 := by rw [← hH1, Array.size_push]
  have e1 : H1[H.size]? = some (arrV cA z.toNatClampNeg (fun _ => .null)) := by rw [← hH1, Array.getElem?_push_size, ← arrV_new]
  have o1 : ∀ q : Nat, q < H.size → H1[q]? = H[q]? := fun q hq => by rw [← hH1, Array.getElem?_push, if_neg (Nat.ne_of_lt hq)]
  have hend := hH.end
  obtain ⟨kA2, comp2, k1, k2, k3, k4⟩ := (hI.1.2 t _ (mm_tys_at ht)).2
  have hcA : g.2.1 t = cA := Option.some.inj (k4.symm.trans f1)
  have h9 := kk _ rfl p e s m args below meth c H1 locs lsM hC (hH.push z1 o1 (by
    rw [hend]
    show H1[H.size]? = some (vp_cell (g.2.1 t) (z.toNatClampNeg, .inr (.inr (.inr (.inr (fun _ => none))))))
    rw [hcA, e1, vp_cell_q]
    rfl)) ⟨Nat.le_trans hS.1 (by omega), fun q h1 h2 => (o1 q (Nat.lt_of_lt_of_le h1 hS.1)).trans (hS.2.1 q h1 h2), hS.2.2⟩ hL
  have e9 : mm_tr g (.ref n) = .ref H.size := by show Value.ref (mm_ad g n) = _; rw [hend]
  rw [List.map_cons, e9] at h9
  exact h9
def zz_nw (S : zz_S) (n : Nat) (f : Nat → Int) : zz_S := fun a i => if a = n then f i else S a i
theorem zz_nw_s {S : zz_S} {n i : Nat} {f : Nat → Int} : zz_nw S n f n i = f i := if_pos rfl
theorem zz_nw_n {S : zz_S} {n a i : Nat} {f : Nat → Int} (h : a ≠ n) : zz_nw S n f a i = S a i := if_neg h
theorem zz_M_nw {S : zz_S} {n : Nat} {f : Nat → Int} {L : zz_L} (hT : zz_T n = some L) : zz_M (zz_nw S n f) (n + 1) = mm_up (zz_M S n) n (zz_en L f) := by
  funext b
  by_cases h : b = n
  · subst h
    rw [mm_up_s, zz_M_at (Nat.lt_succ_self _) hT]
    congr 2
    funext i
    exact zz_nw_s
  · rw [mm_up_n h]
    simp only [zz_M]
    by_cases h2 : b < n
    · rw [if_pos h2, if_pos (by omega)]
      congr 1
      funext L2
      congr 1
      funext i
      exact zz_nw_n h
    · rw [if_neg h2, if_neg (by omega)]
theorem zz_new {index ci N : Nat} {fs : List Value} {ks : List Nat} (f : Nat → Int) (hd : zz_D Y pc (.new index) 3 pc1) (hN : mm_Nl Y.1.cls index ci N fs) (hT : zz_T n = some (.inl (ci, ks))) (hfs : zz_fs ks f = fs) (hcells : k + 1 ≤ rm.cells) (hslots : j + N ≤ rm.slots) (kk : ∀ S1 : zz_S, S1 = zz_nw S n f → zz_E g l Y rm Q S1 (n + 1) pc1 ls (.ref n :: st) (k + 1) (j + N)) : zz_E g l Y rm Q S n pc ls st k j := by
  refine mm_new hd.1 hN hcells hslots (fun M1 e => zz_rw hd.2 ?_)
  have h := kk _ rfl
  unfold zz_E at h
  rw [zz_M_nw hT] at h
  rw [e]
  simp only [zz_en, hfs] at h
  exact h
theorem zz_newa {atype : ArrayType} {t N kd : Nat} {z : Int} (f : Nat → Int) (hd : zz_D Y pc (.newarray atype) 2 pc1) (hT : zz_T n = some (.inr (t, N, kd))) (ht : mm_ty[t]? = some (newarray.typeOf atype)) (hw : Cond.arrayClass (newarray.typeOf atype) ∈ mm_tb) (hz : z = (N : Int)) (hN : N ≤ 2147483647) (hbytes : N * componentBytes (newarray.typeOf atype) ≤ 536870912) (ha : ∀ cA : ClassId, vp_cell cA (zz_av N kd f) = arrV cA N (fun _ => defaultValue (newarray.typeOf atype))) (htr : ∀ g : mm_G, mm_trA g (zz_av N kd f) = zz_av N kd f) (hnq : ∀ C : String, newarray.typeOf atype ≠ .object C) (hcells : k + 1 ≤ rm.cells) (hslots : j + N ≤ rm.slots) (kk : ∀ S1 : zz_S, S1 = zz_nw S n f → zz_E g l Y rm Q S1 (n + 1) pc1 ls (.ref n :: st) (k + 1) (j + N)) : zz_E g l Y rm Q S n pc ls (zi z :: st) k j := by
  subst hz
  refine mm_newa hd.1 ht hw (fun h => ?_) ?_ hbytes ha htr hnq hcells hslots (fun M1 e => zz_rw hd.2 ?_)
  · rw [Int32.lt_iff_toInt_lt, zz_t32 (by omega)] at h
    have : (0 : Int32).toInt = 0 := by decide
    omega
  · rw [← Int32.toNat_toInt, zz_t32 (by omega)]
    omega
  · have h := kk _ rfl
    unfold zz_E at h
    rw [zz_M_nw hT] at h
    rw [e]
    exact h
theorem zz_anewa {index t N kd : Nat} {C : String} {z : Int} (f : Nat → Int) (hd : zz_D Y pc (.anewarray index) 3 pc1) (hT : zz_T n = some (.inr (t, N, kd + 2))) (ht : mm_ty[t]? = some (.object C)) (hl : Cond.classLink Y.1.cls index C ∈ mm_tb) (ho : Cond.arrayOver (.object C) ∈ mm_tb) (hz : z = (N : Int)) (hN : N ≤ 100000000) (hf : ∀ i, f i < 0) (hcells : k + 1 ≤ rm.cells) (hslots : j + N ≤ rm.slots) (kk : ∀ S1 : zz_S, S1 = zz_nw S n f → zz_E g l Y rm Q S1 (n + 1) pc1 ls (.ref n :: st) (k + 1) (j + N)) : zz_E g l Y rm Q S n pc ls (zi z :: st) k j := by
  subst hz
  refine mm_anewa hd.1 ht hl ho (fun h => ?_) (N := N) ?_ (by omega) hcells hslots (fun M1 e => zz_rw hd.2 ?_)
  · rw [Int32.lt_iff_toInt_lt, zz_t32 (by omega)] at h
    have : (0 : Int32).toInt = 0 := by decide
    omega
  · rw [← Int32.toNat_toInt, zz_t32 (by omega)]
    omega
  · have h := kk _ rfl
    unfold zz_E at h
    rw [zz_M_nw hT] at h
    rw [e]
    have e2 : zz_en (.inr (t, N, kd + 2)) f = .inl (t, N, .inr (.inr (.inr (.inr (fun _ => none))))) := by
      have e3 : (fun i => if f i < 0 then none else some (zz_rf (kd + 2) (f i))) = (fun _ => (none : Option Nat)) := by
        funext i
        rw [if_pos (hf i)]
      simp only [zz_en, zz_av]
      rw [e3]
    rw [e2] at h
    exact h
end ZN
end
section
abbrev zy_side_1_2 : mm_Y := (⟨"TensorForge", "side", "(I)V"⟩, prog_1_method_2_code, 2, none)
theorem zyw_side_1_2 : mm_Yw zy_side_1_2 1 := ⟨mm_tb_1 1047 (by decide +kernel) rfl, mm_tb_1 1 (by decide +kernel) rfl, ⟨by decide, by decide⟩, by decide +kernel⟩
theorem zd_1_2_0 : zz_D zy_side_1_2 0 (.iload_n 1) 1 1 := ⟨by decide +kernel, rfl⟩
theorem zd_1_2_1 : zz_D zy_side_1_2 1 (.iconst 2) 1 2 := ⟨by decide +kernel, rfl⟩
theorem zd_1_2_2 : zz_B zy_side_1_2 2 (Instr.if_icmp .lt) 11 5 := ⟨9, by decide +kernel, rfl, rfl⟩
theorem zt_1_2_11 : zz_Thr zy_side_1_2 11 87 89 91 := ⟨by decide +kernel, by decide +kernel, by decide +kernel, by decide +kernel, by decide +kernel⟩
theorem zxa_TF_91 : ∀ w ∈ Bundle.ownAtoms "TensorForge" 91 (mm_xn 0) ["java/lang/RuntimeException", "java/lang/Exception"], (goodWord w = true ∧ w ∈ tables_1) ∨ w ∈ mm_xs := by decide +kernel
theorem zxl_TF_87_89_91 : mm_Xl "TensorForge" 87 89 91 0 := ⟨mm_tb_1 1048 (by decide +kernel) rfl, mm_tb_1 1049 (by decide +kernel) rfl, mm_tb_1 16 (by decide +kernel) rfl, ⟨30, by decide +kernel⟩, zxa_TF_91⟩
theorem zd_1_2_5 : zz_D zy_side_1_2 5 (.iload_n 1) 1 6 := ⟨by decide +kernel, rfl⟩
theorem zd_1_2_6 : zz_D zy_side_1_2 6 (.bipush 8) 2 8 := ⟨by decide +kernel, rfl⟩
theorem zd_1_2_8 : zz_B zy_side_1_2 8 (Instr.if_icmp .le) 21 11 := ⟨13, by decide +kernel, rfl, rfl⟩
theorem zd_1_2_21 : zz_D zy_side_1_2 21 (.aload_n 0) 1 22 := ⟨by decide +kernel, rfl⟩
theorem zd_1_2_22 : zz_D zy_side_1_2 22 (.getfield 33) 3 25 := ⟨by decide +kernel, rfl⟩
theorem zf_TF_33 : mm_Fl "TensorForge" 33 0 0 (.object "TensorForge$Machine") true := ⟨R_TF, F_TF, 12, t_TF, rfl, i_TF, by decide, mm_tb_1 440 (by decide +kernel) rfl, rfl, t_TF_ok, n_TF, rfl, by decide +kernel⟩
theorem zd_1_2_25 : zz_D zy_side_1_2 25 (.iload_n 1) 1 26 := ⟨by decide +kernel, rfl⟩
theorem zd_1_2_26 : zz_D zy_side_1_2 26 (.invokevirtual 94) 3 29 := ⟨by decide +kernel, rfl⟩
abbrev zy_takeSide_6_2 : mm_Y := (⟨"TensorForge$Machine", "takeSide", "(I)V"⟩, prog_6_method_2_code, 2, none)
theorem zyw_takeSide_6_2 : mm_Yw zy_takeSide_6_2 1 := ⟨mm_tb_1 1119 (by decide +kernel) rfl, mm_tb_1 4 (by decide +kernel) rfl, ⟨by decide, by decide⟩, by decide +kernel⟩
theorem zd_6_2_0 : zz_D zy_takeSide_6_2 0 (.aload_n 0) 1 1 := ⟨by decide +kernel, rfl⟩
theorem zd_6_2_1 : zz_D zy_takeSide_6_2 1 (.iload_n 1) 1 2 := ⟨by decide +kernel, rfl⟩
theorem zd_6_2_2 : zz_D zy_takeSide_6_2 2 (.putfield 36) 3 5 := ⟨by decide +kernel, rfl⟩
theorem zf_Machine_36 : mm_Fl "TensorForge$Machine" 36 3 6 .int false := ⟨R_Machine, F_Machine, 14, t_Machine, rfl, i_Machine, by decide, mm_tb_1 191 (by decide +kernel) rfl, rfl, t_Machine_ok, n_Machine, rfl, by decide +kernel⟩
theorem zd_6_2_5 : zz_D zy_takeSide_6_2 5 (.aload_n 0) 1 6 := ⟨by decide +kernel, rfl⟩
theorem zd_6_2_6 : zz_D zy_takeSide_6_2 6 (.getfield 19) 3 9 := ⟨by decide +kernel, rfl⟩
theorem zf_Machine_19 : mm_Fl "TensorForge$Machine" 19 3 1 (.array .byte) true := ⟨R_Machine, F_Machine, 14, t_Machine, rfl, i_Machine, by decide, mm_tb_1 186 (by decide +kernel) rfl, rfl, t_Machine_ok, n_Machine, rfl, by decide +kernel⟩
theorem zd_6_2_9 : zz_D zy_takeSide_6_2 9 (.iconst 0) 1 10 := ⟨by decide +kernel, rfl⟩
theorem zd_6_2_10 : zz_D zy_takeSide_6_2 10 (.invokestatic 40) 3 13 := ⟨by decide +kernel, rfl⟩
abbrev zy_fill_27_109 : mm_Y := (⟨"java/util/Arrays", "fill", "([BB)V"⟩, prog_27_method_109_code, 4, none)
theorem zyw_fill_27_109 : mm_Yw zy_fill_27_109 2 := ⟨mm_tb_1 1122 (by decide +kernel) rfl, mm_tb_1 17 (by decide +kernel) rfl, ⟨by decide, by decide⟩, by decide +kernel⟩
theorem zd_27_109_0 : zz_D zy_fill_27_109 0 (.iconst 0) 1 1 := ⟨by decide +kernel, rfl⟩
theorem zd_27_109_1 : zz_D zy_fill_27_109 1 (.istore_n 2) 1 2 := ⟨by decide +kernel, rfl⟩
theorem zd_27_109_2 : zz_D zy_fill_27_109 2 (.aload_n 0) 1 3 := ⟨by decide +kernel, rfl⟩
theorem zd_27_109_3 : zz_D zy_fill_27_109 3 (.arraylength) 1 4 := ⟨by decide +kernel, rfl⟩
theorem zd_27_109_4 : zz_D zy_fill_27_109 4 (.istore_n 3) 1 5 := ⟨by decide +kernel, rfl⟩
theorem zd_27_109_5 : zz_D zy_fill_27_109 5 (.iload_n 2) 1 6 := ⟨by decide +kernel, rfl⟩
theorem zd_27_109_6 : zz_D zy_fill_27_109 6 (.iload_n 3) 1 7 := ⟨by decide +kernel, rfl⟩
theorem zd_27_109_7 : zz_B zy_fill_27_109 7 (Instr.if_icmp .ge) 20 10 := ⟨13, by decide +kernel, rfl, rfl⟩
theorem zd_27_109_10 : zz_D zy_fill_27_109 10 (.aload_n 0) 1 11 := ⟨by decide +kernel, rfl⟩
theorem zd_27_109_11 : zz_D zy_fill_27_109 11 (.iload_n 2) 1 12 := ⟨by decide +kernel, rfl⟩
theorem zd_27_109_12 : zz_D zy_fill_27_109 12 (.iload_n 1) 1 13 := ⟨by decide +kernel, rfl⟩
theorem zd_27_109_13 : zz_D zy_fill_27_109 13 (.bastore) 1 14 := ⟨by decide +kernel, rfl⟩
theorem zd_27_109_14 : zz_D zy_fill_27_109 14 (.iinc 2 1) 3 17 := ⟨by decide +kernel, rfl⟩
theorem zd_27_109_17 : zz_B zy_fill_27_109 17 Instr.goto 5 20 := ⟨(-12), by decide +kernel, rfl, rfl⟩
theorem zd_27_109_20 : zz_D zy_fill_27_109 20 (.return_) 1 21 := ⟨by decide +kernel, rfl⟩
-- java/util/Arrays fill ([BB)V
abbrev zr_fill_27_109_1033 : Room := { frames := 0, cells := 0, slots := 0, locals := 0 }
def zp_fill_27_109_1033 (p1 : Int) (S0 : zz_S) : zz_S → Prop := fun S => zz_G S ∧ zz_fr [] [1033] (fun _ _ => False) S0 S
theorem zb_fill_27_109_1033_5 {g : mm_G} {l : Launch} (p1 : Int) (S0 : zz_S) (n : Nat) (hn : zz_end ≤ n) (G_S0 : zz_G S0) (hp1 : (-128) ≤ p1 ∧ p1 ≤ 127) (x2 : Int) (S : zz_S) (G_S : zz_G S) (F_S : zz_fr [] [1033] (fun _ _ => False) S0 S) (i5_0 : 0 ≤ x2 ∧ x2 ≤ 512) (R : Nat) (hR : (512 - x2).toNat = R) (k5 : ∀ (x2 : Int) (S : zz_S), zz_G S → zz_fr [] [1033] (fun _ _ => False) S0 S → (0 ≤ x2 ∧ x2 ≤ 512) → (512 - x2).toNat < R → zz_E g l zy_fill_27_109 zr_fill_27_109_1033 (zz_QV n (zp_fill_27_109_1033 p1 S0)) S n 5 [some (.ref 1033), some (zi p1), some (zi x2), some (zi 512)] [] 0 0) : zz_E g l zy_fill_27_109 zr_fill_27_109_1033 (zz_QV n (zp_fill_27_109_1033 p1 S0)) S n 5 [some (.ref 1033), some (zi p1), some (zi x2), some (zi 512)] [] 0 0 := by
  refine zz_iload_n (x := x2) rfl zd_27_109_5 ?_
  refine zz_iload_n (x := 512) rfl zd_27_109_6 ?_
  refine zz_icmp_ge (by omega) (by omega) zd_27_109_7 (fun c1 => ?_) (fun c1 => ?_)
  · exact zz_vret zd_27_109_20 rfl (Nat.zero_le _) (Nat.zero_le _) ⟨_, rfl, G_S, F_S⟩
  · refine zz_aload_n (x := 1033) rfl zd_27_109_10 ?_
    refine zz_iload_n (x := x2) rfl zd_27_109_11 ?_
    refine zz_iload_n (x := p1) rfl zd_27_109_12 ?_
    refine zz_bast zd_27_109_13 zT_1033 rfl (zz_ltn hn rfl) (by decide) (by omega) (by omega) (fun S2 qS2 => ?_)
    have G_S2 := zz_G.put G_S qS2 (-128) 127 rfl (by omega)
    have F_S2 := zz_fr.putc F_S qS2 rfl
    refine zz_iinc [some (.ref 1033), some (zi p1), some (zi (x2 + 1)), some (zi 512)] zd_27_109_14 rfl rfl ?_
    refine zz_goto zd_27_109_17 ?_
    refine zz_less (ls1 := [some (.ref 1033), some (zi p1), some (zi (x2 + 1)), some (zi 512)]) ⟨rfl, ⟨rfl, ⟨rfl, ⟨rfl, trivial⟩⟩⟩⟩ ?_
    exact k5 (x2 + 1) S2 G_S2 F_S2 (by omega) (by omega)
theorem zi_fill_27_109_1033 {g : mm_G} {l : Launch} (p1 : Int) (S0 : zz_S) (n : Nat) (hn : zz_end ≤ n) (G_S0 : zz_G S0) (hp1 : (-128) ≤ p1 ∧ p1 ≤ 127) : ∀ N : Nat, (∀ (x2 : Int) (S : zz_S), zz_G S → zz_fr [] [1033] (fun _ _ => False) S0 S → (0 ≤ x2 ∧ x2 ≤ 512) → (512 - x2).toNat < N → zz_E g l zy_fill_27_109 zr_fill_27_109_1033 (zz_QV n (zp_fill_27_109_1033 p1 S0)) S n 5 [some (.ref 1033), some (zi p1), some (zi x2), some (zi 512)] [] 0 0) := by
  intro N
  induction N with
  | zero => exact fun x2 S _ _ _ h => absurd h (Nat.not_lt_zero _)
  | succ N ih =>
    exact fun x2 S a b j0 hR => zb_fill_27_109_1033_5 p1 S0 n hn G_S0 hp1 x2 S a b j0 _ rfl (fun x2 S a b j0 h => ih x2 S a b j0 (Nat.lt_of_lt_of_le h (Nat.le_of_lt_succ hR)))
theorem zc_fill_27_109_1033 {g : mm_G} {l : Launch} (p1 : Int) (S0 : zz_S) (n : Nat) (hn : zz_end ≤ n) (G_S0 : zz_G S0) (hp1 : (-128) ≤ p1 ∧ p1 ≤ 127) : mm_Met g l zy_fill_27_109 zr_fill_27_109_1033 [.ref 1033, zi p1] (zz_M S0 n) n (zz_QV n (zp_fill_27_109_1033 p1 S0)) := by
  refine zz_enter (by decide) (Nat.le_of_ble_eq_true rfl) (zz_less (ls1 := [some (.ref 1033), some (zi p1)]) ⟨rfl, ⟨rfl, trivial⟩⟩ ?_)
  have F_S0 : zz_fr [] [1033] (fun _ _ => False) S0 S0 := zz_fr.refl
  have k5 : ∀ (x2 : Int) (S : zz_S), zz_G S → zz_fr [] [1033] (fun _ _ => False) S0 S → (0 ≤ x2 ∧ x2 ≤ 512) → zz_E g l zy_fill_27_109 zr_fill_27_109_1033 (zz_QV n (zp_fill_27_109_1033 p1 S0)) S n 5 [some (.ref 1033), some (zi p1), some (zi x2), some (zi 512)] [] 0 0 := fun x2 S a b j0 => (zi_fill_27_109_1033 (g := g) (l := l) p1 S0 n hn G_S0 hp1 _) x2 S a b j0 (Nat.lt_succ_self _)
  refine zz_iconst zd_27_109_0 ?_
  refine zz_istore_n [some (.ref 1033), some (zi p1), some (zi 0)] zd_27_109_1 (by decide) rfl ?_
  refine zz_aload_n (x := 1033) rfl zd_27_109_2 ?_
  refine zz_alen zd_27_109_3 zT_1033 rfl (zz_ltn hn rfl) ?_
  refine zz_istore_n [some (.ref 1033), some (zi p1), some (zi 0), some (zi 512)] zd_27_109_4 (by decide) rfl ?_
  refine zz_less (ls1 := [some (.ref 1033), some (zi p1), some (zi 0), some (zi 512)]) ⟨rfl, ⟨rfl, ⟨rfl, ⟨rfl, trivial⟩⟩⟩⟩ ?_
  exact k5 0 S0 G_S0 F_S0 (by omega)
theorem zk_Machine_40 : mm_Sl "TensorForge$Machine" 40 2 zy_fill_27_109 := ⟨zyw_fill_27_109, mm_tb_1 1120 (by decide +kernel) rfl, mm_tb_1 1121 (by decide +kernel) rfl⟩
theorem zd_6_2_13 : zz_D zy_takeSide_6_2 13 (.aload_n 0) 1 14 := ⟨by decide +kernel, rfl⟩
theorem zd_6_2_14 : zz_D zy_takeSide_6_2 14 (.getfield 22) 3 17 := ⟨by decide +kernel, rfl⟩
theorem zf_Machine_22 : mm_Fl "TensorForge$Machine" 22 3 2 (.array .byte) true := ⟨R_Machine, F_Machine, 14, t_Machine, rfl, i_Machine, by decide, mm_tb_1 187 (by decide +kernel) rfl, rfl, t_Machine_ok, n_Machine, rfl, by decide +kernel⟩
theorem zd_6_2_17 : zz_D zy_takeSide_6_2 17 (.iconst 0) 1 18 := ⟨by decide +kernel, rfl⟩
theorem zd_6_2_18 : zz_D zy_takeSide_6_2 18 (.invokestatic 40) 3 21 := ⟨by decide +kernel, rfl⟩
-- java/util/Arrays fill ([BB)V
abbrev zr_fill_27_109_1034 : Room := { frames := 0, cells := 0, slots := 0, locals := 0 }
def zp_fill_27_109_1034 (p1 : Int) (S0 : zz_S) : zz_S → Prop := fun S => zz_G S ∧ zz_fr [] [1034] (fun _ _ => False) S0 S
theorem zb_fill_27_109_1034_5 {g : mm_G} {l : Launch} (p1 : Int) (S0 : zz_S) (n : Nat) (hn : zz_end ≤ n) (G_S0 : zz_G S0) (hp1 : (-128) ≤ p1 ∧ p1 ≤ 127) (x2 : Int) (S : zz_S) (G_S : zz_G S) (F_S : zz_fr [] [1034] (fun _ _ => False) S0 S) (i5_0 : 0 ≤ x2 ∧ x2 ≤ 512) (R : Nat) (hR : (512 - x2).toNat = R) (k5 : ∀ (x2 : Int) (S : zz_S), zz_G S → zz_fr [] [1034] (fun _ _ => False) S0 S → (0 ≤ x2 ∧ x2 ≤ 512) → (512 - x2).toNat < R → zz_E g l zy_fill_27_109 zr_fill_27_109_1034 (zz_QV n (zp_fill_27_109_1034 p1 S0)) S n 5 [some (.ref 1034), some (zi p1), some (zi x2), some (zi 512)] [] 0 0) : zz_E g l zy_fill_27_109 zr_fill_27_109_1034 (zz_QV n (zp_fill_27_109_1034 p1 S0)) S n 5 [some (.ref 1034), some (zi p1), some (zi x2), some (zi 512)] [] 0 0 := by
  refine zz_iload_n (x := x2) rfl zd_27_109_5 ?_
  refine zz_iload_n (x := 512) rfl zd_27_109_6 ?_
  refine zz_icmp_ge (by omega) (by omega) zd_27_109_7 (fun c1 => ?_) (fun c1 => ?_)
  · exact zz_vret zd_27_109_20 rfl (Nat.zero_le _) (Nat.zero_le _) ⟨_, rfl, G_S, F_S⟩
  · refine zz_aload_n (x := 1034) rfl zd_27_109_10 ?_
    refine zz_iload_n (x := x2) rfl zd_27_109_11 ?_
    refine zz_iload_n (x := p1) rfl zd_27_109_12 ?_
    refine zz_bast zd_27_109_13 zT_1034 rfl (zz_ltn hn rfl) (by decide) (by omega) (by omega) (fun S2 qS2 => ?_)
    have G_S2 := zz_G.put G_S qS2 (-128) 127 rfl (by omega)
    have F_S2 := zz_fr.putc F_S qS2 rfl
    refine zz_iinc [some (.ref 1034), some (zi p1), some (zi (x2 + 1)), some (zi 512)] zd_27_109_14 rfl rfl ?_
    refine zz_goto zd_27_109_17 ?_
    refine zz_less (ls1 := [some (.ref 1034), some (zi p1), some (zi (x2 + 1)), some (zi 512)]) ⟨rfl, ⟨rfl, ⟨rfl, ⟨rfl, trivial⟩⟩⟩⟩ ?_
    exact k5 (x2 + 1) S2 G_S2 F_S2 (by omega) (by omega)
theorem zi_fill_27_109_1034 {g : mm_G} {l : Launch} (p1 : Int) (S0 : zz_S) (n : Nat) (hn : zz_end ≤ n) (G_S0 : zz_G S0) (hp1 : (-128) ≤ p1 ∧ p1 ≤ 127) : ∀ N : Nat, (∀ (x2 : Int) (S : zz_S), zz_G S → zz_fr [] [1034] (fun _ _ => False) S0 S → (0 ≤ x2 ∧ x2 ≤ 512) → (512 - x2).toNat < N → zz_E g l zy_fill_27_109 zr_fill_27_109_1034 (zz_QV n (zp_fill_27_109_1034 p1 S0)) S n 5 [some (.ref 1034), some (zi p1), some (zi x2), some (zi 512)] [] 0 0) := by
  intro N
  induction N with
  | zero => exact fun x2 S _ _ _ h => absurd h (Nat.not_lt_zero _)
  | succ N ih =>
    exact fun x2 S a b j0 hR => zb_fill_27_109_1034_5 p1 S0 n hn G_S0 hp1 x2 S a b j0 _ rfl (fun x2 S a b j0 h => ih x2 S a b j0 (Nat.lt_of_lt_of_le h (Nat.le_of_lt_succ hR)))
theorem zc_fill_27_109_1034 {g : mm_G} {l : Launch} (p1 : Int) (S0 : zz_S) (n : Nat) (hn : zz_end ≤ n) (G_S0 : zz_G S0) (hp1 : (-128) ≤ p1 ∧ p1 ≤ 127) : mm_Met g l zy_fill_27_109 zr_fill_27_109_1034 [.ref 1034, zi p1] (zz_M S0 n) n (zz_QV n (zp_fill_27_109_1034 p1 S0)) := by
  refine zz_enter (by decide) (Nat.le_of_ble_eq_true rfl) (zz_less (ls1 := [some (.ref 1034), some (zi p1)]) ⟨rfl, ⟨rfl, trivial⟩⟩ ?_)
  have F_S0 : zz_fr [] [1034] (fun _ _ => False) S0 S0 := zz_fr.refl
  have k5 : ∀ (x2 : Int) (S : zz_S), zz_G S → zz_fr [] [1034] (fun _ _ => False) S0 S → (0 ≤ x2 ∧ x2 ≤ 512) → zz_E g l zy_fill_27_109 zr_fill_27_109_1034 (zz_QV n (zp_fill_27_109_1034 p1 S0)) S n 5 [some (.ref 1034), some (zi p1), some (zi x2), some (zi 512)] [] 0 0 := fun x2 S a b j0 => (zi_fill_27_109_1034 (g := g) (l := l) p1 S0 n hn G_S0 hp1 _) x2 S a b j0 (Nat.lt_succ_self _)
  refine zz_iconst zd_27_109_0 ?_
  refine zz_istore_n [some (.ref 1034), some (zi p1), some (zi 0)] zd_27_109_1 (by decide) rfl ?_
  refine zz_aload_n (x := 1034) rfl zd_27_109_2 ?_
  refine zz_alen zd_27_109_3 zT_1034 rfl (zz_ltn hn rfl) ?_
  refine zz_istore_n [some (.ref 1034), some (zi p1), some (zi 0), some (zi 512)] zd_27_109_4 (by decide) rfl ?_
  refine zz_less (ls1 := [some (.ref 1034), some (zi p1), some (zi 0), some (zi 512)]) ⟨rfl, ⟨rfl, ⟨rfl, ⟨rfl, trivial⟩⟩⟩⟩ ?_
  exact k5 0 S0 G_S0 F_S0 (by omega)
theorem zd_6_2_21 : zz_D zy_takeSide_6_2 21 (.aload_n 0) 1 22 := ⟨by decide +kernel, rfl⟩
theorem zd_6_2_22 : zz_D zy_takeSide_6_2 22 (.getfield 25) 3 25 := ⟨by decide +kernel, rfl⟩
theorem zf_Machine_25 : mm_Fl "TensorForge$Machine" 25 3 3 (.array .int) true := ⟨R_Machine, F_Machine, 14, t_Machine, rfl, i_Machine, by decide, mm_tb_1 188 (by decide +kernel) rfl, rfl, t_Machine_ok, n_Machine, rfl, by decide +kernel⟩
theorem zd_6_2_25 : zz_D zy_takeSide_6_2 25 (.iconst 0) 1 26 := ⟨by decide +kernel, rfl⟩
theorem zd_6_2_26 : zz_D zy_takeSide_6_2 26 (.invokestatic 46) 3 29 := ⟨by decide +kernel, rfl⟩
abbrev zy_fill_27_103 : mm_Y := (⟨"java/util/Arrays", "fill", "([II)V"⟩, prog_27_method_103_code, 4, none)
theorem zyw_fill_27_103 : mm_Yw zy_fill_27_103 2 := ⟨mm_tb_1 533 (by decide +kernel) rfl, mm_tb_1 17 (by decide +kernel) rfl, ⟨by decide, by decide⟩, by decide +kernel⟩
theorem zd_27_103_0 : zz_D zy_fill_27_103 0 (.iconst 0) 1 1 := ⟨by decide +kernel, rfl⟩
theorem zd_27_103_1 : zz_D zy_fill_27_103 1 (.istore_n 2) 1 2 := ⟨by decide +kernel, rfl⟩
theorem zd_27_103_2 : zz_D zy_fill_27_103 2 (.aload_n 0) 1 3 := ⟨by decide +kernel, rfl⟩
theorem zd_27_103_3 : zz_D zy_fill_27_103 3 (.arraylength) 1 4 := ⟨by decide +kernel, rfl⟩
theorem zd_27_103_4 : zz_D zy_fill_27_103 4 (.istore_n 3) 1 5 := ⟨by decide +kernel, rfl⟩
theorem zd_27_103_5 : zz_D zy_fill_27_103 5 (.iload_n 2) 1 6 := ⟨by decide +kernel, rfl⟩
theorem zd_27_103_6 : zz_D zy_fill_27_103 6 (.iload_n 3) 1 7 := ⟨by decide +kernel, rfl⟩
theorem zd_27_103_7 : zz_B zy_fill_27_103 7 (Instr.if_icmp .ge) 20 10 := ⟨13, by decide +kernel, rfl, rfl⟩
theorem zd_27_103_10 : zz_D zy_fill_27_103 10 (.aload_n 0) 1 11 := ⟨by decide +kernel, rfl⟩
theorem zd_27_103_11 : zz_D zy_fill_27_103 11 (.iload_n 2) 1 12 := ⟨by decide +kernel, rfl⟩
theorem zd_27_103_12 : zz_D zy_fill_27_103 12 (.iload_n 1) 1 13 := ⟨by decide +kernel, rfl⟩
theorem zd_27_103_13 : zz_D zy_fill_27_103 13 (.iastore) 1 14 := ⟨by decide +kernel, rfl⟩
theorem zd_27_103_14 : zz_D zy_fill_27_103 14 (.iinc 2 1) 3 17 := ⟨by decide +kernel, rfl⟩
theorem zd_27_103_17 : zz_B zy_fill_27_103 17 Instr.goto 5 20 := ⟨(-12), by decide +kernel, rfl, rfl⟩
theorem zd_27_103_20 : zz_D zy_fill_27_103 20 (.return_) 1 21 := ⟨by decide +kernel, rfl⟩
-- java/util/Arrays fill ([II)V
abbrev zr_fill_27_103_1035 : Room := { frames := 0, cells := 0, slots := 0, locals := 0 }
def zp_fill_27_103_1035 (p1 : Int) (S0 : zz_S) : zz_S → Prop := fun S => zz_G S ∧ zz_fr [] [1035] (fun _ _ => False) S0 S
theorem zb_fill_27_103_1035_5 {g : mm_G} {l : Launch} (p1 : Int) (S0 : zz_S) (n : Nat) (hn : zz_end ≤ n) (G_S0 : zz_G S0) (hp1 : (-2147483648) ≤ p1 ∧ p1 ≤ 2147483647) (x2 : Int) (S : zz_S) (G_S : zz_G S) (F_S : zz_fr [] [1035] (fun _ _ => False) S0 S) (i5_0 : 0 ≤ x2 ∧ x2 ≤ 256) (R : Nat) (hR : (256 - x2).toNat = R) (k5 : ∀ (x2 : Int) (S : zz_S), zz_G S → zz_fr [] [1035] (fun _ _ => False) S0 S → (0 ≤ x2 ∧ x2 ≤ 256) → (256 - x2).toNat < R → zz_E g l zy_fill_27_103 zr_fill_27_103_1035 (zz_QV n (zp_fill_27_103_1035 p1 S0)) S n 5 [some (.ref 1035), some (zi p1), some (zi x2), some (zi 256)] [] 0 0) : zz_E g l zy_fill_27_103 zr_fill_27_103_1035 (zz_QV n (zp_fill_27_103_1035 p1 S0)) S n 5 [some (.ref 1035), some (zi p1), some (zi x2), some (zi 256)] [] 0 0 := by
  refine zz_iload_n (x := x2) rfl zd_27_103_5 ?_
  refine zz_iload_n (x := 256) rfl zd_27_103_6 ?_
  refine zz_icmp_ge (by omega) (by omega) zd_27_103_7 (fun c1 => ?_) (fun c1 => ?_)
  · exact zz_vret zd_27_103_20 rfl (Nat.zero_le _) (Nat.zero_le _) ⟨_, rfl, G_S, F_S⟩
  · refine zz_aload_n (x := 1035) rfl zd_27_103_10 ?_
    refine zz_iload_n (x := x2) rfl zd_27_103_11 ?_
    refine zz_iload_n (x := p1) rfl zd_27_103_12 ?_
    refine zz_iast zd_27_103_13 zT_1035 rfl (zz_ltn hn rfl) (by decide) (by omega) (fun S2 qS2 => ?_)
    have G_S2 := zz_G.put G_S qS2 (-2147483648) 2147483647 rfl (by omega)
    have F_S2 := zz_fr.putc F_S qS2 rfl
    refine zz_iinc [some (.ref 1035), some (zi p1), some (zi (x2 + 1)), some (zi 256)] zd_27_103_14 rfl rfl ?_
    refine zz_goto zd_27_103_17 ?_
    refine zz_less (ls1 := [some (.ref 1035), some (zi p1), some (zi (x2 + 1)), some (zi 256)]) ⟨rfl, ⟨rfl, ⟨rfl, ⟨rfl, trivial⟩⟩⟩⟩ ?_
    exact k5 (x2 + 1) S2 G_S2 F_S2 (by omega) (by omega)
theorem zi_fill_27_103_1035 {g : mm_G} {l : Launch} (p1 : Int) (S0 : zz_S) (n : Nat) (hn : zz_end ≤ n) (G_S0 : zz_G S0) (hp1 : (-2147483648) ≤ p1 ∧ p1 ≤ 2147483647) : ∀ N : Nat, (∀ (x2 : Int) (S : zz_S), zz_G S → zz_fr [] [1035] (fun _ _ => False) S0 S → (0 ≤ x2 ∧ x2 ≤ 256) → (256 - x2).toNat < N → zz_E g l zy_fill_27_103 zr_fill_27_103_1035 (zz_QV n (zp_fill_27_103_1035 p1 S0)) S n 5 [some (.ref 1035), some (zi p1), some (zi x2), some (zi 256)] [] 0 0) := by
  intro N
  induction N with
  | zero => exact fun x2 S _ _ _ h => absurd h (Nat.not_lt_zero _)
  | succ N ih =>
    exact fun x2 S a b j0 hR => zb_fill_27_103_1035_5 p1 S0 n hn G_S0 hp1 x2 S a b j0 _ rfl (fun x2 S a b j0 h => ih x2 S a b j0 (Nat.lt_of_lt_of_le h (Nat.le_of_lt_succ hR)))
theorem zc_fill_27_103_1035 {g : mm_G} {l : Launch} (p1 : Int) (S0 : zz_S) (n : Nat) (hn : zz_end ≤ n) (G_S0 : zz_G S0) (hp1 : (-2147483648) ≤ p1 ∧ p1 ≤ 2147483647) : mm_Met g l zy_fill_27_103 zr_fill_27_103_1035 [.ref 1035, zi p1] (zz_M S0 n) n (zz_QV n (zp_fill_27_103_1035 p1 S0)) := by
  refine zz_enter (by decide) (Nat.le_of_ble_eq_true rfl) (zz_less (ls1 := [some (.ref 1035), some (zi p1)]) ⟨rfl, ⟨rfl, trivial⟩⟩ ?_)
  have F_S0 : zz_fr [] [1035] (fun _ _ => False) S0 S0 := zz_fr.refl
  have k5 : ∀ (x2 : Int) (S : zz_S), zz_G S → zz_fr [] [1035] (fun _ _ => False) S0 S → (0 ≤ x2 ∧ x2 ≤ 256) → zz_E g l zy_fill_27_103 zr_fill_27_103_1035 (zz_QV n (zp_fill_27_103_1035 p1 S0)) S n 5 [some (.ref 1035), some (zi p1), some (zi x2), some (zi 256)] [] 0 0 := fun x2 S a b j0 => (zi_fill_27_103_1035 (g := g) (l := l) p1 S0 n hn G_S0 hp1 _) x2 S a b j0 (Nat.lt_succ_self _)
  refine zz_iconst zd_27_103_0 ?_
  refine zz_istore_n [some (.ref 1035), some (zi p1), some (zi 0)] zd_27_103_1 (by decide) rfl ?_
  refine zz_aload_n (x := 1035) rfl zd_27_103_2 ?_
  refine zz_alen zd_27_103_3 zT_1035 rfl (zz_ltn hn rfl) ?_
  refine zz_istore_n [some (.ref 1035), some (zi p1), some (zi 0), some (zi 256)] zd_27_103_4 (by decide) rfl ?_
  refine zz_less (ls1 := [some (.ref 1035), some (zi p1), some (zi 0), some (zi 256)]) ⟨rfl, ⟨rfl, ⟨rfl, ⟨rfl, trivial⟩⟩⟩⟩ ?_
  exact k5 0 S0 G_S0 F_S0 (by omega)
theorem zk_Machine_46 : mm_Sl "TensorForge$Machine" 46 2 zy_fill_27_103 := ⟨zyw_fill_27_103, mm_tb_1 1123 (by decide +kernel) rfl, mm_tb_1 532 (by decide +kernel) rfl⟩
theorem zd_6_2_29 : zz_D zy_takeSide_6_2 29 (.aload_n 0) 1 30 := ⟨by decide +kernel, rfl⟩
theorem zd_6_2_30 : zz_D zy_takeSide_6_2 30 (.getfield 28) 3 33 := ⟨by decide +kernel, rfl⟩
theorem zf_Machine_28 : mm_Fl "TensorForge$Machine" 28 3 4 (.array .byte) true := ⟨R_Machine, F_Machine, 14, t_Machine, rfl, i_Machine, by decide, mm_tb_1 189 (by decide +kernel) rfl, rfl, t_Machine_ok, n_Machine, rfl, by decide +kernel⟩
theorem zd_6_2_33 : zz_D zy_takeSide_6_2 33 (.iconst 0) 1 34 := ⟨by decide +kernel, rfl⟩
theorem zd_6_2_34 : zz_D zy_takeSide_6_2 34 (.invokestatic 40) 3 37 := ⟨by decide +kernel, rfl⟩
-- java/util/Arrays fill ([BB)V
abbrev zr_fill_27_109_1036 : Room := { frames := 0, cells := 0, slots := 0, locals := 0 }
def zp_fill_27_109_1036 (p1 : Int) (S0 : zz_S) : zz_S → Prop := fun S => zz_G S ∧ zz_fr [] [1036] (fun _ _ => False) S0 S
theorem zb_fill_27_109_1036_5 {g : mm_G} {l : Launch} (p1 : Int) (S0 : zz_S) (n : Nat) (hn : zz_end ≤ n) (G_S0 : zz_G S0) (hp1 : (-128) ≤ p1 ∧ p1 ≤ 127) (x2 : Int) (S : zz_S) (G_S : zz_G S) (F_S : zz_fr [] [1036] (fun _ _ => False) S0 S) (i5_0 : 0 ≤ x2 ∧ x2 ≤ 256) (R : Nat) (hR : (256 - x2).toNat = R) (k5 : ∀ (x2 : Int) (S : zz_S), zz_G S → zz_fr [] [1036] (fun _ _ => False) S0 S → (0 ≤ x2 ∧ x2 ≤ 256) → (256 - x2).toNat < R → zz_E g l zy_fill_27_109 zr_fill_27_109_1036 (zz_QV n (zp_fill_27_109_1036 p1 S0)) S n 5 [some (.ref 1036), some (zi p1), some (zi x2), some (zi 256)] [] 0 0) : zz_E g l zy_fill_27_109 zr_fill_27_109_1036 (zz_QV n (zp_fill_27_109_1036 p1 S0)) S n 5 [some (.ref 1036), some (zi p1), some (zi x2), some (zi 256)] [] 0 0 := by
  refine zz_iload_n (x := x2) rfl zd_27_109_5 ?_
  refine zz_iload_n (x := 256) rfl zd_27_109_6 ?_
  refine zz_icmp_ge (by omega) (by omega) zd_27_109_7 (fun c1 => ?_) (fun c1 => ?_)
  · exact zz_vret zd_27_109_20 rfl (Nat.zero_le _) (Nat.zero_le _) ⟨_, rfl, G_S, F_S⟩
  · refine zz_aload_n (x := 1036) rfl zd_27_109_10 ?_
    refine zz_iload_n (x := x2) rfl zd_27_109_11 ?_
    refine zz_iload_n (x := p1) rfl zd_27_109_12 ?_
    refine zz_bast zd_27_109_13 zT_1036 rfl (zz_ltn hn rfl) (by decide) (by omega) (by omega) (fun S2 qS2 => ?_)
    have G_S2 := zz_G.put G_S qS2 (-128) 127 rfl (by omega)
    have F_S2 := zz_fr.putc F_S qS2 rfl
    refine zz_iinc [some (.ref 1036), some (zi p1), some (zi (x2 + 1)), some (zi 256)] zd_27_109_14 rfl rfl ?_
    refine zz_goto zd_27_109_17 ?_
    refine zz_less (ls1 := [some (.ref 1036), some (zi p1), some (zi (x2 + 1)), some (zi 256)]) ⟨rfl, ⟨rfl, ⟨rfl, ⟨rfl, trivial⟩⟩⟩⟩ ?_
    exact k5 (x2 + 1) S2 G_S2 F_S2 (by omega) (by omega)
theorem zi_fill_27_109_1036 {g : mm_G} {l : Launch} (p1 : Int) (S0 : zz_S) (n : Nat) (hn : zz_end ≤ n) (G_S0 : zz_G S0) (hp1 : (-128) ≤ p1 ∧ p1 ≤ 127) : ∀ N : Nat, (∀ (x2 : Int) (S : zz_S), zz_G S → zz_fr [] [1036] (fun _ _ => False) S0 S → (0 ≤ x2 ∧ x2 ≤ 256) → (256 - x2).toNat < N → zz_E g l zy_fill_27_109 zr_fill_27_109_1036 (zz_QV n (zp_fill_27_109_1036 p1 S0)) S n 5 [some (.ref 1036), some (zi p1), some (zi x2), some (zi 256)] [] 0 0) := by
  intro N
  induction N with
  | zero => exact fun x2 S _ _ _ h => absurd h (Nat.not_lt_zero _)
  | succ N ih =>
    exact fun x2 S a b j0 hR => zb_fill_27_109_1036_5 p1 S0 n hn G_S0 hp1 x2 S a b j0 _ rfl (fun x2 S a b j0 h => ih x2 S a b j0 (Nat.lt_of_lt_of_le h (Nat.le_of_lt_succ hR)))
theorem zc_fill_27_109_1036 {g : mm_G} {l : Launch} (p1 : Int) (S0 : zz_S) (n : Nat) (hn : zz_end ≤ n) (G_S0 : zz_G S0) (hp1 : (-128) ≤ p1 ∧ p1 ≤ 127) : mm_Met g l zy_fill_27_109 zr_fill_27_109_1036 [.ref 1036, zi p1] (zz_M S0 n) n (zz_QV n (zp_fill_27_109_1036 p1 S0)) := by
  refine zz_enter (by decide) (Nat.le_of_ble_eq_true rfl) (zz_less (ls1 := [some (.ref 1036), some (zi p1)]) ⟨rfl, ⟨rfl, trivial⟩⟩ ?_)
  have F_S0 : zz_fr [] [1036] (fun _ _ => False) S0 S0 := zz_fr.refl
  have k5 : ∀ (x2 : Int) (S : zz_S), zz_G S → zz_fr [] [1036] (fun _ _ => False) S0 S → (0 ≤ x2 ∧ x2 ≤ 256) → zz_E g l zy_fill_27_109 zr_fill_27_109_1036 (zz_QV n (zp_fill_27_109_1036 p1 S0)) S n 5 [some (.ref 1036), some (zi p1), some (zi x2), some (zi 256)] [] 0 0 := fun x2 S a b j0 => (zi_fill_27_109_1036 (g := g) (l := l) p1 S0 n hn G_S0 hp1 _) x2 S a b j0 (Nat.lt_succ_self _)
  refine zz_iconst zd_27_109_0 ?_
  refine zz_istore_n [some (.ref 1036), some (zi p1), some (zi 0)] zd_27_109_1 (by decide) rfl ?_
  refine zz_aload_n (x := 1036) rfl zd_27_109_2 ?_
  refine zz_alen zd_27_109_3 zT_1036 rfl (zz_ltn hn rfl) ?_
  refine zz_istore_n [some (.ref 1036), some (zi p1), some (zi 0), some (zi 256)] zd_27_109_4 (by decide) rfl ?_
  refine zz_less (ls1 := [some (.ref 1036), some (zi p1), some (zi 0), some (zi 256)]) ⟨rfl, ⟨rfl, ⟨rfl, ⟨rfl, trivial⟩⟩⟩⟩ ?_
  exact k5 0 S0 G_S0 F_S0 (by omega)
theorem zd_6_2_37 : zz_D zy_takeSide_6_2 37 (.return_) 1 38 := ⟨by decide +kernel, rfl⟩
-- TensorForge$Machine takeSide (I)V
abbrev zr_takeSide_6_2 : Room := { frames := 1, cells := 0, slots := 0, locals := 15 }
def zp_takeSide_6_2 (p0 : Int) (S0 : zz_S) : zz_S → Prop := fun S => zz_G S ∧ zz_fr [(1031, 6)] [1033, 1034, 1035, 1036] (fun _ _ => False) S0 S
theorem zc_takeSide_6_2 {g : mm_G} {l : Launch} (p0 : Int) (S0 : zz_S) (n : Nat) (hn : zz_end ≤ n) (G_S0 : zz_G S0) (hp0 : 2 ≤ p0 ∧ p0 ≤ 8) : mm_Met g l zy_takeSide_6_2 zr_takeSide_6_2 [.ref 1031, zi p0] (zz_M S0 n) n (zz_QV n (zp_takeSide_6_2 p0 S0)) := by
  refine zz_enter (by decide) (Nat.le_of_ble_eq_true rfl) (zz_less (ls1 := [some (.ref 1031), some (zi p0)]) ⟨rfl, ⟨rfl, trivial⟩⟩ ?_)
  have F_S0 : zz_fr [(1031, 6)] [1033, 1034, 1035, 1036] (fun _ _ => False) S0 S0 := zz_fr.refl
  refine zz_aload_n (x := 1031) rfl zd_6_2_0 ?_
  refine zz_iload_n (x := p0) rfl zd_6_2_1 ?_
  refine zz_puti zd_6_2_2 zf_Machine_36 zT_1031 rfl (zz_ltn hn rfl) (fun S1 qS1 => ?_)
  have G_S1 := zz_G.put G_S0 qS1 2 8 rfl (by omega)
  have F_S1 := zz_fr.puts F_S0 qS1 rfl
  refine zz_aload_n (x := 1031) rfl zd_6_2_5 ?_
  refine zz_getr (kd := 0) (z := 1033) zd_6_2_6 zf_Machine_19 zT_1031 rfl (zz_ltn hn rfl) (zz_G.eq G_S1 1031 1 1033 rfl rfl) (by decide) 1033 rfl ?_
  refine zz_iconst zd_6_2_9 ?_
  refine zz_callSV [.ref 1033, zi 0] zd_6_2_10 zk_Machine_40 rfl rfl ⟨Nat.le_of_ble_eq_true rfl, Nat.le_of_ble_eq_true rfl⟩ ⟨rfl, rfl⟩ (Nat.zero_le _) (Nat.zero_le _) (zc_fill_27_109_1033 0 S1 n hn G_S1 (by omega)) (fun S2 hP => ?_)
  obtain ⟨G_S2, fS2⟩ := hP
  have F_S2 := zz_fr.trans F_S1 fS2 rfl zz_nv
  refine zz_aload_n (x := 1031) rfl zd_6_2_13 ?_
  refine zz_getr (kd := 0) (z := 1034) zd_6_2_14 zf_Machine_22 zT_1031 rfl (zz_ltn hn rfl) (zz_G.eq G_S2 1031 2 1034 rfl rfl) (by decide) 1034 rfl ?_
  refine zz_iconst zd_6_2_17 ?_
  refine zz_callSV [.ref 1034, zi 0] zd_6_2_18 zk_Machine_40 rfl rfl ⟨Nat.le_of_ble_eq_true rfl, Nat.le_of_ble_eq_true rfl⟩ ⟨rfl, rfl⟩ (Nat.zero_le _) (Nat.zero_le _) (zc_fill_27_109_1034 0 S2 n hn G_S2 (by omega)) (fun S4 hP => ?_)
  obtain ⟨G_S4, fS4⟩ := hP
  have F_S4 := zz_fr.trans F_S2 fS4 rfl zz_nv
  refine zz_aload_n (x := 1031) rfl zd_6_2_21 ?_
  refine zz_getr (kd := 0) (z := 1035) zd_6_2_22 zf_Machine_25 zT_1031 rfl (zz_ltn hn rfl) (zz_G.eq G_S4 1031 3 1035 rfl rfl) (by decide) 1035 rfl ?_
  refine zz_iconst zd_6_2_25 ?_
  refine zz_callSV [.ref 1035, zi 0] zd_6_2_26 zk_Machine_46 rfl rfl ⟨Nat.le_of_ble_eq_true rfl, Nat.le_of_ble_eq_true rfl⟩ ⟨rfl, rfl⟩ (Nat.zero_le _) (Nat.zero_le _) (zc_fill_27_103_1035 0 S4 n hn G_S4 (by omega)) (fun S6 hP => ?_)
  obtain ⟨G_S6, fS6⟩ := hP
  have F_S6 := zz_fr.trans F_S4 fS6 rfl zz_nv
  refine zz_aload_n (x := 1031) rfl zd_6_2_29 ?_
  refine zz_getr (kd := 0) (z := 1036) zd_6_2_30 zf_Machine_28 zT_1031 rfl (zz_ltn hn rfl) (zz_G.eq G_S6 1031 4 1036 rfl rfl) (by decide) 1036 rfl ?_
  refine zz_iconst zd_6_2_33 ?_
  refine zz_callSV [.ref 1036, zi 0] zd_6_2_34 zk_Machine_40 rfl rfl ⟨Nat.le_of_ble_eq_true rfl, Nat.le_of_ble_eq_true rfl⟩ ⟨rfl, rfl⟩ (Nat.zero_le _) (Nat.zero_le _) (zc_fill_27_109_1036 0 S6 n hn G_S6 (by omega)) (fun S8 hP => ?_)
  obtain ⟨G_S8, fS8⟩ := hP
  have F_S8 := zz_fr.trans F_S6 fS8 rfl zz_nv
  exact zz_vret zd_6_2_37 rfl (Nat.zero_le _) (Nat.zero_le _) ⟨_, rfl, G_S8, F_S8⟩
theorem zk_TF_94 : mm_Vl "TensorForge" 94 3 1 zy_takeSide_6_2 := ⟨zyw_takeSide_6_2, (R_Machine, F_Machine, 14), rfl, mm_tb_1 1116 (by decide +kernel) rfl, mm_tb_1 1117 (by decide +kernel) rfl, mm_tb_1 1118 (by decide +kernel) rfl⟩
theorem zd_1_2_29 : zz_D zy_side_1_2 29 (.aload_n 0) 1 30 := ⟨by decide +kernel, rfl⟩
theorem zd_1_2_30 : zz_D zy_side_1_2 30 (.getfield 10) 3 33 := ⟨by decide +kernel, rfl⟩
theorem zf_TF_10 : mm_Fl "TensorForge" 10 0 7 (.object "TensorForge$Network") false := ⟨R_TF, F_TF, 12, t_TF, rfl, i_TF, by decide, mm_tb_1 447 (by decide +kernel) rfl, rfl, t_TF_ok, n_TF, rfl, by decide +kernel⟩
theorem zd_1_2_33 : zz_D zy_side_1_2 33 (.invokevirtual 98) 3 36 := ⟨by decide +kernel, rfl⟩
abbrev zy_dropLayers_7_4 : mm_Y := (⟨"TensorForge$Network", "dropLayers", "()V"⟩, prog_7_method_4_code, 1, none)
theorem zyw_dropLayers_7_4 : mm_Yw zy_dropLayers_7_4 0 := ⟨mm_tb_1 1033 (by decide +kernel) rfl, mm_tb_1 2 (by decide +kernel) rfl, ⟨by decide, by decide⟩, by decide +kernel⟩
theorem zd_7_4_0 : zz_D zy_dropLayers_7_4 0 (.aload_n 0) 1 1 := ⟨by decide +kernel, rfl⟩
theorem zd_7_4_1 : zz_D zy_dropLayers_7_4 1 (.iconst 1) 1 2 := ⟨by decide +kernel, rfl⟩
theorem zd_7_4_2 : zz_D zy_dropLayers_7_4 2 (.putfield 16) 3 5 := ⟨by decide +kernel, rfl⟩
theorem zf_Network_16 : mm_Fl "TensorForge$Network" 16 1 1 .int false := ⟨R_Network, F_Network, 2, t_Network, rfl, i_Network, by decide, mm_tb_1 146 (by decide +kernel) rfl, rfl, t_Network_ok, n_Network, rfl, by decide +kernel⟩
theorem zd_7_4_5 : zz_D zy_dropLayers_7_4 5 (.return_) 1 6 := ⟨by decide +kernel, rfl⟩
-- TensorForge$Network dropLayers ()V
abbrev zr_dropLayers_7_4 : Room := { frames := 0, cells := 0, slots := 0, locals := 0 }
def zp_dropLayers_7_4 (t : Int) (S0 : zz_S) : zz_S → Prop := fun S => zz_G S ∧ zz_fr [] [] (fun a i => (a = zz_rf 3 t ∧ i = 1)) S0 S
theorem zc_dropLayers_7_4 {g : mm_G} {l : Launch} (t : Int) (S0 : zz_S) (n : Nat) (hn : zz_end ≤ n) (G_S0 : zz_G S0) (ht : 0 ≤ t ∧ t ≤ 1) : mm_Met g l zy_dropLayers_7_4 zr_dropLayers_7_4 [.ref (zz_rf 3 t)] (zz_M S0 n) n (zz_QV n (zp_dropLayers_7_4 t S0)) := by
  refine zz_enter (by decide) (Nat.le_of_ble_eq_true rfl) (zz_less (ls1 := [some (.ref (zz_rf 3 t))]) ⟨rfl, trivial⟩ ?_)
  have F_S0 : zz_fr [] [] (fun a i => (a = zz_rf 3 t ∧ i = 1)) S0 S0 := zz_fr.refl
  have b_t := zz_rf3 (z := t) (by omega)
  refine zz_aload_n (x := zz_rf 3 t) rfl zd_7_4_0 ?_
  refine zz_iconst zd_7_4_1 ?_
  refine zz_puti zd_7_4_2 zf_Network_16 (zT_k3 (by omega)) rfl (zN_k3 hn (by omega)) (fun S1 qS1 => ?_)
  have G_S1 := zz_G.put G_S0 qS1 1 11 (zR_k3_1 (by omega)) (by omega)
  have F_S1 := zz_fr.putv F_S0 qS1 (⟨rfl, rfl⟩)
  exact zz_vret zd_7_4_5 rfl (Nat.zero_le _) (Nat.zero_le _) ⟨_, rfl, G_S1, F_S1⟩
theorem zk_TF_98 : mm_Vl "TensorForge" 98 1 0 zy_dropLayers_7_4 := ⟨zyw_dropLayers_7_4, (R_Network, F_Network, 2), rfl, mm_tb_1 1124 (by decide +kernel) rfl, mm_tb_1 1031 (by decide +kernel) rfl, mm_tb_1 1032 (by decide +kernel) rfl⟩
theorem zd_1_2_36 : zz_D zy_side_1_2 36 (.return_) 1 37 := ⟨by decide +kernel, rfl⟩
-- TensorForge side (I)V
abbrev zr_side_1_2 : Room := { frames := 6, cells := 1, slots := 6, locals := 82 }
def zp_side_1_2 (p0 : Int) (S0 : zz_S) : zz_S → Prop := fun S => zz_G S ∧ zz_fr [(1031, 6)] [1033, 1034, 1035, 1036] (fun a i => (a = zz_rf 3 (S0 1000 7) ∧ i = 1)) S0 S
def zx_side_1_2 (p0 : Int) (S0 : zz_S) : Nat → zz_S → Prop := fun i S => zz_G S ∧ zz_fr [(1031, 6)] [1033, 1034, 1035, 1036] (fun a i => (a = zz_rf 3 (S0 1000 7) ∧ i = 1)) S0 S ∧ (i < 4)
theorem zc_side_1_2 {g : mm_G} {l : Launch} (p0 : Int) (S0 : zz_S) (n : Nat) (hn : zz_end ≤ n) (hfl : l.flags = flags0) (G_S0 : zz_G S0) (hp0 : (-2147483648) ≤ p0 ∧ p0 ≤ 2147483647) : mm_Met g l zy_side_1_2 zr_side_1_2 [.ref 1000, zi p0] (zz_M S0 n) n (zz_XV n (zp_side_1_2 p0 S0) (zx_side_1_2 p0 S0)) := by
  refine zz_enter (by decide) (Nat.le_of_ble_eq_true rfl) (zz_less (ls1 := [some (.ref 1000), some (zi p0)]) ⟨rfl, ⟨rfl, trivial⟩⟩ ?_)
  have F_S0 : zz_fr [(1031, 6)] [1033, 1034, 1035, 1036] (fun a i => (a = zz_rf 3 (S0 1000 7) ∧ i = 1)) S0 S0 := zz_fr.refl
  refine zz_iload_n (x := p0) rfl zd_1_2_0 ?_
  refine zz_iconst zd_1_2_1 ?_
  refine zz_icmp_lt (by omega) (by omega) zd_1_2_2 (fun c1 => ?_) (fun c1 => ?_)
  · exact zz_throw (i := 0) hfl hn zt_1_2_11 zyw_side_1_2 zxl_TF_87_89_91 (Nat.le_of_ble_eq_true rfl) (Nat.le_of_ble_eq_true rfl) ⟨Nat.le_of_ble_eq_true rfl, Nat.le_of_ble_eq_true rfl⟩ (Or.inr ⟨_, _, rfl, G_S0, F_S0, by omega⟩)
  · refine zz_iload_n (x := p0) rfl zd_1_2_5 ?_
    refine zz_bipush (by decide) zd_1_2_6 ?_
    refine zz_icmp_le (by omega) (by omega) zd_1_2_8 (fun c2 => ?_) (fun c2 => ?_)
    · refine zz_aload_n (x := 1000) rfl zd_1_2_21 ?_
      refine zz_getr (kd := 0) (z := 1031) zd_1_2_22 zf_TF_33 zT_1000 rfl (zz_ltn hn rfl) (zz_G.eq G_S0 1000 0 1031 rfl rfl) (by decide) 1031 rfl ?_
      refine zz_iload_n (x := p0) rfl zd_1_2_25 ?_
      refine zz_callVV [zi p0] zd_1_2_26 zk_TF_94 zT_1031 (zz_ltn hn rfl) rfl rfl ⟨Nat.le_of_ble_eq_true rfl, Nat.le_of_ble_eq_true rfl⟩ ⟨rfl, rfl⟩ (Nat.zero_le _) (Nat.zero_le _) (zc_takeSide_6_2 p0 S0 n hn G_S0 (by omega)) (fun S3 hP => ?_)
      obtain ⟨G_S3, fS3⟩ := hP
      have F_S3 := zz_fr.trans F_S0 fS3 rfl zz_nv
      refine zz_aload_n (x := 1000) rfl zd_1_2_29 ?_
      have g5 := zz_G.r G_S0 1000 7 0 1 rfl rfl
      refine zz_getr (kd := 1) (z := S0 1000 7) zd_1_2_30 zf_TF_10 zT_1000 rfl (zz_ltn hn rfl) (zz_rc fS3 rfl rfl (fun h => h) rfl) (by omega) (zz_rf 3 (S0 1000 7)) rfl ?_
      refine zz_callVV [] zd_1_2_33 zk_TF_98 (zT_k3 (by omega)) (zN_k3 hn (by omega)) rfl rfl ⟨Nat.le_of_ble_eq_true rfl, Nat.le_of_ble_eq_true rfl⟩ ⟨rfl, rfl⟩ (Nat.zero_le _) (Nat.zero_le _) (zc_dropLayers_7_4 (S0 1000 7) S3 n hn G_S3 (by omega)) (fun S6 hP => ?_)
      obtain ⟨G_S6, fS6⟩ := hP
      have F_S6 := zz_fr.trans F_S3 fS6 rfl (fun a i h => Or.inr (Or.inr (h)))
      exact zz_vret zd_1_2_36 rfl (Nat.le_of_ble_eq_true rfl) (Nat.le_of_ble_eq_true rfl) (Or.inl ⟨_, rfl, G_S6, F_S6⟩)
    · exact zz_throw (i := 0) hfl hn zt_1_2_11 zyw_side_1_2 zxl_TF_87_89_91 (Nat.le_of_ble_eq_true rfl) (Nat.le_of_ble_eq_true rfl) ⟨Nat.le_of_ble_eq_true rfl, Nat.le_of_ble_eq_true rfl⟩ (Or.inr ⟨_, _, rfl, G_S0, F_S0, by omega⟩)
abbrev zy_memory_1_3 : mm_Y := (⟨"TensorForge", "memory", "(II)V"⟩, prog_1_method_3_code, 3, none)
theorem zyw_memory_1_3 : mm_Yw zy_memory_1_3 2 := ⟨mm_tb_1 1132 (by decide +kernel) rfl, mm_tb_1 1 (by decide +kernel) rfl, ⟨by decide, by decide⟩, by decide +kernel⟩
theorem zd_1_3_0 : zz_D zy_memory_1_3 0 (.iload_n 1) 1 1 := ⟨by decide +kernel, rfl⟩
theorem zd_1_3_1 : zz_B zy_memory_1_3 1 (Instr.ifCond .lt) 11 4 := ⟨10, by decide +kernel, rfl, rfl⟩
theorem zt_1_3_11 : zz_Thr zy_memory_1_3 11 101 103 105 := ⟨by decide +kernel, by decide +kernel, by decide +kernel, by decide +kernel, by decide +kernel⟩
theorem zxa_TF_105 : ∀ w ∈ Bundle.ownAtoms "TensorForge" 105 (mm_xn 1) ["java/lang/RuntimeException", "java/lang/Exception"], (goodWord w = true ∧ w ∈ tables_1) ∨ w ∈ mm_xs := by decide +kernel
theorem zxl_TF_101_103_105 : mm_Xl "TensorForge" 101 103 105 1 := ⟨mm_tb_1 1133 (by decide +kernel) rfl, mm_tb_1 1134 (by decide +kernel) rfl, mm_tb_1 18 (by decide +kernel) rfl, ⟨31, by decide +kernel⟩, zxa_TF_105⟩
theorem zd_1_3_4 : zz_D zy_memory_1_3 4 (.iload_n 1) 1 5 := ⟨by decide +kernel, rfl⟩
theorem zd_1_3_5 : zz_D zy_memory_1_3 5 (.sipush 4092) 3 8 := ⟨by decide +kernel, rfl⟩
theorem zd_1_3_8 : zz_B zy_memory_1_3 8 (Instr.if_icmp .le) 21 11 := ⟨13, by decide +kernel, rfl, rfl⟩
theorem zd_1_3_21 : zz_D zy_memory_1_3 21 (.aload_n 0) 1 22 := ⟨by decide +kernel, rfl⟩
theorem zd_1_3_22 : zz_D zy_memory_1_3 22 (.getfield 33) 3 25 := ⟨by decide +kernel, rfl⟩
theorem zd_1_3_25 : zz_D zy_memory_1_3 25 (.iload_n 1) 1 26 := ⟨by decide +kernel, rfl⟩
theorem zd_1_3_26 : zz_D zy_memory_1_3 26 (.iload_n 2) 1 27 := ⟨by decide +kernel, rfl⟩
theorem zd_1_3_27 : zz_D zy_memory_1_3 27 (.invokevirtual 106) 3 30 := ⟨by decide +kernel, rfl⟩
abbrev zy_writeInt_6_3 : mm_Y := (⟨"TensorForge$Machine", "writeInt", "(II)V"⟩, prog_6_method_3_code, 4, none)
theorem zyw_writeInt_6_3 : mm_Yw zy_writeInt_6_3 2 := ⟨mm_tb_1 1152 (by decide +kernel) rfl, mm_tb_1 4 (by decide +kernel) rfl, ⟨by decide, by decide⟩, by decide +kernel⟩
theorem zd_6_3_0 : zz_D zy_writeInt_6_3 0 (.iconst 0) 1 1 := ⟨by decide +kernel, rfl⟩
theorem zd_6_3_1 : zz_D zy_writeInt_6_3 1 (.istore_n 3) 1 2 := ⟨by decide +kernel, rfl⟩
theorem zd_6_3_2 : zz_D zy_writeInt_6_3 2 (.iload_n 3) 1 3 := ⟨by decide +kernel, rfl⟩
theorem zd_6_3_3 : zz_D zy_writeInt_6_3 3 (.iconst 4) 1 4 := ⟨by decide +kernel, rfl⟩
theorem zd_6_3_4 : zz_B zy_writeInt_6_3 4 (Instr.if_icmp .ge) 45 7 := ⟨41, by decide +kernel, rfl, rfl⟩
theorem zd_6_3_7 : zz_D zy_writeInt_6_3 7 (.iload_n 1) 1 8 := ⟨by decide +kernel, rfl⟩
theorem zd_6_3_8 : zz_D zy_writeInt_6_3 8 (.iload_n 3) 1 9 := ⟨by decide +kernel, rfl⟩
theorem zd_6_3_9 : zz_D zy_writeInt_6_3 9 (.iadd) 1 10 := ⟨by decide +kernel, rfl⟩
theorem zd_6_3_10 : zz_B zy_writeInt_6_3 10 (Instr.ifCond .lt) 39 13 := ⟨29, by decide +kernel, rfl, rfl⟩
theorem zd_6_3_13 : zz_D zy_writeInt_6_3 13 (.iload_n 1) 1 14 := ⟨by decide +kernel, rfl⟩
theorem zd_6_3_14 : zz_D zy_writeInt_6_3 14 (.iload_n 3) 1 15 := ⟨by decide +kernel, rfl⟩
theorem zd_6_3_15 : zz_D zy_writeInt_6_3 15 (.iadd) 1 16 := ⟨by decide +kernel, rfl⟩
theorem zd_6_3_16 : zz_D zy_writeInt_6_3 16 (.aload_n 0) 1 17 := ⟨by decide +kernel, rfl⟩
theorem zd_6_3_17 : zz_D zy_writeInt_6_3 17 (.getfield 13) 3 20 := ⟨by decide +kernel, rfl⟩
theorem zf_Machine_13 : mm_Fl "TensorForge$Machine" 13 3 0 (.array .byte) true := ⟨R_Machine, F_Machine, 14, t_Machine, rfl, i_Machine, by decide, mm_tb_1 184 (by decide +kernel) rfl, rfl, t_Machine_ok, n_Machine, rfl, by decide +kernel⟩
theorem zd_6_3_20 : zz_D zy_writeInt_6_3 20 (.arraylength) 1 21 := ⟨by decide +kernel, rfl⟩
theorem zd_6_3_21 : zz_B zy_writeInt_6_3 21 (Instr.if_icmp .ge) 39 24 := ⟨18, by decide +kernel, rfl, rfl⟩
theorem zd_6_3_24 : zz_D zy_writeInt_6_3 24 (.aload_n 0) 1 25 := ⟨by decide +kernel, rfl⟩
theorem zd_6_3_25 : zz_D zy_writeInt_6_3 25 (.getfield 13) 3 28 := ⟨by decide +kernel, rfl⟩
theorem zd_6_3_28 : zz_D zy_writeInt_6_3 28 (.iload_n 1) 1 29 := ⟨by decide +kernel, rfl⟩
theorem zd_6_3_29 : zz_D zy_writeInt_6_3 29 (.iload_n 3) 1 30 := ⟨by decide +kernel, rfl⟩
theorem zd_6_3_30 : zz_D zy_writeInt_6_3 30 (.iadd) 1 31 := ⟨by decide +kernel, rfl⟩
theorem zd_6_3_31 : zz_D zy_writeInt_6_3 31 (.iload_n 2) 1 32 := ⟨by decide +kernel, rfl⟩
theorem zd_6_3_32 : zz_D zy_writeInt_6_3 32 (.bipush 8) 2 34 := ⟨by decide +kernel, rfl⟩
theorem zd_6_3_34 : zz_D zy_writeInt_6_3 34 (.iload_n 3) 1 35 := ⟨by decide +kernel, rfl⟩
theorem zd_6_3_35 : zz_D zy_writeInt_6_3 35 (.imul) 1 36 := ⟨by decide +kernel, rfl⟩
theorem zd_6_3_36 : zz_D zy_writeInt_6_3 36 (.ishr) 1 37 := ⟨by decide +kernel, rfl⟩
theorem zd_6_3_37 : zz_D zy_writeInt_6_3 37 (.i2b) 1 38 := ⟨by decide +kernel, rfl⟩
theorem zd_6_3_38 : zz_D zy_writeInt_6_3 38 (.bastore) 1 39 := ⟨by decide +kernel, rfl⟩
theorem zd_6_3_39 : zz_D zy_writeInt_6_3 39 (.iinc 3 1) 3 42 := ⟨by decide +kernel, rfl⟩
theorem zd_6_3_42 : zz_B zy_writeInt_6_3 42 Instr.goto 2 45 := ⟨(-40), by decide +kernel, rfl, rfl⟩
theorem zd_6_3_45 : zz_D zy_writeInt_6_3 45 (.return_) 1 46 := ⟨by decide +kernel, rfl⟩
-- TensorForge$Machine writeInt (II)V
abbrev zr_writeInt_6_3 : Room := { frames := 0, cells := 0, slots := 0, locals := 0 }
def zp_writeInt_6_3 (p0 : Int) (p1 : Int) (S0 : zz_S) : zz_S → Prop := fun S => zz_G S ∧ zz_fr [] [1032] (fun _ _ => False) S0 S
theorem zb_writeInt_6_3_2 {g : mm_G} {l : Launch} (p0 : Int) (p1 : Int) (S0 : zz_S) (n : Nat) (hn : zz_end ≤ n) (G_S0 : zz_G S0) (hp0 : 0 ≤ p0 ∧ p0 ≤ 4092) (hp1 : (-2147483648) ≤ p1 ∧ p1 ≤ 2147483647) (x3 : Int) (S : zz_S) (G_S : zz_G S) (F_S : zz_fr [] [1032] (fun _ _ => False) S0 S) (i2_0 : 0 ≤ x3 ∧ x3 ≤ 4) (R : Nat) (hR : (4 - x3).toNat = R) (k2 : ∀ (x3 : Int) (S : zz_S), zz_G S → zz_fr [] [1032] (fun _ _ => False) S0 S → (0 ≤ x3 ∧ x3 ≤ 4) → (4 - x3).toNat < R → zz_E g l zy_writeInt_6_3 zr_writeInt_6_3 (zz_QV n (zp_writeInt_6_3 p0 p1 S0)) S n 2 [some (.ref 1031), some (zi p0), some (zi p1), some (zi x3)] [] 0 0) : zz_E g l zy_writeInt_6_3 zr_writeInt_6_3 (zz_QV n (zp_writeInt_6_3 p0 p1 S0)) S n 2 [some (.ref 1031), some (zi p0), some (zi p1), some (zi x3)] [] 0 0 := by
  refine zz_iload_n (x := x3) rfl zd_6_3_2 ?_
  refine zz_iconst zd_6_3_3 ?_
  refine zz_icmp_ge (by omega) (by omega) zd_6_3_4 (fun c1 => ?_) (fun c1 => ?_)
  · exact zz_vret zd_6_3_45 rfl (Nat.zero_le _) (Nat.zero_le _) ⟨_, rfl, G_S, F_S⟩
  · refine zz_iload_n (x := p0) rfl zd_6_3_7 ?_
    refine zz_iload_n (x := x3) rfl zd_6_3_8 ?_
    refine zz_iadd zd_6_3_9 ?_
    refine zz_if_lt (by omega) zd_6_3_10 (fun c2 => ?_) (fun c2 => ?_)
    · exfalso; omega
    · refine zz_iload_n (x := p0) rfl zd_6_3_13 ?_
      refine zz_iload_n (x := x3) rfl zd_6_3_14 ?_
      refine zz_iadd zd_6_3_15 ?_
      refine zz_aload_n (x := 1031) rfl zd_6_3_16 ?_
      refine zz_getr (kd := 0) (z := 1032) zd_6_3_17 zf_Machine_13 zT_1031 rfl (zz_ltn hn rfl) (zz_G.eq G_S 1031 0 1032 rfl rfl) (by decide) 1032 rfl ?_
      refine zz_alen zd_6_3_20 zT_1032 rfl (zz_ltn hn rfl) ?_
      refine zz_icmp_ge (by omega) (by omega) zd_6_3_21 (fun c3 => ?_) (fun c3 => ?_)
      · exfalso; omega
      · refine zz_aload_n (x := 1031) rfl zd_6_3_24 ?_
        refine zz_getr (kd := 0) (z := 1032) zd_6_3_25 zf_Machine_13 zT_1031 rfl (zz_ltn hn rfl) (zz_G.eq G_S 1031 0 1032 rfl rfl) (by decide) 1032 rfl ?_
        refine zz_iload_n (x := p0) rfl zd_6_3_28 ?_
        refine zz_iload_n (x := x3) rfl zd_6_3_29 ?_
        refine zz_iadd zd_6_3_30 ?_
        refine zz_iload_n (x := p1) rfl zd_6_3_31 ?_
        refine zz_bipush (by decide) zd_6_3_32 ?_
        refine zz_iload_n (x := x3) rfl zd_6_3_34 ?_
        refine zz_imul zd_6_3_35 ?_
        refine zz_ishr zd_6_3_36 (fun v4 hv4 ev4 => ?_)
        refine zz_i2b zd_6_3_37 (fun v5 hv5 => ?_)
        refine zz_bast zd_6_3_38 zT_1032 rfl (zz_ltn hn rfl) (by decide) (by omega) (by omega) (fun S6 qS6 => ?_)
        have G_S6 := zz_G.put G_S qS6 (-128) 127 rfl (by omega)
        have F_S6 := zz_fr.putc F_S qS6 rfl
        refine zz_iinc [some (.ref 1031), some (zi p0), some (zi p1), some (zi (x3 + 1))] zd_6_3_39 rfl rfl ?_
        refine zz_goto zd_6_3_42 ?_
        refine zz_less (ls1 := [some (.ref 1031), some (zi p0), some (zi p1), some (zi (x3 + 1))]) ⟨rfl, ⟨rfl, ⟨rfl, ⟨rfl, trivial⟩⟩⟩⟩ ?_
        exact k2 (x3 + 1) S6 G_S6 F_S6 (by omega) (by omega)
theorem zi_writeInt_6_3 {g : mm_G} {l : Launch} (p0 : Int) (p1 : Int) (S0 : zz_S) (n : Nat) (hn : zz_end ≤ n) (G_S0 : zz_G S0) (hp0 : 0 ≤ p0 ∧ p0 ≤ 4092) (hp1 : (-2147483648) ≤ p1 ∧ p1 ≤ 2147483647) : ∀ N : Nat, (∀ (x3 : Int) (S : zz_S), zz_G S → zz_fr [] [1032] (fun _ _ => False) S0 S → (0 ≤ x3 ∧ x3 ≤ 4) → (4 - x3).toNat < N → zz_E g l zy_writeInt_6_3 zr_writeInt_6_3 (zz_QV n (zp_writeInt_6_3 p0 p1 S0)) S n 2 [some (.ref 1031), some (zi p0), some (zi p1), some (zi x3)] [] 0 0) := by
  intro N
  induction N with
  | zero => exact fun x3 S _ _ _ h => absurd h (Nat.not_lt_zero _)
  | succ N ih =>
    exact fun x3 S a b j0 hR => zb_writeInt_6_3_2 p0 p1 S0 n hn G_S0 hp0 hp1 x3 S a b j0 _ rfl (fun x3 S a b j0 h => ih x3 S a b j0 (Nat.lt_of_lt_of_le h (Nat.le_of_lt_succ hR)))
theorem zc_writeInt_6_3 {g : mm_G} {l : Launch} (p0 : Int) (p1 : Int) (S0 : zz_S) (n : Nat) (hn : zz_end ≤ n) (G_S0 : zz_G S0) (hp0 : 0 ≤ p0 ∧ p0 ≤ 4092) (hp1 : (-2147483648) ≤ p1 ∧ p1 ≤ 2147483647) : mm_Met g l zy_writeInt_6_3 zr_writeInt_6_3 [.ref 1031, zi p0, zi p1] (zz_M S0 n) n (zz_QV n (zp_writeInt_6_3 p0 p1 S0)) := by
  refine zz_enter (by decide) (Nat.le_of_ble_eq_true rfl) (zz_less (ls1 := [some (.ref 1031), some (zi p0), some (zi p1)]) ⟨rfl, ⟨rfl, ⟨rfl, trivial⟩⟩⟩ ?_)
  have F_S0 : zz_fr [] [1032] (fun _ _ => False) S0 S0 := zz_fr.refl
  have k2 : ∀ (x3 : Int) (S : zz_S), zz_G S → zz_fr [] [1032] (fun _ _ => False) S0 S → (0 ≤ x3 ∧ x3 ≤ 4) → zz_E g l zy_writeInt_6_3 zr_writeInt_6_3 (zz_QV n (zp_writeInt_6_3 p0 p1 S0)) S n 2 [some (.ref 1031), some (zi p0), some (zi p1), some (zi x3)] [] 0 0 := fun x3 S a b j0 => (zi_writeInt_6_3 (g := g) (l := l) p0 p1 S0 n hn G_S0 hp0 hp1 _) x3 S a b j0 (Nat.lt_succ_self _)
  refine zz_iconst zd_6_3_0 ?_
  refine zz_istore_n [some (.ref 1031), some (zi p0), some (zi p1), some (zi 0)] zd_6_3_1 (by decide) rfl ?_
  refine zz_less (ls1 := [some (.ref 1031), some (zi p0), some (zi p1), some (zi 0)]) ⟨rfl, ⟨rfl, ⟨rfl, ⟨rfl, trivial⟩⟩⟩⟩ ?_
  exact k2 0 S0 G_S0 F_S0 (by omega)
theorem zk_TF_106 : mm_Vl "TensorForge" 106 3 2 zy_writeInt_6_3 := ⟨zyw_writeInt_6_3, (R_Machine, F_Machine, 14), rfl, mm_tb_1 1149 (by decide +kernel) rfl, mm_tb_1 1150 (by decide +kernel) rfl, mm_tb_1 1151 (by decide +kernel) rfl⟩
theorem zd_1_3_30 : zz_D zy_memory_1_3 30 (.return_) 1 31 := ⟨by decide +kernel, rfl⟩
-- TensorForge memory (II)V
abbrev zr_memory_1_3 : Room := { frames := 6, cells := 1, slots := 6, locals := 82 }
def zp_memory_1_3 (p0 : Int) (p1 : Int) (S0 : zz_S) : zz_S → Prop := fun S => zz_G S ∧ zz_fr [] [1032] (fun _ _ => False) S0 S
def zx_memory_1_3 (p0 : Int) (p1 : Int) (S0 : zz_S) : Nat → zz_S → Prop := fun i S => zz_G S ∧ zz_fr [] [1032] (fun _ _ => False) S0 S ∧ (i < 4)
theorem zc_memory_1_3 {g : mm_G} {l : Launch} (p0 : Int) (p1 : Int) (S0 : zz_S) (n : Nat) (hn : zz_end ≤ n) (hfl : l.flags = flags0) (G_S0 : zz_G S0) (hp0 : (-2147483648) ≤ p0 ∧ p0 ≤ 2147483647) (hp1 : (-2147483648) ≤ p1 ∧ p1 ≤ 2147483647) : mm_Met g l zy_memory_1_3 zr_memory_1_3 [.ref 1000, zi p0, zi p1] (zz_M S0 n) n (zz_XV n (zp_memory_1_3 p0 p1 S0) (zx_memory_1_3 p0 p1 S0)) := by
  refine zz_enter (by decide) (Nat.le_of_ble_eq_true rfl) (zz_less (ls1 := [some (.ref 1000), some (zi p0), some (zi p1)]) ⟨rfl, ⟨rfl, ⟨rfl, trivial⟩⟩⟩ ?_)
  have F_S0 : zz_fr [] [1032] (fun _ _ => False) S0 S0 := zz_fr.refl
  refine zz_iload_n (x := p0) rfl zd_1_3_0 ?_
  refine zz_if_lt (by omega) zd_1_3_1 (fun c1 => ?_) (fun c1 => ?_)
  · exact zz_throw (i := 1) hfl hn zt_1_3_11 zyw_memory_1_3 zxl_TF_101_103_105 (Nat.le_of_ble_eq_true rfl) (Nat.le_of_ble_eq_true rfl) ⟨Nat.le_of_ble_eq_true rfl, Nat.le_of_ble_eq_true rfl⟩ (Or.inr ⟨_, _, rfl, G_S0, F_S0, by omega⟩)
  · refine zz_iload_n (x := p0) rfl zd_1_3_4 ?_
    refine zz_sipush (by decide) zd_1_3_5 ?_
    refine zz_icmp_le (by omega) (by omega) zd_1_3_8 (fun c2 => ?_) (fun c2 => ?_)
    · refine zz_aload_n (x := 1000) rfl zd_1_3_21 ?_
      refine zz_getr (kd := 0) (z := 1031) zd_1_3_22 zf_TF_33 zT_1000 rfl (zz_ltn hn rfl) (zz_G.eq G_S0 1000 0 1031 rfl rfl) (by decide) 1031 rfl ?_
      refine zz_iload_n (x := p0) rfl zd_1_3_25 ?_
      refine zz_iload_n (x := p1) rfl zd_1_3_26 ?_
      refine zz_callVV [zi p0, zi p1] zd_1_3_27 zk_TF_106 zT_1031 (zz_ltn hn rfl) rfl rfl ⟨Nat.le_of_ble_eq_true rfl, Nat.le_of_ble_eq_true rfl⟩ ⟨rfl, rfl⟩ (Nat.zero_le _) (Nat.zero_le _) (zc_writeInt_6_3 p0 p1 S0 n hn G_S0 (by omega) (by omega)) (fun S3 hP => ?_)
      obtain ⟨G_S3, fS3⟩ := hP
      have F_S3 := zz_fr.trans F_S0 fS3 rfl zz_nv
      exact zz_vret zd_1_3_30 rfl (Nat.le_of_ble_eq_true rfl) (Nat.le_of_ble_eq_true rfl) (Or.inl ⟨_, rfl, G_S3, F_S3⟩)
    · exact zz_throw (i := 1) hfl hn zt_1_3_11 zyw_memory_1_3 zxl_TF_101_103_105 (Nat.le_of_ble_eq_true rfl) (Nat.le_of_ble_eq_true rfl) ⟨Nat.le_of_ble_eq_true rfl, Nat.le_of_ble_eq_true rfl⟩ (Or.inr ⟨_, _, rfl, G_S0, F_S0, by omega⟩)
abbrev zy_look_1_4 : mm_Y := (⟨"TensorForge", "look", "(II)I"⟩, prog_1_method_4_code, 3, (some .int))
theorem zyw_look_1_4 : mm_Yw zy_look_1_4 2 := ⟨mm_tb_1 1159 (by decide +kernel) rfl, mm_tb_1 1 (by decide +kernel) rfl, ⟨by decide, by decide⟩, by decide +kernel⟩
theorem zd_1_4_0 : zz_D zy_look_1_4 0 (.iload_n 1) 1 1 := ⟨by decide +kernel, rfl⟩
theorem zd_1_4_1 : zz_B zy_look_1_4 1 (Instr.ifCond .lt) 9 4 := ⟨8, by decide +kernel, rfl, rfl⟩
theorem zt_1_4_9 : zz_Thr zy_look_1_4 9 87 112 91 := ⟨by decide +kernel, by decide +kernel, by decide +kernel, by decide +kernel, by decide +kernel⟩
theorem zxl_TF_87_112_91 : mm_Xl "TensorForge" 87 112 91 0 := ⟨mm_tb_1 1048 (by decide +kernel) rfl, mm_tb_1 1049 (by decide +kernel) rfl, mm_tb_1 16 (by decide +kernel) rfl, ⟨32, by decide +kernel⟩, zxa_TF_91⟩
theorem zd_1_4_4 : zz_D zy_look_1_4 4 (.iload_n 1) 1 5 := ⟨by decide +kernel, rfl⟩
theorem zd_1_4_5 : zz_D zy_look_1_4 5 (.iconst 5) 1 6 := ⟨by decide +kernel, rfl⟩
theorem zd_1_4_6 : zz_B zy_look_1_4 6 (Instr.if_icmp .lt) 19 9 := ⟨13, by decide +kernel, rfl, rfl⟩
theorem zd_1_4_19 : zz_D zy_look_1_4 19 (.iload_n 2) 1 20 := ⟨by decide +kernel, rfl⟩
theorem zd_1_4_20 : zz_B zy_look_1_4 20 (Instr.ifCond .lt) 32 23 := ⟨12, by decide +kernel, rfl, rfl⟩
theorem zt_1_4_32 : zz_Thr zy_look_1_4 32 101 118 105 := ⟨by decide +kernel, by decide +kernel, by decide +kernel, by decide +kernel, by decide +kernel⟩
theorem zxl_TF_101_118_105 : mm_Xl "TensorForge" 101 118 105 1 := ⟨mm_tb_1 1133 (by decide +kernel) rfl, mm_tb_1 1134 (by decide +kernel) rfl, mm_tb_1 18 (by decide +kernel) rfl, ⟨33, by decide +kernel⟩, zxa_TF_105⟩
theorem zd_1_4_23 : zz_D zy_look_1_4 23 (.iload_n 2) 1 24 := ⟨by decide +kernel, rfl⟩
theorem zd_1_4_24 : zz_D zy_look_1_4 24 (.getstatic 114) 3 27 := ⟨by decide +kernel, rfl⟩
theorem zs_TF_114 : Cond.fieldLink "TensorForge" 114 "TensorForge$Reaches" "SIZES" "[I" ∈ mm_tb := mm_tb_1 1161 (by decide +kernel) rfl
theorem zd_1_4_27 : zz_D zy_look_1_4 27 (.iload_n 1) 1 28 := ⟨by decide +kernel, rfl⟩
theorem zd_1_4_28 : zz_D zy_look_1_4 28 (.iaload) 1 29 := ⟨by decide +kernel, rfl⟩
theorem zz_sta0 {i : Int} (h : 0 ≤ i ∧ i < 5) : ∃ z : Int, (256 ≤ z ∧ z ≤ 4096) ∧ ([4096, 512, 512, 256, 256] : List Int32).getD i.toNat 0 = Int32.ofInt z := by
  have : i = 0 ∨ i = 1 ∨ i = 2 ∨ i = 3 ∨ i = 4 := by omega
  rcases this with rfl | rfl | rfl | rfl | rfl
  · exact ⟨4096, by decide, by decide⟩
  · exact ⟨512, by decide, by decide⟩
  · exact ⟨512, by decide, by decide⟩
  · exact ⟨256, by decide, by decide⟩
  · exact ⟨256, by decide, by decide⟩
theorem zd_1_4_29 : zz_B zy_look_1_4 29 (Instr.if_icmp .lt) 42 32 := ⟨13, by decide +kernel, rfl, rfl⟩
theorem zd_1_4_42 : zz_D zy_look_1_4 42 (.aload_n 0) 1 43 := ⟨by decide +kernel, rfl⟩
theorem zd_1_4_43 : zz_D zy_look_1_4 43 (.getfield 33) 3 46 := ⟨by decide +kernel, rfl⟩
theorem zd_1_4_46 : zz_D zy_look_1_4 46 (.iload_n 1) 1 47 := ⟨by decide +kernel, rfl⟩
theorem zd_1_4_47 : zz_D zy_look_1_4 47 (.iload_n 2) 1 48 := ⟨by decide +kernel, rfl⟩
theorem zd_1_4_48 : zz_D zy_look_1_4 48 (.invokevirtual 120) 3 51 := ⟨by decide +kernel, rfl⟩
abbrev zy_valueAt_6_5 : mm_Y := (⟨"TensorForge$Machine", "valueAt", "(II)I"⟩, prog_6_method_5_code, 3, (some .int))
theorem zyw_valueAt_6_5 : mm_Yw zy_valueAt_6_5 2 := ⟨mm_tb_1 1166 (by decide +kernel) rfl, mm_tb_1 4 (by decide +kernel) rfl, ⟨by decide, by decide⟩, by decide +kernel⟩
theorem zd_6_5_0 : zz_D zy_valueAt_6_5 0 (.iload_n 2) 1 1 := ⟨by decide +kernel, rfl⟩
theorem zd_6_5_1 : zz_B zy_valueAt_6_5 1 (Instr.ifCond .ge) 6 4 := ⟨5, by decide +kernel, rfl, rfl⟩
theorem zd_6_5_6 : zz_D zy_valueAt_6_5 6 (.iload_n 1) 1 7 := ⟨by decide +kernel, rfl⟩
theorem zd_6_5_7 : zz_W zy_valueAt_6_5 7 133 0 4 #[33, 53, 73, 93, 113] := ⟨33, by decide +kernel⟩
theorem zd_6_5_40 : zz_D zy_valueAt_6_5 40 (.iload_n 2) 1 41 := ⟨by decide +kernel, rfl⟩
theorem zd_6_5_41 : zz_D zy_valueAt_6_5 41 (.aload_n 0) 1 42 := ⟨by decide +kernel, rfl⟩
theorem zd_6_5_42 : zz_D zy_valueAt_6_5 42 (.getfield 13) 3 45 := ⟨by decide +kernel, rfl⟩
theorem zd_6_5_45 : zz_D zy_valueAt_6_5 45 (.arraylength) 1 46 := ⟨by decide +kernel, rfl⟩
theorem zd_6_5_46 : zz_B zy_valueAt_6_5 46 (Instr.if_icmp .ge) 58 49 := ⟨12, by decide +kernel, rfl, rfl⟩
theorem zd_6_5_58 : zz_D zy_valueAt_6_5 58 (.iconst 0) 1 59 := ⟨by decide +kernel, rfl⟩
theorem zd_6_5_59 : zz_D zy_valueAt_6_5 59 (.ireturn) 1 60 := ⟨by decide +kernel, rfl⟩
theorem zd_6_5_49 : zz_D zy_valueAt_6_5 49 (.aload_n 0) 1 50 := ⟨by decide +kernel, rfl⟩
theorem zd_6_5_50 : zz_D zy_valueAt_6_5 50 (.getfield 13) 3 53 := ⟨by decide +kernel, rfl⟩
theorem zd_6_5_53 : zz_D zy_valueAt_6_5 53 (.iload_n 2) 1 54 := ⟨by decide +kernel, rfl⟩
theorem zd_6_5_54 : zz_D zy_valueAt_6_5 54 (.baload) 1 55 := ⟨by decide +kernel, rfl⟩
theorem zd_6_5_55 : zz_B zy_valueAt_6_5 55 Instr.goto 59 58 := ⟨4, by decide +kernel, rfl, rfl⟩
theorem zd_6_5_60 : zz_D zy_valueAt_6_5 60 (.iload_n 2) 1 61 := ⟨by decide +kernel, rfl⟩
theorem zd_6_5_61 : zz_D zy_valueAt_6_5 61 (.aload_n 0) 1 62 := ⟨by decide +kernel, rfl⟩
theorem zd_6_5_62 : zz_D zy_valueAt_6_5 62 (.getfield 19) 3 65 := ⟨by decide +kernel, rfl⟩
theorem zd_6_5_65 : zz_D zy_valueAt_6_5 65 (.arraylength) 1 66 := ⟨by decide +kernel, rfl⟩
theorem zd_6_5_66 : zz_B zy_valueAt_6_5 66 (Instr.if_icmp .ge) 78 69 := ⟨12, by decide +kernel, rfl, rfl⟩
theorem zd_6_5_78 : zz_D zy_valueAt_6_5 78 (.iconst 0) 1 79 := ⟨by decide +kernel, rfl⟩
theorem zd_6_5_79 : zz_D zy_valueAt_6_5 79 (.ireturn) 1 80 := ⟨by decide +kernel, rfl⟩
theorem zd_6_5_69 : zz_D zy_valueAt_6_5 69 (.aload_n 0) 1 70 := ⟨by decide +kernel, rfl⟩
theorem zd_6_5_70 : zz_D zy_valueAt_6_5 70 (.getfield 19) 3 73 := ⟨by decide +kernel, rfl⟩
theorem zd_6_5_73 : zz_D zy_valueAt_6_5 73 (.iload_n 2) 1 74 := ⟨by decide +kernel, rfl⟩
theorem zd_6_5_74 : zz_D zy_valueAt_6_5 74 (.baload) 1 75 := ⟨by decide +kernel, rfl⟩
theorem zd_6_5_75 : zz_B zy_valueAt_6_5 75 Instr.goto 79 78 := ⟨4, by decide +kernel, rfl, rfl⟩
theorem zd_6_5_80 : zz_D zy_valueAt_6_5 80 (.iload_n 2) 1 81 := ⟨by decide +kernel, rfl⟩
theorem zd_6_5_81 : zz_D zy_valueAt_6_5 81 (.aload_n 0) 1 82 := ⟨by decide +kernel, rfl⟩
theorem zd_6_5_82 : zz_D zy_valueAt_6_5 82 (.getfield 22) 3 85 := ⟨by decide +kernel, rfl⟩
theorem zd_6_5_85 : zz_D zy_valueAt_6_5 85 (.arraylength) 1 86 := ⟨by decide +kernel, rfl⟩
theorem zd_6_5_86 : zz_B zy_valueAt_6_5 86 (Instr.if_icmp .ge) 98 89 := ⟨12, by decide +kernel, rfl, rfl⟩
theorem zd_6_5_98 : zz_D zy_valueAt_6_5 98 (.iconst 0) 1 99 := ⟨by decide +kernel, rfl⟩
theorem zd_6_5_99 : zz_D zy_valueAt_6_5 99 (.ireturn) 1 100 := ⟨by decide +kernel, rfl⟩
theorem zd_6_5_89 : zz_D zy_valueAt_6_5 89 (.aload_n 0) 1 90 := ⟨by decide +kernel, rfl⟩
theorem zd_6_5_90 : zz_D zy_valueAt_6_5 90 (.getfield 22) 3 93 := ⟨by decide +kernel, rfl⟩
theorem zd_6_5_93 : zz_D zy_valueAt_6_5 93 (.iload_n 2) 1 94 := ⟨by decide +kernel, rfl⟩
theorem zd_6_5_94 : zz_D zy_valueAt_6_5 94 (.baload) 1 95 := ⟨by decide +kernel, rfl⟩
theorem zd_6_5_95 : zz_B zy_valueAt_6_5 95 Instr.goto 99 98 := ⟨4, by decide +kernel, rfl, rfl⟩
theorem zd_6_5_100 : zz_D zy_valueAt_6_5 100 (.iload_n 2) 1 101 := ⟨by decide +kernel, rfl⟩
theorem zd_6_5_101 : zz_D zy_valueAt_6_5 101 (.aload_n 0) 1 102 := ⟨by decide +kernel, rfl⟩
theorem zd_6_5_102 : zz_D zy_valueAt_6_5 102 (.getfield 25) 3 105 := ⟨by decide +kernel, rfl⟩
theorem zd_6_5_105 : zz_D zy_valueAt_6_5 105 (.arraylength) 1 106 := ⟨by decide +kernel, rfl⟩
theorem zd_6_5_106 : zz_B zy_valueAt_6_5 106 (Instr.if_icmp .ge) 118 109 := ⟨12, by decide +kernel, rfl, rfl⟩
theorem zd_6_5_118 : zz_D zy_valueAt_6_5 118 (.iconst 0) 1 119 := ⟨by decide +kernel, rfl⟩
theorem zd_6_5_119 : zz_D zy_valueAt_6_5 119 (.ireturn) 1 120 := ⟨by decide +kernel, rfl⟩
theorem zd_6_5_109 : zz_D zy_valueAt_6_5 109 (.aload_n 0) 1 110 := ⟨by decide +kernel, rfl⟩
theorem zd_6_5_110 : zz_D zy_valueAt_6_5 110 (.getfield 25) 3 113 := ⟨by decide +kernel, rfl⟩
theorem zd_6_5_113 : zz_D zy_valueAt_6_5 113 (.iload_n 2) 1 114 := ⟨by decide +kernel, rfl⟩
theorem zd_6_5_114 : zz_D zy_valueAt_6_5 114 (.iaload) 1 115 := ⟨by decide +kernel, rfl⟩
theorem zd_6_5_115 : zz_B zy_valueAt_6_5 115 Instr.goto 119 118 := ⟨4, by decide +kernel, rfl, rfl⟩
theorem zd_6_5_120 : zz_D zy_valueAt_6_5 120 (.iload_n 2) 1 121 := ⟨by decide +kernel, rfl⟩
theorem zd_6_5_121 : zz_D zy_valueAt_6_5 121 (.aload_n 0) 1 122 := ⟨by decide +kernel, rfl⟩
theorem zd_6_5_122 : zz_D zy_valueAt_6_5 122 (.getfield 28) 3 125 := ⟨by decide +kernel, rfl⟩
theorem zd_6_5_125 : zz_D zy_valueAt_6_5 125 (.arraylength) 1 126 := ⟨by decide +kernel, rfl⟩
theorem zd_6_5_126 : zz_B zy_valueAt_6_5 126 (Instr.if_icmp .ge) 138 129 := ⟨12, by decide +kernel, rfl, rfl⟩
theorem zd_6_5_138 : zz_D zy_valueAt_6_5 138 (.iconst 0) 1 139 := ⟨by decide +kernel, rfl⟩
theorem zd_6_5_139 : zz_D zy_valueAt_6_5 139 (.ireturn) 1 140 := ⟨by decide +kernel, rfl⟩
theorem zd_6_5_129 : zz_D zy_valueAt_6_5 129 (.aload_n 0) 1 130 := ⟨by decide +kernel, rfl⟩
theorem zd_6_5_130 : zz_D zy_valueAt_6_5 130 (.getfield 28) 3 133 := ⟨by decide +kernel, rfl⟩
theorem zd_6_5_133 : zz_D zy_valueAt_6_5 133 (.iload_n 2) 1 134 := ⟨by decide +kernel, rfl⟩
theorem zd_6_5_134 : zz_D zy_valueAt_6_5 134 (.baload) 1 135 := ⟨by decide +kernel, rfl⟩
theorem zd_6_5_135 : zz_B zy_valueAt_6_5 135 Instr.goto 139 138 := ⟨4, by decide +kernel, rfl, rfl⟩
theorem zd_6_5_140 : zz_D zy_valueAt_6_5 140 (.iconst 0) 1 141 := ⟨by decide +kernel, rfl⟩
theorem zd_6_5_141 : zz_D zy_valueAt_6_5 141 (.ireturn) 1 142 := ⟨by decide +kernel, rfl⟩
theorem zd_6_5_4 : zz_D zy_valueAt_6_5 4 (.iconst 0) 1 5 := ⟨by decide +kernel, rfl⟩
theorem zd_6_5_5 : zz_D zy_valueAt_6_5 5 (.ireturn) 1 6 := ⟨by decide +kernel, rfl⟩
-- TensorForge$Machine valueAt (II)I
abbrev zr_valueAt_6_5 : Room := { frames := 0, cells := 0, slots := 0, locals := 0 }
def zp_valueAt_6_5 (p0 : Int) (p1 : Int) (S0 : zz_S) : Int → zz_S → Prop := fun r S => S0 = S ∧ ((-2147483648) ≤ r ∧ r ≤ 2147483647)
theorem zc_valueAt_6_5 {g : mm_G} {l : Launch} (p0 : Int) (p1 : Int) (S0 : zz_S) (n : Nat) (hn : zz_end ≤ n) (G_S0 : zz_G S0) (hp0 : (-2147483648) ≤ p0 ∧ p0 ≤ 2147483647) (hp1 : (-2147483648) ≤ p1 ∧ p1 ≤ 2147483647) : mm_Met g l zy_valueAt_6_5 zr_valueAt_6_5 [.ref 1031, zi p0, zi p1] (zz_M S0 n) n (zz_QI n (zp_valueAt_6_5 p0 p1 S0)) := by
  refine zz_enter (by decide) (Nat.le_of_ble_eq_true rfl) (zz_less (ls1 := [some (.ref 1031), some (zi p0), some (zi p1)]) ⟨rfl, ⟨rfl, ⟨rfl, trivial⟩⟩⟩ ?_)
  refine zz_iload_n (x := p1) rfl zd_6_5_0 ?_
  refine zz_if_ge (by omega) zd_6_5_1 (fun c1 => ?_) (fun c1 => ?_)
  · refine zz_iload_n (x := p0) rfl zd_6_5_6 ?_
    by_cases c2 : p0 = 0
    · refine zz_swIn 0 33 c2 (by decide) zd_6_5_7 rfl rfl ?_
      refine zz_iload_n (x := p1) rfl zd_6_5_40 ?_
      refine zz_aload_n (x := 1031) rfl zd_6_5_41 ?_
      refine zz_getr (kd := 0) (z := 1032) zd_6_5_42 zf_Machine_13 zT_1031 rfl (zz_ltn hn rfl) (zz_G.eq G_S0 1031 0 1032 rfl rfl) (by decide) 1032 rfl ?_
      refine zz_alen zd_6_5_45 zT_1032 rfl (zz_ltn hn rfl) ?_
      refine zz_icmp_ge (by omega) (by omega) zd_6_5_46 (fun c3 => ?_) (fun c3 => ?_)
      · refine zz_iconst zd_6_5_58 ?_
        exact zz_iret zd_6_5_59 rfl (Nat.zero_le _) (Nat.zero_le _) ⟨_, _, rfl, rfl, by omega⟩
      · refine zz_aload_n (x := 1031) rfl zd_6_5_49 ?_
        refine zz_getr (kd := 0) (z := 1032) zd_6_5_50 zf_Machine_13 zT_1031 rfl (zz_ltn hn rfl) (zz_G.eq G_S0 1031 0 1032 rfl rfl) (by decide) 1032 rfl ?_
        refine zz_iload_n (x := p1) rfl zd_6_5_53 ?_
        have g4 := zz_G.r G_S0 1032 p1.toNat (-128) 127 rfl rfl
        refine zz_bald (z := S0 1032 p1.toNat) zd_6_5_54 zT_1032 rfl (zz_ltn hn rfl) (by decide) (by omega) rfl ?_
        refine zz_goto zd_6_5_55 ?_
        exact zz_iret zd_6_5_59 rfl (Nat.zero_le _) (Nat.zero_le _) ⟨_, _, rfl, rfl, by omega⟩
    by_cases c5 : p0 = 1
    · refine zz_swIn 1 53 c5 (by decide) zd_6_5_7 rfl rfl ?_
      refine zz_iload_n (x := p1) rfl zd_6_5_60 ?_
      refine zz_aload_n (x := 1031) rfl zd_6_5_61 ?_
      refine zz_getr (kd := 0) (z := 1033) zd_6_5_62 zf_Machine_19 zT_1031 rfl (zz_ltn hn rfl) (zz_G.eq G_S0 1031 1 1033 rfl rfl) (by decide) 1033 rfl ?_
      refine zz_alen zd_6_5_65 zT_1033 rfl (zz_ltn hn rfl) ?_
      refine zz_icmp_ge (by omega) (by omega) zd_6_5_66 (fun c6 => ?_) (fun c6 => ?_)
      · refine zz_iconst zd_6_5_78 ?_
        exact zz_iret zd_6_5_79 rfl (Nat.zero_le _) (Nat.zero_le _) ⟨_, _, rfl, rfl, by omega⟩
      · refine zz_aload_n (x := 1031) rfl zd_6_5_69 ?_
        refine zz_getr (kd := 0) (z := 1033) zd_6_5_70 zf_Machine_19 zT_1031 rfl (zz_ltn hn rfl) (zz_G.eq G_S0 1031 1 1033 rfl rfl) (by decide) 1033 rfl ?_
        refine zz_iload_n (x := p1) rfl zd_6_5_73 ?_
        have g7 := zz_G.r G_S0 1033 p1.toNat (-128) 127 rfl rfl
        refine zz_bald (z := S0 1033 p1.toNat) zd_6_5_74 zT_1033 rfl (zz_ltn hn rfl) (by decide) (by omega) rfl ?_
        refine zz_goto zd_6_5_75 ?_
        exact zz_iret zd_6_5_79 rfl (Nat.zero_le _) (Nat.zero_le _) ⟨_, _, rfl, rfl, by omega⟩
    by_cases c8 : p0 = 2
    · refine zz_swIn 2 73 c8 (by decide) zd_6_5_7 rfl rfl ?_
      refine zz_iload_n (x := p1) rfl zd_6_5_80 ?_
      refine zz_aload_n (x := 1031) rfl zd_6_5_81 ?_
      refine zz_getr (kd := 0) (z := 1034) zd_6_5_82 zf_Machine_22 zT_1031 rfl (zz_ltn hn rfl) (zz_G.eq G_S0 1031 2 1034 rfl rfl) (by decide) 1034 rfl ?_
      refine zz_alen zd_6_5_85 zT_1034 rfl (zz_ltn hn rfl) ?_
      refine zz_icmp_ge (by omega) (by omega) zd_6_5_86 (fun c9 => ?_) (fun c9 => ?_)
      · refine zz_iconst zd_6_5_98 ?_
        exact zz_iret zd_6_5_99 rfl (Nat.zero_le _) (Nat.zero_le _) ⟨_, _, rfl, rfl, by omega⟩
      · refine zz_aload_n (x := 1031) rfl zd_6_5_89 ?_
        refine zz_getr (kd := 0) (z := 1034) zd_6_5_90 zf_Machine_22 zT_1031 rfl (zz_ltn hn rfl) (zz_G.eq G_S0 1031 2 1034 rfl rfl) (by decide) 1034 rfl ?_
        refine zz_iload_n (x := p1) rfl zd_6_5_93 ?_
        have g10 := zz_G.r G_S0 1034 p1.toNat (-128) 127 rfl rfl
        refine zz_bald (z := S0 1034 p1.toNat) zd_6_5_94 zT_1034 rfl (zz_ltn hn rfl) (by decide) (by omega) rfl ?_
        refine zz_goto zd_6_5_95 ?_
        exact zz_iret zd_6_5_99 rfl (Nat.zero_le _) (Nat.zero_le _) ⟨_, _, rfl, rfl, by omega⟩
    by_cases c11 : p0 = 3
    · refine zz_swIn 3 93 c11 (by decide) zd_6_5_7 rfl rfl ?_
      refine zz_iload_n (x := p1) rfl zd_6_5_100 ?_
      refine zz_aload_n (x := 1031) rfl zd_6_5_101 ?_
      refine zz_getr (kd := 0) (z := 1035) zd_6_5_102 zf_Machine_25 zT_1031 rfl (zz_ltn hn rfl) (zz_G.eq G_S0 1031 3 1035 rfl rfl) (by decide) 1035 rfl ?_
      refine zz_alen zd_6_5_105 zT_1035 rfl (zz_ltn hn rfl) ?_
      refine zz_icmp_ge (by omega) (by omega) zd_6_5_106 (fun c12 => ?_) (fun c12 => ?_)
      · refine zz_iconst zd_6_5_118 ?_
        exact zz_iret zd_6_5_119 rfl (Nat.zero_le _) (Nat.zero_le _) ⟨_, _, rfl, rfl, by omega⟩
      · refine zz_aload_n (x := 1031) rfl zd_6_5_109 ?_
        refine zz_getr (kd := 0) (z := 1035) zd_6_5_110 zf_Machine_25 zT_1031 rfl (zz_ltn hn rfl) (zz_G.eq G_S0 1031 3 1035 rfl rfl) (by decide) 1035 rfl ?_
        refine zz_iload_n (x := p1) rfl zd_6_5_113 ?_
        have g13 := zz_G.r G_S0 1035 p1.toNat (-2147483648) 2147483647 rfl rfl
        refine zz_iald (z := S0 1035 p1.toNat) zd_6_5_114 zT_1035 rfl (zz_ltn hn rfl) (by decide) (by omega) rfl ?_
        refine zz_goto zd_6_5_115 ?_
        exact zz_iret zd_6_5_119 rfl (Nat.zero_le _) (Nat.zero_le _) ⟨_, _, rfl, rfl, by omega⟩
    by_cases c14 : p0 = 4
    · refine zz_swIn 4 113 c14 (by decide) zd_6_5_7 rfl rfl ?_
      refine zz_iload_n (x := p1) rfl zd_6_5_120 ?_
      refine zz_aload_n (x := 1031) rfl zd_6_5_121 ?_
      refine zz_getr (kd := 0) (z := 1036) zd_6_5_122 zf_Machine_28 zT_1031 rfl (zz_ltn hn rfl) (zz_G.eq G_S0 1031 4 1036 rfl rfl) (by decide) 1036 rfl ?_
      refine zz_alen zd_6_5_125 zT_1036 rfl (zz_ltn hn rfl) ?_
      refine zz_icmp_ge (by omega) (by omega) zd_6_5_126 (fun c15 => ?_) (fun c15 => ?_)
      · refine zz_iconst zd_6_5_138 ?_
        exact zz_iret zd_6_5_139 rfl (Nat.zero_le _) (Nat.zero_le _) ⟨_, _, rfl, rfl, by omega⟩
      · refine zz_aload_n (x := 1031) rfl zd_6_5_129 ?_
        refine zz_getr (kd := 0) (z := 1036) zd_6_5_130 zf_Machine_28 zT_1031 rfl (zz_ltn hn rfl) (zz_G.eq G_S0 1031 4 1036 rfl rfl) (by decide) 1036 rfl ?_
        refine zz_iload_n (x := p1) rfl zd_6_5_133 ?_
        have g16 := zz_G.r G_S0 1036 p1.toNat (-128) 127 rfl rfl
        refine zz_bald (z := S0 1036 p1.toNat) zd_6_5_134 zT_1036 rfl (zz_ltn hn rfl) (by decide) (by omega) rfl ?_
        refine zz_goto zd_6_5_135 ?_
        exact zz_iret zd_6_5_139 rfl (Nat.zero_le _) (Nat.zero_le _) ⟨_, _, rfl, rfl, by omega⟩
    refine zz_swOut (by omega) (by omega) zd_6_5_7 rfl ?_
    refine zz_iconst zd_6_5_140 ?_
    exact zz_iret zd_6_5_141 rfl (Nat.zero_le _) (Nat.zero_le _) ⟨_, _, rfl, rfl, by omega⟩
  · refine zz_iconst zd_6_5_4 ?_
    exact zz_iret zd_6_5_5 rfl (Nat.zero_le _) (Nat.zero_le _) ⟨_, _, rfl, rfl, by omega⟩
theorem zk_TF_120 : mm_Vl "TensorForge" 120 3 2 zy_valueAt_6_5 := ⟨zyw_valueAt_6_5, (R_Machine, F_Machine, 14), rfl, mm_tb_1 1163 (by decide +kernel) rfl, mm_tb_1 1164 (by decide +kernel) rfl, mm_tb_1 1165 (by decide +kernel) rfl⟩
theorem zd_1_4_51 : zz_D zy_look_1_4 51 (.ireturn) 1 52 := ⟨by decide +kernel, rfl⟩
-- TensorForge look (II)I
abbrev zr_look_1_4 : Room := { frames := 6, cells := 1, slots := 6, locals := 82 }
def zp_look_1_4 (p0 : Int) (p1 : Int) (S0 : zz_S) : Int → zz_S → Prop := fun r S => S0 = S ∧ ((-2147483648) ≤ r ∧ r ≤ 2147483647)
def zx_look_1_4 (p0 : Int) (p1 : Int) (S0 : zz_S) : Nat → zz_S → Prop := fun i S => S0 = S ∧ (i < 4)
theorem zc_look_1_4 {g : mm_G} {l : Launch} (p0 : Int) (p1 : Int) (S0 : zz_S) (n : Nat) (hn : zz_end ≤ n) (hfl : l.flags = flags0) (G_S0 : zz_G S0) (hp0 : (-2147483648) ≤ p0 ∧ p0 ≤ 2147483647) (hp1 : (-2147483648) ≤ p1 ∧ p1 ≤ 2147483647) : mm_Met g l zy_look_1_4 zr_look_1_4 [.ref 1000, zi p0, zi p1] (zz_M S0 n) n (zz_XI n (zp_look_1_4 p0 p1 S0) (zx_look_1_4 p0 p1 S0)) := by
  refine zz_enter (by decide) (Nat.le_of_ble_eq_true rfl) (zz_less (ls1 := [some (.ref 1000), some (zi p0), some (zi p1)]) ⟨rfl, ⟨rfl, ⟨rfl, trivial⟩⟩⟩ ?_)
  refine zz_iload_n (x := p0) rfl zd_1_4_0 ?_
  refine zz_if_lt (by omega) zd_1_4_1 (fun c1 => ?_) (fun c1 => ?_)
  · exact zz_throw (i := 0) hfl hn zt_1_4_9 zyw_look_1_4 zxl_TF_87_112_91 (Nat.le_of_ble_eq_true rfl) (Nat.le_of_ble_eq_true rfl) ⟨Nat.le_of_ble_eq_true rfl, Nat.le_of_ble_eq_true rfl⟩ (Or.inr ⟨_, _, rfl, rfl, by omega⟩)
  · refine zz_iload_n (x := p0) rfl zd_1_4_4 ?_
    refine zz_iconst zd_1_4_5 ?_
    refine zz_icmp_lt (by omega) (by omega) zd_1_4_6 (fun c2 => ?_) (fun c2 => ?_)
    · refine zz_iload_n (x := p1) rfl zd_1_4_19 ?_
      refine zz_if_lt (by omega) zd_1_4_20 (fun c3 => ?_) (fun c3 => ?_)
      · exact zz_throw (i := 1) hfl hn zt_1_4_32 zyw_look_1_4 zxl_TF_101_118_105 (Nat.le_of_ble_eq_true rfl) (Nat.le_of_ble_eq_true rfl) ⟨Nat.le_of_ble_eq_true rfl, Nat.le_of_ble_eq_true rfl⟩ (Or.inr ⟨_, _, rfl, rfl, by omega⟩)
      · refine zz_iload_n (x := p1) rfl zd_1_4_23 ?_
        refine zz_gets (q0 := 0) zd_1_4_24 rfl (by decide) zs_TF_114 ?_
        refine zz_iload_n (x := p0) rfl zd_1_4_27 ?_
        obtain ⟨v4, hv4, tv4⟩ := zz_sta0 (i := p0) (by omega)
        refine zz_tiald (N := 5) v4 zd_1_4_28 rfl (by decide) rfl (by decide) (by omega) tv4 ?_
        refine zz_icmp_lt (by omega) (by omega) zd_1_4_29 (fun c5 => ?_) (fun c5 => ?_)
        · refine zz_aload_n (x := 1000) rfl zd_1_4_42 ?_
          refine zz_getr (kd := 0) (z := 1031) zd_1_4_43 zf_TF_33 zT_1000 rfl (zz_ltn hn rfl) (zz_G.eq G_S0 1000 0 1031 rfl rfl) (by decide) 1031 rfl ?_
          refine zz_iload_n (x := p0) rfl zd_1_4_46 ?_
          refine zz_iload_n (x := p1) rfl zd_1_4_47 ?_
          refine zz_callVI [zi p0, zi p1] zd_1_4_48 zk_TF_120 zT_1031 (zz_ltn hn rfl) rfl rfl ⟨Nat.le_of_ble_eq_true rfl, Nat.le_of_ble_eq_true rfl⟩ ⟨rfl, rfl⟩ (Nat.zero_le _) (Nat.zero_le _) (zc_valueAt_6_5 p0 p1 S0 n hn G_S0 (by omega) (by omega)) (fun v7 S6 hP => ?_)
          obtain ⟨rfl, o8⟩ := hP
          exact zz_iret zd_1_4_51 rfl (Nat.le_of_ble_eq_true rfl) (Nat.le_of_ble_eq_true rfl) (Or.inl ⟨_, _, rfl, rfl, by omega⟩)
        · exact zz_throw (i := 1) hfl hn zt_1_4_32 zyw_look_1_4 zxl_TF_101_118_105 (Nat.le_of_ble_eq_true rfl) (Nat.le_of_ble_eq_true rfl) ⟨Nat.le_of_ble_eq_true rfl, Nat.le_of_ble_eq_true rfl⟩ (Or.inr ⟨_, _, rfl, rfl, by omega⟩)
    · exact zz_throw (i := 0) hfl hn zt_1_4_9 zyw_look_1_4 zxl_TF_87_112_91 (Nat.le_of_ble_eq_true rfl) (Nat.le_of_ble_eq_true rfl) ⟨Nat.le_of_ble_eq_true rfl, Nat.le_of_ble_eq_true rfl⟩ (Or.inr ⟨_, _, rfl, rfl, by omega⟩)
abbrev zy_word_1_5 : mm_Y := (⟨"TensorForge", "word", "(IJ)V"⟩, prog_1_method_5_code, 4, none)
theorem zyw_word_1_5 : mm_Yw zy_word_1_5 2 := ⟨mm_tb_1 1174 (by decide +kernel) rfl, mm_tb_1 1 (by decide +kernel) rfl, ⟨by decide, by decide⟩, by decide +kernel⟩
theorem zd_1_5_0 : zz_D zy_word_1_5 0 (.iload_n 1) 1 1 := ⟨by decide +kernel, rfl⟩
theorem zd_1_5_1 : zz_B zy_word_1_5 1 (Instr.ifCond .lt) 12 4 := ⟨11, by decide +kernel, rfl, rfl⟩
theorem zt_1_5_12 : zz_Thr zy_word_1_5 12 101 124 105 := ⟨by decide +kernel, by decide +kernel, by decide +kernel, by decide +kernel, by decide +kernel⟩
theorem zxl_TF_101_124_105 : mm_Xl "TensorForge" 101 124 105 1 := ⟨mm_tb_1 1133 (by decide +kernel) rfl, mm_tb_1 1134 (by decide +kernel) rfl, mm_tb_1 18 (by decide +kernel) rfl, ⟨34, by decide +kernel⟩, zxa_TF_105⟩
theorem zd_1_5_4 : zz_D zy_word_1_5 4 (.iload_n 1) 1 5 := ⟨by decide +kernel, rfl⟩
theorem zd_1_5_5 : zz_D zy_word_1_5 5 (.aload_n 0) 1 6 := ⟨by decide +kernel, rfl⟩
theorem zd_1_5_6 : zz_D zy_word_1_5 6 (.getfield 26) 3 9 := ⟨by decide +kernel, rfl⟩
theorem zf_TF_26 : mm_Fl "TensorForge" 26 0 11 .int false := ⟨R_TF, F_TF, 12, t_TF, rfl, i_TF, by decide, mm_tb_1 451 (by decide +kernel) rfl, rfl, t_TF_ok, n_TF, rfl, by decide +kernel⟩
theorem zd_1_5_9 : zz_B zy_word_1_5 9 (Instr.if_icmp .le) 22 12 := ⟨13, by decide +kernel, rfl, rfl⟩
theorem zd_1_5_22 : zz_D zy_word_1_5 22 (.iload_n 1) 1 23 := ⟨by decide +kernel, rfl⟩
theorem zd_1_5_23 : zz_D zy_word_1_5 23 (.sipush 600) 3 26 := ⟨by decide +kernel, rfl⟩
theorem zd_1_5_26 : zz_B zy_word_1_5 26 (Instr.if_icmp .lt) 39 29 := ⟨13, by decide +kernel, rfl, rfl⟩
theorem zd_1_5_39 : zz_D zy_word_1_5 39 (.aload_n 0) 1 40 := ⟨by decide +kernel, rfl⟩
theorem zd_1_5_40 : zz_D zy_word_1_5 40 (.getfield 19) 3 43 := ⟨by decide +kernel, rfl⟩
theorem zf_TF_19 : mm_Fl "TensorForge" 19 0 9 (.array .long) false := ⟨R_TF, F_TF, 12, t_TF, rfl, i_TF, by decide, mm_tb_1 449 (by decide +kernel) rfl, rfl, t_TF_ok, n_TF, rfl, by decide +kernel⟩
theorem zd_1_5_43 : zz_D zy_word_1_5 43 (.iload_n 1) 1 44 := ⟨by decide +kernel, rfl⟩
theorem zd_1_5_44 : zz_D zy_word_1_5 44 (.lload_n 2) 1 45 := ⟨by decide +kernel, rfl⟩
theorem zd_1_5_45 : zz_D zy_word_1_5 45 (.lastore) 1 46 := ⟨by decide +kernel, rfl⟩
theorem zd_1_5_46 : zz_D zy_word_1_5 46 (.iload_n 1) 1 47 := ⟨by decide +kernel, rfl⟩
theorem zd_1_5_47 : zz_D zy_word_1_5 47 (.aload_n 0) 1 48 := ⟨by decide +kernel, rfl⟩
theorem zd_1_5_48 : zz_D zy_word_1_5 48 (.getfield 26) 3 51 := ⟨by decide +kernel, rfl⟩
theorem zd_1_5_51 : zz_B zy_word_1_5 51 (Instr.if_icmp .ne) 64 54 := ⟨13, by decide +kernel, rfl, rfl⟩
theorem zd_1_5_64 : zz_D zy_word_1_5 64 (.return_) 1 65 := ⟨by decide +kernel, rfl⟩
theorem zd_1_5_54 : zz_D zy_word_1_5 54 (.aload_n 0) 1 55 := ⟨by decide +kernel, rfl⟩
theorem zd_1_5_55 : zz_D zy_word_1_5 55 (.dup) 1 56 := ⟨by decide +kernel, rfl⟩
theorem zd_1_5_56 : zz_D zy_word_1_5 56 (.getfield 26) 3 59 := ⟨by decide +kernel, rfl⟩
theorem zd_1_5_59 : zz_D zy_word_1_5 59 (.iconst 1) 1 60 := ⟨by decide +kernel, rfl⟩
theorem zd_1_5_60 : zz_D zy_word_1_5 60 (.iadd) 1 61 := ⟨by decide +kernel, rfl⟩
theorem zd_1_5_61 : zz_D zy_word_1_5 61 (.putfield 26) 3 64 := ⟨by decide +kernel, rfl⟩
theorem zt_1_5_29 : zz_Thr zy_word_1_5 29 126 128 130 := ⟨by decide +kernel, by decide +kernel, by decide +kernel, by decide +kernel, by decide +kernel⟩
theorem zxa_TF_130 : ∀ w ∈ Bundle.ownAtoms "TensorForge" 130 (mm_xn 2) ["java/lang/RuntimeException", "java/lang/Exception"], (goodWord w = true ∧ w ∈ tables_1) ∨ w ∈ mm_xs := by decide +kernel
theorem zxl_TF_126_128_130 : mm_Xl "TensorForge" 126 128 130 2 := ⟨mm_tb_1 1176 (by decide +kernel) rfl, mm_tb_1 1177 (by decide +kernel) rfl, mm_tb_1 19 (by decide +kernel) rfl, ⟨35, by decide +kernel⟩, zxa_TF_130⟩
-- TensorForge word (IJ)V
abbrev zr_word_1_5 : Room := { frames := 6, cells := 1, slots := 6, locals := 82 }
def zp_word_1_5 (p0 : Int) (p1 : Int) (S0 : zz_S) : zz_S → Prop := fun S => zz_G S ∧ zz_fr [(1000, 11)] [] (fun a i => a = zz_rf 4 (S0 1000 9)) S0 S
def zx_word_1_5 (p0 : Int) (p1 : Int) (S0 : zz_S) : Nat → zz_S → Prop := fun i S => zz_G S ∧ zz_fr [(1000, 11)] [] (fun a i => a = zz_rf 4 (S0 1000 9)) S0 S ∧ (i < 4)
theorem zc_word_1_5 {g : mm_G} {l : Launch} (p0 : Int) (p1 : Int) (S0 : zz_S) (n : Nat) (hn : zz_end ≤ n) (hfl : l.flags = flags0) (G_S0 : zz_G S0) (hp0 : (-2147483648) ≤ p0 ∧ p0 ≤ 2147483647) (hp1 : (-9223372036854775808) ≤ p1 ∧ p1 ≤ 9223372036854775807) : mm_Met g l zy_word_1_5 zr_word_1_5 [.ref 1000, zi p0, zl p1] (zz_M S0 n) n (zz_XV n (zp_word_1_5 p0 p1 S0) (zx_word_1_5 p0 p1 S0)) := by
  refine zz_enter (by decide) (Nat.le_of_ble_eq_true rfl) (zz_less (ls1 := [some (.ref 1000), some (zi p0), some (zl p1), none]) ⟨rfl, ⟨rfl, ⟨rfl, trivial⟩⟩⟩ ?_)
  have F_S0 : zz_fr [(1000, 11)] [] (fun a i => a = zz_rf 4 (S0 1000 9)) S0 S0 := zz_fr.refl
  refine zz_iload_n (x := p0) rfl zd_1_5_0 ?_
  refine zz_if_lt (by omega) zd_1_5_1 (fun c1 => ?_) (fun c1 => ?_)
  · exact zz_throw (i := 1) hfl hn zt_1_5_12 zyw_word_1_5 zxl_TF_101_124_105 (Nat.le_of_ble_eq_true rfl) (Nat.le_of_ble_eq_true rfl) ⟨Nat.le_of_ble_eq_true rfl, Nat.le_of_ble_eq_true rfl⟩ (Or.inr ⟨_, _, rfl, G_S0, F_S0, by omega⟩)
  · refine zz_iload_n (x := p0) rfl zd_1_5_4 ?_
    refine zz_aload_n (x := 1000) rfl zd_1_5_5 ?_
    have g2 := zz_G.r G_S0 1000 11 0 600 rfl rfl
    refine zz_geti (z := S0 1000 11) zd_1_5_6 zf_TF_26 zT_1000 rfl (zz_ltn hn rfl) rfl ?_
    refine zz_icmp_le (by omega) (by omega) zd_1_5_9 (fun c3 => ?_) (fun c3 => ?_)
    · refine zz_iload_n (x := p0) rfl zd_1_5_22 ?_
      refine zz_sipush (by decide) zd_1_5_23 ?_
      refine zz_icmp_lt (by omega) (by omega) zd_1_5_26 (fun c4 => ?_) (fun c4 => ?_)
      · refine zz_aload_n (x := 1000) rfl zd_1_5_39 ?_
        have g5 := zz_G.r G_S0 1000 9 0 1 rfl rfl
        refine zz_getr (kd := 2) (z := S0 1000 9) zd_1_5_40 zf_TF_19 zT_1000 rfl (zz_ltn hn rfl) rfl (by omega) (zz_rf 4 (S0 1000 9)) rfl ?_
        refine zz_iload_n (x := p0) rfl zd_1_5_43 ?_
        refine zz_lload_n (x := p1) rfl zd_1_5_44 ?_
        refine zz_last zd_1_5_45 (zT_k4 (by omega)) rfl (zN_k4 hn (by omega)) (by decide) (by omega) (fun S6 qS6 => ?_)
        have G_S6 := zz_G.put G_S0 qS6 (-9223372036854775808) 9223372036854775807 (zR_k4 (by omega)) (by omega)
        have F_S6 := zz_fr.putv F_S0 qS6 (rfl)
        refine zz_iload_n (x := p0) rfl zd_1_5_46 ?_
        refine zz_aload_n (x := 1000) rfl zd_1_5_47 ?_
        refine zz_geti (z := S0 1000 11) zd_1_5_48 zf_TF_26 zT_1000 rfl (zz_ltn hn rfl) (zz_ro qS6 (fun h => absurd h.1 (by have := zz_rf4 (z := S0 1000 9) (by omega); omega)) rfl) ?_
        refine zz_icmp_ne (by omega) (by omega) zd_1_5_51 (fun c7 => ?_) (fun c7 => ?_)
        · exact zz_vret zd_1_5_64 rfl (Nat.le_of_ble_eq_true rfl) (Nat.le_of_ble_eq_true rfl) (Or.inl ⟨_, rfl, G_S6, F_S6⟩)
        · refine zz_aload_n (x := 1000) rfl zd_1_5_54 ?_
          refine zz_dup rfl zd_1_5_55 ?_
          refine zz_geti (z := S0 1000 11) zd_1_5_56 zf_TF_26 zT_1000 rfl (zz_ltn hn rfl) (zz_ro qS6 (fun h => absurd h.1 (by have := zz_rf4 (z := S0 1000 9) (by omega); omega)) rfl) ?_
          refine zz_iconst zd_1_5_59 ?_
          refine zz_iadd zd_1_5_60 ?_
          refine zz_puti zd_1_5_61 zf_TF_26 zT_1000 rfl (zz_ltn hn rfl) (fun S8 qS8 => ?_)
          have G_S8 := zz_G.put G_S6 qS8 0 600 rfl (by omega)
          have F_S8 := zz_fr.puts F_S6 qS8 rfl
          exact zz_vret zd_1_5_64 rfl (Nat.le_of_ble_eq_true rfl) (Nat.le_of_ble_eq_true rfl) (Or.inl ⟨_, rfl, G_S8, F_S8⟩)
      · exact zz_throw (i := 2) hfl hn zt_1_5_29 zyw_word_1_5 zxl_TF_126_128_130 (Nat.le_of_ble_eq_true rfl) (Nat.le_of_ble_eq_true rfl) ⟨Nat.le_of_ble_eq_true rfl, Nat.le_of_ble_eq_true rfl⟩ (Or.inr ⟨_, _, rfl, G_S0, F_S0, by omega⟩)
    · exact zz_throw (i := 1) hfl hn zt_1_5_12 zyw_word_1_5 zxl_TF_101_124_105 (Nat.le_of_ble_eq_true rfl) (Nat.le_of_ble_eq_true rfl) ⟨Nat.le_of_ble_eq_true rfl, Nat.le_of_ble_eq_true rfl⟩ (Or.inr ⟨_, _, rfl, G_S0, F_S0, by omega⟩)
abbrev zy_cut_1_6 : mm_Y := (⟨"TensorForge", "cut", "(I)V"⟩, prog_1_method_6_code, 2, none)
theorem zyw_cut_1_6 : mm_Yw zy_cut_1_6 1 := ⟨mm_tb_1 1198 (by decide +kernel) rfl, mm_tb_1 1 (by decide +kernel) rfl, ⟨by decide, by decide⟩, by decide +kernel⟩
theorem zd_1_6_0 : zz_D zy_cut_1_6 0 (.iload_n 1) 1 1 := ⟨by decide +kernel, rfl⟩
theorem zd_1_6_1 : zz_B zy_cut_1_6 1 (Instr.ifCond .lt) 12 4 := ⟨11, by decide +kernel, rfl, rfl⟩
theorem zt_1_6_12 : zz_Thr zy_cut_1_6 12 87 131 91 := ⟨by decide +kernel, by decide +kernel, by decide +kernel, by decide +kernel, by decide +kernel⟩
theorem zxl_TF_87_131_91 : mm_Xl "TensorForge" 87 131 91 0 := ⟨mm_tb_1 1048 (by decide +kernel) rfl, mm_tb_1 1049 (by decide +kernel) rfl, mm_tb_1 16 (by decide +kernel) rfl, ⟨36, by decide +kernel⟩, zxa_TF_91⟩
theorem zd_1_6_4 : zz_D zy_cut_1_6 4 (.iload_n 1) 1 5 := ⟨by decide +kernel, rfl⟩
theorem zd_1_6_5 : zz_D zy_cut_1_6 5 (.aload_n 0) 1 6 := ⟨by decide +kernel, rfl⟩
theorem zd_1_6_6 : zz_D zy_cut_1_6 6 (.getfield 26) 3 9 := ⟨by decide +kernel, rfl⟩
theorem zd_1_6_9 : zz_B zy_cut_1_6 9 (Instr.if_icmp .le) 22 12 := ⟨13, by decide +kernel, rfl, rfl⟩
theorem zd_1_6_22 : zz_D zy_cut_1_6 22 (.aload_n 0) 1 23 := ⟨by decide +kernel, rfl⟩
theorem zd_1_6_23 : zz_D zy_cut_1_6 23 (.iload_n 1) 1 24 := ⟨by decide +kernel, rfl⟩
theorem zd_1_6_24 : zz_D zy_cut_1_6 24 (.putfield 26) 3 27 := ⟨by decide +kernel, rfl⟩
theorem zd_1_6_27 : zz_D zy_cut_1_6 27 (.return_) 1 28 := ⟨by decide +kernel, rfl⟩
-- TensorForge cut (I)V
abbrev zr_cut_1_6 : Room := { frames := 6, cells := 1, slots := 6, locals := 82 }
def zp_cut_1_6 (p0 : Int) (S0 : zz_S) : zz_S → Prop := fun S => zz_G S ∧ zz_fr [(1000, 11)] [] (fun _ _ => False) S0 S
def zx_cut_1_6 (p0 : Int) (S0 : zz_S) : Nat → zz_S → Prop := fun i S => zz_G S ∧ zz_fr [(1000, 11)] [] (fun _ _ => False) S0 S ∧ (i < 4)
theorem zc_cut_1_6 {g : mm_G} {l : Launch} (p0 : Int) (S0 : zz_S) (n : Nat) (hn : zz_end ≤ n) (hfl : l.flags = flags0) (G_S0 : zz_G S0) (hp0 : (-2147483648) ≤ p0 ∧ p0 ≤ 2147483647) : mm_Met g l zy_cut_1_6 zr_cut_1_6 [.ref 1000, zi p0] (zz_M S0 n) n (zz_XV n (zp_cut_1_6 p0 S0) (zx_cut_1_6 p0 S0)) := by
  refine zz_enter (by decide) (Nat.le_of_ble_eq_true rfl) (zz_less (ls1 := [some (.ref 1000), some (zi p0)]) ⟨rfl, ⟨rfl, trivial⟩⟩ ?_)
  have F_S0 : zz_fr [(1000, 11)] [] (fun _ _ => False) S0 S0 := zz_fr.refl
  refine zz_iload_n (x := p0) rfl zd_1_6_0 ?_
  refine zz_if_lt (by omega) zd_1_6_1 (fun c1 => ?_) (fun c1 => ?_)
  · exact zz_throw (i := 0) hfl hn zt_1_6_12 zyw_cut_1_6 zxl_TF_87_131_91 (Nat.le_of_ble_eq_true rfl) (Nat.le_of_ble_eq_true rfl) ⟨Nat.le_of_ble_eq_true rfl, Nat.le_of_ble_eq_true rfl⟩ (Or.inr ⟨_, _, rfl, G_S0, F_S0, by omega⟩)
  · refine zz_iload_n (x := p0) rfl zd_1_6_4 ?_
    refine zz_aload_n (x := 1000) rfl zd_1_6_5 ?_
    have g2 := zz_G.r G_S0 1000 11 0 600 rfl rfl
    refine zz_geti (z := S0 1000 11) zd_1_6_6 zf_TF_26 zT_1000 rfl (zz_ltn hn rfl) rfl ?_
    refine zz_icmp_le (by omega) (by omega) zd_1_6_9 (fun c3 => ?_) (fun c3 => ?_)
    · refine zz_aload_n (x := 1000) rfl zd_1_6_22 ?_
      refine zz_iload_n (x := p0) rfl zd_1_6_23 ?_
      refine zz_puti zd_1_6_24 zf_TF_26 zT_1000 rfl (zz_ltn hn rfl) (fun S4 qS4 => ?_)
      have G_S4 := zz_G.put G_S0 qS4 0 600 rfl (by omega)
      have F_S4 := zz_fr.puts F_S0 qS4 rfl
      exact zz_vret zd_1_6_27 rfl (Nat.le_of_ble_eq_true rfl) (Nat.le_of_ble_eq_true rfl) (Or.inl ⟨_, rfl, G_S4, F_S4⟩)
    · exact zz_throw (i := 0) hfl hn zt_1_6_12 zyw_cut_1_6 zxl_TF_87_131_91 (Nat.le_of_ble_eq_true rfl) (Nat.le_of_ble_eq_true rfl) ⟨Nat.le_of_ble_eq_true rfl, Nat.le_of_ble_eq_true rfl⟩ (Or.inr ⟨_, _, rfl, G_S0, F_S0, by omega⟩)
abbrev zy_wordOf_1_7 : mm_Y := (⟨"TensorForge", "wordOf", "(I)J"⟩, prog_1_method_7_code, 2, (some .long))
theorem zyw_wordOf_1_7 : mm_Yw zy_wordOf_1_7 1 := ⟨mm_tb_1 1206 (by decide +kernel) rfl, mm_tb_1 1 (by decide +kernel) rfl, ⟨by decide, by decide⟩, by decide +kernel⟩
theorem zd_1_7_0 : zz_D zy_wordOf_1_7 0 (.iload_n 1) 1 1 := ⟨by decide +kernel, rfl⟩
theorem zd_1_7_1 : zz_B zy_wordOf_1_7 1 (Instr.ifCond .lt) 12 4 := ⟨11, by decide +kernel, rfl, rfl⟩
theorem zt_1_7_12 : zz_Thr zy_wordOf_1_7 12 101 124 105 := ⟨by decide +kernel, by decide +kernel, by decide +kernel, by decide +kernel, by decide +kernel⟩
theorem zd_1_7_4 : zz_D zy_wordOf_1_7 4 (.iload_n 1) 1 5 := ⟨by decide +kernel, rfl⟩
theorem zd_1_7_5 : zz_D zy_wordOf_1_7 5 (.aload_n 0) 1 6 := ⟨by decide +kernel, rfl⟩
theorem zd_1_7_6 : zz_D zy_wordOf_1_7 6 (.getfield 26) 3 9 := ⟨by decide +kernel, rfl⟩
theorem zd_1_7_9 : zz_B zy_wordOf_1_7 9 (Instr.if_icmp .lt) 22 12 := ⟨13, by decide +kernel, rfl, rfl⟩
theorem zd_1_7_22 : zz_D zy_wordOf_1_7 22 (.aload_n 0) 1 23 := ⟨by decide +kernel, rfl⟩
theorem zd_1_7_23 : zz_D zy_wordOf_1_7 23 (.getfield 19) 3 26 := ⟨by decide +kernel, rfl⟩
theorem zd_1_7_26 : zz_D zy_wordOf_1_7 26 (.iload_n 1) 1 27 := ⟨by decide +kernel, rfl⟩
theorem zd_1_7_27 : zz_D zy_wordOf_1_7 27 (.laload) 1 28 := ⟨by decide +kernel, rfl⟩
theorem zd_1_7_28 : zz_D zy_wordOf_1_7 28 (.lreturn) 1 29 := ⟨by decide +kernel, rfl⟩
-- TensorForge wordOf (I)J
abbrev zr_wordOf_1_7 : Room := { frames := 6, cells := 1, slots := 6, locals := 82 }
def zp_wordOf_1_7 (p0 : Int) (S0 : zz_S) : Int → zz_S → Prop := fun r S => S0 = S ∧ ((-9223372036854775808) ≤ r ∧ r ≤ 9223372036854775807)
def zx_wordOf_1_7 (p0 : Int) (S0 : zz_S) : Nat → zz_S → Prop := fun i S => S0 = S ∧ (i < 4)
theorem zc_wordOf_1_7 {g : mm_G} {l : Launch} (p0 : Int) (S0 : zz_S) (n : Nat) (hn : zz_end ≤ n) (hfl : l.flags = flags0) (G_S0 : zz_G S0) (hp0 : (-2147483648) ≤ p0 ∧ p0 ≤ 2147483647) : mm_Met g l zy_wordOf_1_7 zr_wordOf_1_7 [.ref 1000, zi p0] (zz_M S0 n) n (zz_XJ n (zp_wordOf_1_7 p0 S0) (zx_wordOf_1_7 p0 S0)) := by
  refine zz_enter (by decide) (Nat.le_of_ble_eq_true rfl) (zz_less (ls1 := [some (.ref 1000), some (zi p0)]) ⟨rfl, ⟨rfl, trivial⟩⟩ ?_)
  refine zz_iload_n (x := p0) rfl zd_1_7_0 ?_
  refine zz_if_lt (by omega) zd_1_7_1 (fun c1 => ?_) (fun c1 => ?_)
  · exact zz_throw (i := 1) hfl hn zt_1_7_12 zyw_wordOf_1_7 zxl_TF_101_124_105 (Nat.le_of_ble_eq_true rfl) (Nat.le_of_ble_eq_true rfl) ⟨Nat.le_of_ble_eq_true rfl, Nat.le_of_ble_eq_true rfl⟩ (Or.inr ⟨_, _, rfl, rfl, by omega⟩)
  · refine zz_iload_n (x := p0) rfl zd_1_7_4 ?_
    refine zz_aload_n (x := 1000) rfl zd_1_7_5 ?_
    have g2 := zz_G.r G_S0 1000 11 0 600 rfl rfl
    refine zz_geti (z := S0 1000 11) zd_1_7_6 zf_TF_26 zT_1000 rfl (zz_ltn hn rfl) rfl ?_
    refine zz_icmp_lt (by omega) (by omega) zd_1_7_9 (fun c3 => ?_) (fun c3 => ?_)
    · refine zz_aload_n (x := 1000) rfl zd_1_7_22 ?_
      have g4 := zz_G.r G_S0 1000 9 0 1 rfl rfl
      refine zz_getr (kd := 2) (z := S0 1000 9) zd_1_7_23 zf_TF_19 zT_1000 rfl (zz_ltn hn rfl) rfl (by omega) (zz_rf 4 (S0 1000 9)) rfl ?_
      refine zz_iload_n (x := p0) rfl zd_1_7_26 ?_
      have g5 := zz_G.r G_S0 (zz_rf 4 (S0 1000 9)) p0.toNat (-9223372036854775808) 9223372036854775807 (zR_k4 (by omega)) (zB_k4 (by omega))
      refine zz_lald (z := S0 (zz_rf 4 (S0 1000 9)) p0.toNat) zd_1_7_27 (zT_k4 (by omega)) rfl (zN_k4 hn (by omega)) (by decide) (by omega) rfl ?_
      exact zz_lret zd_1_7_28 rfl (Nat.le_of_ble_eq_true rfl) (Nat.le_of_ble_eq_true rfl) (Or.inl ⟨_, _, rfl, rfl, by omega⟩)
    · exact zz_throw (i := 1) hfl hn zt_1_7_12 zyw_wordOf_1_7 zxl_TF_101_124_105 (Nat.le_of_ble_eq_true rfl) (Nat.le_of_ble_eq_true rfl) ⟨Nat.le_of_ble_eq_true rfl, Nat.le_of_ble_eq_true rfl⟩ (Or.inr ⟨_, _, rfl, rfl, by omega⟩)
abbrev zy_length_1_8 : mm_Y := (⟨"TensorForge", "length", "()I"⟩, prog_1_method_8_code, 1, (some .int))
theorem zyw_length_1_8 : mm_Yw zy_length_1_8 0 := ⟨mm_tb_1 480 (by decide +kernel) rfl, mm_tb_1 1 (by decide +kernel) rfl, ⟨by decide, by decide⟩, by decide +kernel⟩
theorem zd_1_8_0 : zz_D zy_length_1_8 0 (.aload_n 0) 1 1 := ⟨by decide +kernel, rfl⟩
theorem zd_1_8_1 : zz_D zy_length_1_8 1 (.getfield 26) 3 4 := ⟨by decide +kernel, rfl⟩
theorem zd_1_8_4 : zz_D zy_length_1_8 4 (.ireturn) 1 5 := ⟨by decide +kernel, rfl⟩
-- TensorForge length ()I
abbrev zr_length_1_8 : Room := { frames := 0, cells := 0, slots := 0, locals := 0 }
def zp_length_1_8  (S0 : zz_S) : Int → zz_S → Prop := fun r S => S0 = S ∧ ((-2147483648) ≤ r ∧ r ≤ 2147483647)
theorem zc_length_1_8 {g : mm_G} {l : Launch}  (S0 : zz_S) (n : Nat) (hn : zz_end ≤ n) (G_S0 : zz_G S0)  : mm_Met g l zy_length_1_8 zr_length_1_8 [.ref 1000] (zz_M S0 n) n (zz_QI n (zp_length_1_8  S0)) := by
  refine zz_enter (by decide) (Nat.le_of_ble_eq_true rfl) (zz_less (ls1 := [some (.ref 1000)]) ⟨rfl, trivial⟩ ?_)
  refine zz_aload_n (x := 1000) rfl zd_1_8_0 ?_
  have g1 := zz_G.r G_S0 1000 11 0 600 rfl rfl
  refine zz_geti (z := S0 1000 11) zd_1_8_1 zf_TF_26 zT_1000 rfl (zz_ltn hn rfl) rfl ?_
  exact zz_iret zd_1_8_4 rfl (Nat.zero_le _) (Nat.zero_le _) ⟨_, _, rfl, rfl, by omega⟩
abbrev zy_field_1_9 : mm_Y := (⟨"TensorForge", "field", "(JI)I"⟩, prog_1_method_9_code, 4, (some .int))
theorem zyw_field_1_9 : mm_Yw zy_field_1_9 2 := ⟨mm_tb_1 1213 (by decide +kernel) rfl, mm_tb_1 1 (by decide +kernel) rfl, ⟨by decide, by decide⟩, by decide +kernel⟩
theorem zd_1_9_0 : zz_D zy_field_1_9 0 (.iload_n 3) 1 1 := ⟨by decide +kernel, rfl⟩
theorem zd_1_9_1 : zz_B zy_field_1_9 1 (Instr.ifCond .lt) 10 4 := ⟨9, by decide +kernel, rfl, rfl⟩
theorem zt_1_9_10 : zz_Thr zy_field_1_9 10 87 135 91 := ⟨by decide +kernel, by decide +kernel, by decide +kernel, by decide +kernel, by decide +kernel⟩
theorem zxl_TF_87_135_91 : mm_Xl "TensorForge" 87 135 91 0 := ⟨mm_tb_1 1048 (by decide +kernel) rfl, mm_tb_1 1049 (by decide +kernel) rfl, mm_tb_1 16 (by decide +kernel) rfl, ⟨37, by decide +kernel⟩, zxa_TF_91⟩
theorem zd_1_9_4 : zz_D zy_field_1_9 4 (.iload_n 3) 1 5 := ⟨by decide +kernel, rfl⟩
theorem zd_1_9_5 : zz_D zy_field_1_9 5 (.bipush 12) 2 7 := ⟨by decide +kernel, rfl⟩
theorem zd_1_9_7 : zz_B zy_field_1_9 7 (Instr.if_icmp .lt) 20 10 := ⟨13, by decide +kernel, rfl, rfl⟩
theorem zd_1_9_20 : zz_D zy_field_1_9 20 (.lload_n 1) 1 21 := ⟨by decide +kernel, rfl⟩
theorem zd_1_9_21 : zz_D zy_field_1_9 21 (.iload_n 3) 1 22 := ⟨by decide +kernel, rfl⟩
theorem zd_1_9_22 : zz_D zy_field_1_9 22 (.invokestatic 137) 3 25 := ⟨by decide +kernel, rfl⟩
abbrev zy_get_12_2 : mm_Y := (⟨"TensorForge$Words", "get", "(JI)I"⟩, prog_12_method_2_code, 3, (some .int))
theorem zyw_get_12_2 : mm_Yw zy_get_12_2 2 := ⟨mm_tb_1 494 (by decide +kernel) rfl, mm_tb_1 20 (by decide +kernel) rfl, ⟨by decide, by decide⟩, by decide +kernel⟩
theorem zd_12_2_0 : zz_D zy_get_12_2 0 (.iload_n 2) 1 1 := ⟨by decide +kernel, rfl⟩
theorem zd_12_2_1 : zz_B zy_get_12_2 1 (Instr.ifCond .lt) 10 4 := ⟨9, by decide +kernel, rfl, rfl⟩
theorem zd_12_2_10 : zz_D zy_get_12_2 10 (.iconst 0) 1 11 := ⟨by decide +kernel, rfl⟩
theorem zd_12_2_11 : zz_D zy_get_12_2 11 (.ireturn) 1 12 := ⟨by decide +kernel, rfl⟩
theorem zd_12_2_4 : zz_D zy_get_12_2 4 (.iload_n 2) 1 5 := ⟨by decide +kernel, rfl⟩
theorem zd_12_2_5 : zz_D zy_get_12_2 5 (.bipush 12) 2 7 := ⟨by decide +kernel, rfl⟩
theorem zd_12_2_7 : zz_B zy_get_12_2 7 (Instr.if_icmp .lt) 12 10 := ⟨5, by decide +kernel, rfl, rfl⟩
theorem zd_12_2_12 : zz_D zy_get_12_2 12 (.lload_n 0) 1 13 := ⟨by decide +kernel, rfl⟩
theorem zd_12_2_13 : zz_D zy_get_12_2 13 (.getstatic 9) 3 16 := ⟨by decide +kernel, rfl⟩
theorem zs_Words_9 : Cond.fieldLink "TensorForge$Words" 9 "TensorForge$Words" "LOWEST_BIT" "[I" ∈ mm_tb := mm_tb_1 495 (by decide +kernel) rfl
theorem zd_12_2_16 : zz_D zy_get_12_2 16 (.iload_n 2) 1 17 := ⟨by decide +kernel, rfl⟩
theorem zd_12_2_17 : zz_D zy_get_12_2 17 (.iaload) 1 18 := ⟨by decide +kernel, rfl⟩
theorem zz_sta1 {i : Int} (h : 0 ≤ i ∧ i < 12) : ∃ z : Int, (0 ≤ z ∧ z ≤ 59) ∧ ([0, 4, 5, 6, 7, 8, 20, 26, 31, 40, 49, 59] : List Int32).getD i.toNat 0 = Int32.ofInt z := by
  have : i = 0 ∨ i = 1 ∨ i = 2 ∨ i = 3 ∨ i = 4 ∨ i = 5 ∨ i = 6 ∨ i = 7 ∨ i = 8 ∨ i = 9 ∨ i = 10 ∨ i = 11 := by omega
  rcases this with rfl | rfl | rfl | rfl | rfl | rfl | rfl | rfl | rfl | rfl | rfl | rfl
  · exact ⟨0, by decide, by decide⟩
  · exact ⟨4, by decide, by decide⟩
  · exact ⟨5, by decide, by decide⟩
  · exact ⟨6, by decide, by decide⟩
  · exact ⟨7, by decide, by decide⟩
  · exact ⟨8, by decide, by decide⟩
  · exact ⟨20, by decide, by decide⟩
  · exact ⟨26, by decide, by decide⟩
  · exact ⟨31, by decide, by decide⟩
  · exact ⟨40, by decide, by decide⟩
  · exact ⟨49, by decide, by decide⟩
  · exact ⟨59, by decide, by decide⟩
theorem zd_12_2_18 : zz_D zy_get_12_2 18 (.lushr) 1 19 := ⟨by decide +kernel, rfl⟩
theorem zd_12_2_19 : zz_D zy_get_12_2 19 (.l2i) 1 20 := ⟨by decide +kernel, rfl⟩
theorem zd_12_2_20 : zz_D zy_get_12_2 20 (.getstatic 13) 3 23 := ⟨by decide +kernel, rfl⟩
theorem zs_Words_13 : Cond.fieldLink "TensorForge$Words" 13 "TensorForge$Words" "MOST" "[I" ∈ mm_tb := mm_tb_1 497 (by decide +kernel) rfl
theorem zd_12_2_23 : zz_D zy_get_12_2 23 (.iload_n 2) 1 24 := ⟨by decide +kernel, rfl⟩
theorem zd_12_2_24 : zz_D zy_get_12_2 24 (.iaload) 1 25 := ⟨by decide +kernel, rfl⟩
theorem zz_sta2 {i : Int} (h : 0 ≤ i ∧ i < 12) : ∃ z : Int, (1 ≤ z ∧ z ≤ 4095) ∧ ([15, 1, 1, 1, 1, 4095, 63, 31, 511, 511, 1023, 31] : List Int32).getD i.toNat 0 = Int32.ofInt z := by
  have : i = 0 ∨ i = 1 ∨ i = 2 ∨ i = 3 ∨ i = 4 ∨ i = 5 ∨ i = 6 ∨ i = 7 ∨ i = 8 ∨ i = 9 ∨ i = 10 ∨ i = 11 := by omega
  rcases this with rfl | rfl | rfl | rfl | rfl | rfl | rfl | rfl | rfl | rfl | rfl | rfl
  · exact ⟨15, by decide, by decide⟩
  · exact ⟨1, by decide, by decide⟩
  · exact ⟨1, by decide, by decide⟩
  · exact ⟨1, by decide, by decide⟩
  · exact ⟨1, by decide, by decide⟩
  · exact ⟨4095, by decide, by decide⟩
  · exact ⟨63, by decide, by decide⟩
  · exact ⟨31, by decide, by decide⟩
  · exact ⟨511, by decide, by decide⟩
  · exact ⟨511, by decide, by decide⟩
  · exact ⟨1023, by decide, by decide⟩
  · exact ⟨31, by decide, by decide⟩
theorem zd_12_2_25 : zz_D zy_get_12_2 25 (.iand) 1 26 := ⟨by decide +kernel, rfl⟩
theorem zd_12_2_26 : zz_D zy_get_12_2 26 (.ireturn) 1 27 := ⟨by decide +kernel, rfl⟩
-- TensorForge$Words get (JI)I
abbrev zr_get_12_2 : Room := { frames := 0, cells := 0, slots := 0, locals := 0 }
def zp_get_12_2 (p0 : Int) (p1 : Int) (S0 : zz_S) : Int → zz_S → Prop := fun r S => S0 = S ∧ ((-2147483648) ≤ r ∧ r ≤ 2147483647)
theorem zc_get_12_2 {g : mm_G} {l : Launch} (p0 : Int) (p1 : Int) (S0 : zz_S) (n : Nat) (hn : zz_end ≤ n) (G_S0 : zz_G S0) (hp0 : (-9223372036854775808) ≤ p0 ∧ p0 ≤ 9223372036854775807) (hp1 : (-2147483648) ≤ p1 ∧ p1 ≤ 2147483647) : mm_Met g l zy_get_12_2 zr_get_12_2 [zl p0, zi p1] (zz_M S0 n) n (zz_QI n (zp_get_12_2 p0 p1 S0)) := by
  refine zz_enter (by decide) (Nat.le_of_ble_eq_true rfl) (zz_less (ls1 := [some (zl p0), none, some (zi p1)]) ⟨rfl, ⟨rfl, trivial⟩⟩ ?_)
  refine zz_iload_n (x := p1) rfl zd_12_2_0 ?_
  refine zz_if_lt (by omega) zd_12_2_1 (fun c1 => ?_) (fun c1 => ?_)
  · refine zz_iconst zd_12_2_10 ?_
    exact zz_iret zd_12_2_11 rfl (Nat.zero_le _) (Nat.zero_le _) ⟨_, _, rfl, rfl, by omega⟩
  · refine zz_iload_n (x := p1) rfl zd_12_2_4 ?_
    refine zz_bipush (by decide) zd_12_2_5 ?_
    refine zz_icmp_lt (by omega) (by omega) zd_12_2_7 (fun c2 => ?_) (fun c2 => ?_)
    · refine zz_lload_n (x := p0) rfl zd_12_2_12 ?_
      refine zz_gets (q0 := 1) zd_12_2_13 rfl (by decide) zs_Words_9 ?_
      refine zz_iload_n (x := p1) rfl zd_12_2_16 ?_
      obtain ⟨v3, hv3, tv3⟩ := zz_sta1 (i := p1) (by omega)
      refine zz_tiald (N := 12) v3 zd_12_2_17 rfl (by decide) rfl (by decide) (by omega) tv3 ?_
      refine zz_lushr zd_12_2_18 (fun v4 hv4 ev4 => ?_)
      refine zz_l2i (by omega) zd_12_2_19 (fun v5 hv5 av5 ev5 => ?_)
      refine zz_gets (q0 := 2) zd_12_2_20 rfl (by decide) zs_Words_13 ?_
      refine zz_iload_n (x := p1) rfl zd_12_2_23 ?_
      obtain ⟨v6, hv6, tv6⟩ := zz_sta2 (i := p1) (by omega)
      refine zz_tiald (N := 12) v6 zd_12_2_24 rfl (by decide) rfl (by decide) (by omega) tv6 ?_
      refine zz_iand (by omega) (by omega) zd_12_2_25 (fun v7 hv7 av7 bv7 ev7 => ?_)
      exact zz_iret zd_12_2_26 rfl (Nat.zero_le _) (Nat.zero_le _) ⟨_, _, rfl, rfl, by omega⟩
    · refine zz_iconst zd_12_2_10 ?_
      exact zz_iret zd_12_2_11 rfl (Nat.zero_le _) (Nat.zero_le _) ⟨_, _, rfl, rfl, by omega⟩
theorem zk_TF_137 : mm_Sl "TensorForge" 137 2 zy_get_12_2 := ⟨zyw_get_12_2, mm_tb_1 1215 (by decide +kernel) rfl, mm_tb_1 493 (by decide +kernel) rfl⟩
theorem zd_1_9_25 : zz_D zy_field_1_9 25 (.ireturn) 1 26 := ⟨by decide +kernel, rfl⟩
-- TensorForge field (JI)I
abbrev zr_field_1_9 : Room := { frames := 6, cells := 1, slots := 6, locals := 82 }
def zp_field_1_9 (p0 : Int) (p1 : Int) (S0 : zz_S) : Int → zz_S → Prop := fun r S => S0 = S ∧ ((-2147483648) ≤ r ∧ r ≤ 2147483647)
def zx_field_1_9 (p0 : Int) (p1 : Int) (S0 : zz_S) : Nat → zz_S → Prop := fun i S => S0 = S ∧ (i < 4)
theorem zc_field_1_9 {g : mm_G} {l : Launch} (p0 : Int) (p1 : Int) (S0 : zz_S) (n : Nat) (hn : zz_end ≤ n) (hfl : l.flags = flags0) (G_S0 : zz_G S0) (hp0 : (-9223372036854775808) ≤ p0 ∧ p0 ≤ 9223372036854775807) (hp1 : (-2147483648) ≤ p1 ∧ p1 ≤ 2147483647) : mm_Met g l zy_field_1_9 zr_field_1_9 [.ref 1000, zl p0, zi p1] (zz_M S0 n) n (zz_XI n (zp_field_1_9 p0 p1 S0) (zx_field_1_9 p0 p1 S0)) := by
  refine zz_enter (by decide) (Nat.le_of_ble_eq_true rfl) (zz_less (ls1 := [some (.ref 1000), some (zl p0), none, some (zi p1)]) ⟨rfl, ⟨rfl, ⟨rfl, trivial⟩⟩⟩ ?_)
  refine zz_iload_n (x := p1) rfl zd_1_9_0 ?_
  refine zz_if_lt (by omega) zd_1_9_1 (fun c1 => ?_) (fun c1 => ?_)
  · exact zz_throw (i := 0) hfl hn zt_1_9_10 zyw_field_1_9 zxl_TF_87_135_91 (Nat.le_of_ble_eq_true rfl) (Nat.le_of_ble_eq_true rfl) ⟨Nat.le_of_ble_eq_true rfl, Nat.le_of_ble_eq_true rfl⟩ (Or.inr ⟨_, _, rfl, rfl, by omega⟩)
  · refine zz_iload_n (x := p1) rfl zd_1_9_4 ?_
    refine zz_bipush (by decide) zd_1_9_5 ?_
    refine zz_icmp_lt (by omega) (by omega) zd_1_9_7 (fun c2 => ?_) (fun c2 => ?_)
    · refine zz_lload_n (x := p0) rfl zd_1_9_20 ?_
      refine zz_iload_n (x := p1) rfl zd_1_9_21 ?_
      refine zz_callSI [zl p0, zi p1] zd_1_9_22 zk_TF_137 rfl rfl ⟨Nat.le_of_ble_eq_true rfl, Nat.le_of_ble_eq_true rfl⟩ ⟨rfl, rfl⟩ (Nat.zero_le _) (Nat.zero_le _) (zc_get_12_2 p0 p1 S0 n hn G_S0 (by omega) (by omega)) (fun v4 S3 hP => ?_)
      obtain ⟨rfl, o5⟩ := hP
      exact zz_iret zd_1_9_25 rfl (Nat.le_of_ble_eq_true rfl) (Nat.le_of_ble_eq_true rfl) (Or.inl ⟨_, _, rfl, rfl, by omega⟩)
    · exact zz_throw (i := 0) hfl hn zt_1_9_10 zyw_field_1_9 zxl_TF_87_135_91 (Nat.le_of_ble_eq_true rfl) (Nat.le_of_ble_eq_true rfl) ⟨Nat.le_of_ble_eq_true rfl, Nat.le_of_ble_eq_true rfl⟩ (Or.inr ⟨_, _, rfl, rfl, by omega⟩)
abbrev zy_illegal_1_10 : mm_Y := (⟨"TensorForge", "illegal", "(J)Z"⟩, prog_1_method_10_code, 3, (some .boolean))
theorem zyw_illegal_1_10 : mm_Yw zy_illegal_1_10 1 := ⟨mm_tb_1 484 (by decide +kernel) rfl, mm_tb_1 1 (by decide +kernel) rfl, ⟨by decide, by decide⟩, by decide +kernel⟩
theorem zd_1_10_0 : zz_D zy_illegal_1_10 0 (.aload_n 0) 1 1 := ⟨by decide +kernel, rfl⟩
theorem zd_1_10_1 : zz_D zy_illegal_1_10 1 (.getfield 33) 3 4 := ⟨by decide +kernel, rfl⟩
theorem zd_1_10_4 : zz_D zy_illegal_1_10 4 (.lload_n 1) 1 5 := ⟨by decide +kernel, rfl⟩
theorem zd_1_10_5 : zz_D zy_illegal_1_10 5 (.invokevirtual 141) 3 8 := ⟨by decide +kernel, rfl⟩
abbrev zy_forbids_6_6 : mm_Y := (⟨"TensorForge$Machine", "forbids", "(J)Z"⟩, prog_6_method_6_code, 3, (some .boolean))
theorem zyw_forbids_6_6 : mm_Yw zy_forbids_6_6 1 := ⟨mm_tb_1 488 (by decide +kernel) rfl, mm_tb_1 4 (by decide +kernel) rfl, ⟨by decide, by decide⟩, by decide +kernel⟩
theorem zd_6_6_0 : zz_D zy_forbids_6_6 0 (.lload_n 1) 1 1 := ⟨by decide +kernel, rfl⟩
theorem zd_6_6_1 : zz_D zy_forbids_6_6 1 (.invokestatic 49) 3 4 := ⟨by decide +kernel, rfl⟩
abbrev zy_hasStrangeField_12_9 : mm_Y := (⟨"TensorForge$Words", "hasStrangeField", "(J)Z"⟩, prog_12_method_9_code, 4, (some .boolean))
theorem zyw_hasStrangeField_12_9 : mm_Yw zy_hasStrangeField_12_9 1 := ⟨mm_tb_1 491 (by decide +kernel) rfl, mm_tb_1 20 (by decide +kernel) rfl, ⟨by decide, by decide⟩, by decide +kernel⟩
theorem zd_12_9_0 : zz_D zy_hasStrangeField_12_9 0 (.lload_n 0) 1 1 := ⟨by decide +kernel, rfl⟩
theorem zd_12_9_1 : zz_D zy_hasStrangeField_12_9 1 (.iconst 0) 1 2 := ⟨by decide +kernel, rfl⟩
theorem zd_12_9_2 : zz_D zy_hasStrangeField_12_9 2 (.invokestatic 16) 3 5 := ⟨by decide +kernel, rfl⟩
-- TensorForge$Words get (JI)I
abbrev zr_get_12_2x_0 : Room := { frames := 0, cells := 0, slots := 0, locals := 0 }
def zp_get_12_2x_0 (p0 : Int) (S0 : zz_S) : Int → zz_S → Prop := fun r S => S0 = S ∧ (0 ≤ r ∧ r ≤ 15)
theorem zc_get_12_2x_0 {g : mm_G} {l : Launch} (p0 : Int) (S0 : zz_S) (n : Nat) (hn : zz_end ≤ n) (G_S0 : zz_G S0) (hp0 : (-9223372036854775808) ≤ p0 ∧ p0 ≤ 9223372036854775807) : mm_Met g l zy_get_12_2 zr_get_12_2x_0 [zl p0, zi 0] (zz_M S0 n) n (zz_QI n (zp_get_12_2x_0 p0 S0)) := by
  refine zz_enter (by decide) (Nat.le_of_ble_eq_true rfl) (zz_less (ls1 := [some (zl p0), none, some (zi 0)]) ⟨rfl, ⟨rfl, trivial⟩⟩ ?_)
  refine zz_iload_n (x := 0) rfl zd_12_2_0 ?_
  refine zz_if_lt (by omega) zd_12_2_1 (fun c1 => ?_) (fun c1 => ?_)
  · exfalso; omega
  · refine zz_iload_n (x := 0) rfl zd_12_2_4 ?_
    refine zz_bipush (by decide) zd_12_2_5 ?_
    refine zz_icmp_lt (by omega) (by omega) zd_12_2_7 (fun c2 => ?_) (fun c2 => ?_)
    · refine zz_lload_n (x := p0) rfl zd_12_2_12 ?_
      refine zz_gets (q0 := 1) zd_12_2_13 rfl (by decide) zs_Words_9 ?_
      refine zz_iload_n (x := 0) rfl zd_12_2_16 ?_
      refine zz_tiald 0 zd_12_2_17 rfl (by decide) rfl (by decide) (by decide) rfl ?_
      refine zz_lushr zd_12_2_18 (fun v3 hv3 ev3 => ?_)
      refine zz_l2i (by omega) zd_12_2_19 (fun v4 hv4 av4 ev4 => ?_)
      refine zz_gets (q0 := 2) zd_12_2_20 rfl (by decide) zs_Words_13 ?_
      refine zz_iload_n (x := 0) rfl zd_12_2_23 ?_
      refine zz_tiald 15 zd_12_2_24 rfl (by decide) rfl (by decide) (by decide) rfl ?_
      refine zz_iand (by omega) (by omega) zd_12_2_25 (fun v5 hv5 av5 bv5 ev5 => ?_)
      exact zz_iret zd_12_2_26 rfl (Nat.zero_le _) (Nat.zero_le _) ⟨_, _, rfl, rfl, by omega⟩
    · exfalso; omega
theorem zk_Words_16 : mm_Sl "TensorForge$Words" 16 2 zy_get_12_2 := ⟨zyw_get_12_2, mm_tb_1 492 (by decide +kernel) rfl, mm_tb_1 493 (by decide +kernel) rfl⟩
theorem zd_12_9_5 : zz_D zy_hasStrangeField_12_9 5 (.istore_n 2) 1 6 := ⟨by decide +kernel, rfl⟩
theorem zd_12_9_6 : zz_D zy_hasStrangeField_12_9 6 (.iload_n 2) 1 7 := ⟨by decide +kernel, rfl⟩
theorem zd_12_9_7 : zz_D zy_hasStrangeField_12_9 7 (.invokestatic 24) 3 10 := ⟨by decide +kernel, rfl⟩
abbrev zy_isKind_12_8 : mm_Y := (⟨"TensorForge$Words", "isKind", "(I)Z"⟩, prog_12_method_8_code, 1, (some .boolean))
theorem zyw_isKind_12_8 : mm_Yw zy_isKind_12_8 1 := ⟨mm_tb_1 501 (by decide +kernel) rfl, mm_tb_1 20 (by decide +kernel) rfl, ⟨by decide, by decide⟩, by decide +kernel⟩
theorem zd_12_8_0 : zz_D zy_isKind_12_8 0 (.iload_n 0) 1 1 := ⟨by decide +kernel, rfl⟩
theorem zd_12_8_1 : zz_D zy_isKind_12_8 1 (.iconst 1) 1 2 := ⟨by decide +kernel, rfl⟩
theorem zd_12_8_2 : zz_B zy_isKind_12_8 2 (Instr.if_icmp .lt) 15 5 := ⟨13, by decide +kernel, rfl, rfl⟩
theorem zd_12_8_15 : zz_D zy_isKind_12_8 15 (.iconst 0) 1 16 := ⟨by decide +kernel, rfl⟩
theorem zd_12_8_16 : zz_D zy_isKind_12_8 16 (.ireturn) 1 17 := ⟨by decide +kernel, rfl⟩
theorem zd_12_8_5 : zz_D zy_isKind_12_8 5 (.iload_n 0) 1 6 := ⟨by decide +kernel, rfl⟩
theorem zd_12_8_6 : zz_D zy_isKind_12_8 6 (.bipush 9) 2 8 := ⟨by decide +kernel, rfl⟩
theorem zd_12_8_8 : zz_B zy_isKind_12_8 8 (Instr.if_icmp .gt) 15 11 := ⟨7, by decide +kernel, rfl, rfl⟩
theorem zd_12_8_11 : zz_D zy_isKind_12_8 11 (.iconst 1) 1 12 := ⟨by decide +kernel, rfl⟩
theorem zd_12_8_12 : zz_B zy_isKind_12_8 12 Instr.goto 16 15 := ⟨4, by decide +kernel, rfl, rfl⟩
-- TensorForge$Words isKind (I)Z
abbrev zr_isKind_12_8 : Room := { frames := 0, cells := 0, slots := 0, locals := 0 }
def zp_isKind_12_8 (p0 : Int) (S0 : zz_S) : Int → zz_S → Prop := fun r S => S0 = S ∧ (0 ≤ r ∧ r ≤ 1) ∧ ((r = 1 ∧ 1 ≤ p0 ∧ p0 ≤ 9) ∨ (r = 0 ∧ (p0 < 1 ∨ 9 < p0)))
theorem zc_isKind_12_8 {g : mm_G} {l : Launch} (p0 : Int) (S0 : zz_S) (n : Nat) (hn : zz_end ≤ n) (G_S0 : zz_G S0) (hp0 : (-2147483648) ≤ p0 ∧ p0 ≤ 2147483647) : mm_Met g l zy_isKind_12_8 zr_isKind_12_8 [zi p0] (zz_M S0 n) n (zz_QI n (zp_isKind_12_8 p0 S0)) := by
  refine zz_enter (by decide) (Nat.le_of_ble_eq_true rfl) (zz_less (ls1 := [some (zi p0)]) ⟨rfl, trivial⟩ ?_)
  refine zz_iload_n (x := p0) rfl zd_12_8_0 ?_
  refine zz_iconst zd_12_8_1 ?_
  refine zz_icmp_lt (by omega) (by omega) zd_12_8_2 (fun c1 => ?_) (fun c1 => ?_)
  · refine zz_iconst zd_12_8_15 ?_
    exact zz_zret zd_12_8_16 rfl (by omega) (Nat.zero_le _) (Nat.zero_le _) ⟨_, _, rfl, rfl, by omega, by omega⟩
  · refine zz_iload_n (x := p0) rfl zd_12_8_5 ?_
    refine zz_bipush (by decide) zd_12_8_6 ?_
    refine zz_icmp_gt (by omega) (by omega) zd_12_8_8 (fun c2 => ?_) (fun c2 => ?_)
    · refine zz_iconst zd_12_8_15 ?_
      exact zz_zret zd_12_8_16 rfl (by omega) (Nat.zero_le _) (Nat.zero_le _) ⟨_, _, rfl, rfl, by omega, by omega⟩
    · refine zz_iconst zd_12_8_11 ?_
      refine zz_goto zd_12_8_12 ?_
      exact zz_zret zd_12_8_16 rfl (by omega) (Nat.zero_le _) (Nat.zero_le _) ⟨_, _, rfl, rfl, by omega, by omega⟩
theorem zk_Words_24 : mm_Sl "TensorForge$Words" 24 1 zy_isKind_12_8 := ⟨zyw_isKind_12_8, mm_tb_1 499 (by decide +kernel) rfl, mm_tb_1 500 (by decide +kernel) rfl⟩
theorem zd_12_9_10 : zz_B zy_hasStrangeField_12_9 10 (Instr.ifCond .ne) 15 13 := ⟨5, by decide +kernel, rfl, rfl⟩
theorem zd_12_9_13 : zz_D zy_hasStrangeField_12_9 13 (.iconst 1) 1 14 := ⟨by decide +kernel, rfl⟩
theorem zd_12_9_14 : zz_D zy_hasStrangeField_12_9 14 (.ireturn) 1 15 := ⟨by decide +kernel, rfl⟩
theorem zd_12_9_15 : zz_D zy_hasStrangeField_12_9 15 (.iconst 5) 1 16 := ⟨by decide +kernel, rfl⟩
theorem zd_12_9_16 : zz_D zy_hasStrangeField_12_9 16 (.istore_n 3) 1 17 := ⟨by decide +kernel, rfl⟩
theorem zd_12_9_17 : zz_D zy_hasStrangeField_12_9 17 (.iload_n 3) 1 18 := ⟨by decide +kernel, rfl⟩
theorem zd_12_9_18 : zz_D zy_hasStrangeField_12_9 18 (.bipush 12) 2 20 := ⟨by decide +kernel, rfl⟩
theorem zd_12_9_20 : zz_B zy_hasStrangeField_12_9 20 (Instr.if_icmp .ge) 51 23 := ⟨31, by decide +kernel, rfl, rfl⟩
theorem zd_12_9_23 : zz_D zy_hasStrangeField_12_9 23 (.getstatic 28) 3 26 := ⟨by decide +kernel, rfl⟩
theorem zs_Words_28 : Cond.fieldLink "TensorForge$Words" 28 "TensorForge$Words" "NAMED" "[I" ∈ mm_tb := mm_tb_1 502 (by decide +kernel) rfl
theorem zd_12_9_26 : zz_D zy_hasStrangeField_12_9 26 (.iload_n 2) 1 27 := ⟨by decide +kernel, rfl⟩
theorem zd_12_9_27 : zz_D zy_hasStrangeField_12_9 27 (.iaload) 1 28 := ⟨by decide +kernel, rfl⟩
theorem zz_sta3 {i : Int} (h : 0 ≤ i ∧ i < 10) : ∃ z : Int, (0 ≤ z ∧ z ≤ 4032) ∧ ([0, 1504, 1504, 448, 1504, 4032, 3008, 3008, 1504, 2048] : List Int32).getD i.toNat 0 = Int32.ofInt z := by
  have : i = 0 ∨ i = 1 ∨ i = 2 ∨ i = 3 ∨ i = 4 ∨ i = 5 ∨ i = 6 ∨ i = 7 ∨ i = 8 ∨ i = 9 := by omega
  rcases this with rfl | rfl | rfl | rfl | rfl | rfl | rfl | rfl | rfl | rfl
  · exact ⟨0, by decide, by decide⟩
  · exact ⟨1504, by decide, by decide⟩
  · exact ⟨1504, by decide, by decide⟩
  · exact ⟨448, by decide, by decide⟩
  · exact ⟨1504, by decide, by decide⟩
  · exact ⟨4032, by decide, by decide⟩
  · exact ⟨3008, by decide, by decide⟩
  · exact ⟨3008, by decide, by decide⟩
  · exact ⟨1504, by decide, by decide⟩
  · exact ⟨2048, by decide, by decide⟩
theorem zd_12_9_28 : zz_D zy_hasStrangeField_12_9 28 (.iload_n 3) 1 29 := ⟨by decide +kernel, rfl⟩
theorem zd_12_9_29 : zz_D zy_hasStrangeField_12_9 29 (.ishr) 1 30 := ⟨by decide +kernel, rfl⟩
theorem zd_12_9_30 : zz_D zy_hasStrangeField_12_9 30 (.iconst 1) 1 31 := ⟨by decide +kernel, rfl⟩
theorem zd_12_9_31 : zz_D zy_hasStrangeField_12_9 31 (.iand) 1 32 := ⟨by decide +kernel, rfl⟩
theorem zd_12_9_32 : zz_B zy_hasStrangeField_12_9 32 (Instr.ifCond .ne) 45 35 := ⟨13, by decide +kernel, rfl, rfl⟩
theorem zd_12_9_45 : zz_D zy_hasStrangeField_12_9 45 (.iinc 3 1) 3 48 := ⟨by decide +kernel, rfl⟩
theorem zd_12_9_48 : zz_B zy_hasStrangeField_12_9 48 Instr.goto 17 51 := ⟨(-31), by decide +kernel, rfl, rfl⟩
theorem zd_12_9_35 : zz_D zy_hasStrangeField_12_9 35 (.lload_n 0) 1 36 := ⟨by decide +kernel, rfl⟩
theorem zd_12_9_36 : zz_D zy_hasStrangeField_12_9 36 (.iload_n 3) 1 37 := ⟨by decide +kernel, rfl⟩
theorem zd_12_9_37 : zz_D zy_hasStrangeField_12_9 37 (.invokestatic 31) 3 40 := ⟨by decide +kernel, rfl⟩
abbrev zy_has_12_3 : mm_Y := (⟨"TensorForge$Words", "has", "(JI)Z"⟩, prog_12_method_3_code, 3, (some .boolean))
theorem zyw_has_12_3 : mm_Yw zy_has_12_3 2 := ⟨mm_tb_1 506 (by decide +kernel) rfl, mm_tb_1 20 (by decide +kernel) rfl, ⟨by decide, by decide⟩, by decide +kernel⟩
theorem zd_12_3_0 : zz_D zy_has_12_3 0 (.lload_n 0) 1 1 := ⟨by decide +kernel, rfl⟩
theorem zd_12_3_1 : zz_D zy_has_12_3 1 (.iload_n 2) 1 2 := ⟨by decide +kernel, rfl⟩
theorem zd_12_3_2 : zz_D zy_has_12_3 2 (.invokestatic 16) 3 5 := ⟨by decide +kernel, rfl⟩
theorem zd_12_3_5 : zz_B zy_has_12_3 5 (Instr.ifCond .eq) 12 8 := ⟨7, by decide +kernel, rfl, rfl⟩
theorem zd_12_3_12 : zz_D zy_has_12_3 12 (.iconst 0) 1 13 := ⟨by decide +kernel, rfl⟩
theorem zd_12_3_13 : zz_D zy_has_12_3 13 (.ireturn) 1 14 := ⟨by decide +kernel, rfl⟩
theorem zd_12_3_8 : zz_D zy_has_12_3 8 (.iconst 1) 1 9 := ⟨by decide +kernel, rfl⟩
theorem zd_12_3_9 : zz_B zy_has_12_3 9 Instr.goto 13 12 := ⟨4, by decide +kernel, rfl, rfl⟩
-- TensorForge$Words has (JI)Z
abbrev zr_has_12_3 : Room := { frames := 1, cells := 0, slots := 0, locals := 14 }
def zp_has_12_3 (p0 : Int) (p1 : Int) (S0 : zz_S) : Int → zz_S → Prop := fun r S => S0 = S ∧ (0 ≤ r ∧ r ≤ 1)
theorem zc_has_12_3 {g : mm_G} {l : Launch} (p0 : Int) (p1 : Int) (S0 : zz_S) (n : Nat) (hn : zz_end ≤ n) (G_S0 : zz_G S0) (hp0 : (-9223372036854775808) ≤ p0 ∧ p0 ≤ 9223372036854775807) (hp1 : (-2147483648) ≤ p1 ∧ p1 ≤ 2147483647) : mm_Met g l zy_has_12_3 zr_has_12_3 [zl p0, zi p1] (zz_M S0 n) n (zz_QI n (zp_has_12_3 p0 p1 S0)) := by
  refine zz_enter (by decide) (Nat.le_of_ble_eq_true rfl) (zz_less (ls1 := [some (zl p0), none, some (zi p1)]) ⟨rfl, ⟨rfl, trivial⟩⟩ ?_)
  refine zz_lload_n (x := p0) rfl zd_12_3_0 ?_
  refine zz_iload_n (x := p1) rfl zd_12_3_1 ?_
  refine zz_callSI [zl p0, zi p1] zd_12_3_2 zk_Words_16 rfl rfl ⟨Nat.le_of_ble_eq_true rfl, Nat.le_of_ble_eq_true rfl⟩ ⟨rfl, rfl⟩ (Nat.zero_le _) (Nat.zero_le _) (zc_get_12_2 p0 p1 S0 n hn G_S0 (by omega) (by omega)) (fun v2 S1 hP => ?_)
  obtain ⟨rfl, o3⟩ := hP
  refine zz_if_eq (by omega) zd_12_3_5 (fun c4 => ?_) (fun c4 => ?_)
  · refine zz_iconst zd_12_3_12 ?_
    exact zz_zret zd_12_3_13 rfl (by omega) (Nat.zero_le _) (Nat.zero_le _) ⟨_, _, rfl, rfl, by omega⟩
  · refine zz_iconst zd_12_3_8 ?_
    refine zz_goto zd_12_3_9 ?_
    exact zz_zret zd_12_3_13 rfl (by omega) (Nat.zero_le _) (Nat.zero_le _) ⟨_, _, rfl, rfl, by omega⟩
theorem zk_Words_31 : mm_Sl "TensorForge$Words" 31 2 zy_has_12_3 := ⟨zyw_has_12_3, mm_tb_1 504 (by decide +kernel) rfl, mm_tb_1 505 (by decide +kernel) rfl⟩
theorem zd_12_9_40 : zz_B zy_hasStrangeField_12_9 40 (Instr.ifCond .eq) 45 43 := ⟨5, by decide +kernel, rfl, rfl⟩
theorem zd_12_9_43 : zz_D zy_hasStrangeField_12_9 43 (.iconst 1) 1 44 := ⟨by decide +kernel, rfl⟩
theorem zd_12_9_44 : zz_D zy_hasStrangeField_12_9 44 (.ireturn) 1 45 := ⟨by decide +kernel, rfl⟩
theorem zd_12_9_51 : zz_D zy_hasStrangeField_12_9 51 (.iconst 0) 1 52 := ⟨by decide +kernel, rfl⟩
theorem zd_12_9_52 : zz_D zy_hasStrangeField_12_9 52 (.ireturn) 1 53 := ⟨by decide +kernel, rfl⟩
-- TensorForge$Words hasStrangeField (J)Z
abbrev zr_hasStrangeField_12_9 : Room := { frames := 2, cells := 0, slots := 0, locals := 28 }
def zp_hasStrangeField_12_9 (p0 : Int) (S0 : zz_S) : Int → zz_S → Prop := fun r S => S0 = S ∧ (0 ≤ r ∧ r ≤ 1)
theorem zb_hasStrangeField_12_9_17 {g : mm_G} {l : Launch} (p0 : Int) (S0 : zz_S) (n : Nat) (hn : zz_end ≤ n) (G_S0 : zz_G S0) (hp0 : (-9223372036854775808) ≤ p0 ∧ p0 ≤ 9223372036854775807) (x2 : Int) (x3 : Int) (S : zz_S) (G_S : zz_G S) (F_S : zz_fr [] [] (fun _ _ => False) S0 S) (i17_0 : 1 ≤ x2 ∧ x2 ≤ 9) (i17_1 : 5 ≤ x3 ∧ x3 ≤ 12) (R : Nat) (hR : (12 - x3).toNat = R) (k17 : ∀ (x2 : Int) (x3 : Int) (S : zz_S), zz_G S → zz_fr [] [] (fun _ _ => False) S0 S → (1 ≤ x2 ∧ x2 ≤ 9) → (5 ≤ x3 ∧ x3 ≤ 12) → (12 - x3).toNat < R → zz_E g l zy_hasStrangeField_12_9 zr_hasStrangeField_12_9 (zz_QI n (zp_hasStrangeField_12_9 p0 S0)) S n 17 [some (zl p0), none, some (zi x2), some (zi x3)] [] 0 0) : zz_E g l zy_hasStrangeField_12_9 zr_hasStrangeField_12_9 (zz_QI n (zp_hasStrangeField_12_9 p0 S0)) S n 17 [some (zl p0), none, some (zi x2), some (zi x3)] [] 0 0 := by
  refine zz_iload_n (x := x3) rfl zd_12_9_17 ?_
  refine zz_bipush (by decide) zd_12_9_18 ?_
  refine zz_icmp_ge (by omega) (by omega) zd_12_9_20 (fun c10 => ?_) (fun c10 => ?_)
  · refine zz_iconst zd_12_9_51 ?_
    exact zz_zret zd_12_9_52 rfl (by omega) (Nat.zero_le _) (Nat.zero_le _) ⟨_, _, rfl, zz_fr.eq F_S, by omega⟩
  · refine zz_gets (q0 := 3) zd_12_9_23 rfl (by decide) zs_Words_28 ?_
    refine zz_iload_n (x := x2) rfl zd_12_9_26 ?_
    obtain ⟨v11, hv11, tv11⟩ := zz_sta3 (i := x2) (by omega)
    refine zz_tiald (N := 10) v11 zd_12_9_27 rfl (by decide) rfl (by decide) (by omega) tv11 ?_
    refine zz_iload_n (x := x3) rfl zd_12_9_28 ?_
    refine zz_ishr zd_12_9_29 (fun v12 hv12 ev12 => ?_)
    refine zz_iconst zd_12_9_30 ?_
    refine zz_iand (by omega) (by omega) zd_12_9_31 (fun v13 hv13 av13 bv13 ev13 => ?_)
    refine zz_if_ne (by omega) zd_12_9_32 (fun c14 => ?_) (fun c14 => ?_)
    · refine zz_iinc [some (zl p0), none, some (zi x2), some (zi (x3 + 1))] zd_12_9_45 rfl rfl ?_
      refine zz_goto zd_12_9_48 ?_
      refine zz_less (ls1 := [some (zl p0), none, some (zi x2), some (zi (x3 + 1))]) ⟨rfl, ⟨rfl, ⟨rfl, trivial⟩⟩⟩ ?_
      exact k17 x2 (x3 + 1) S G_S F_S (by omega) (by omega) (by omega)
    · refine zz_lload_n (x := p0) rfl zd_12_9_35 ?_
      refine zz_iload_n (x := x3) rfl zd_12_9_36 ?_
      refine zz_callSI [zl p0, zi x3] zd_12_9_37 zk_Words_31 rfl rfl ⟨Nat.le_of_ble_eq_true rfl, Nat.le_of_ble_eq_true rfl⟩ ⟨rfl, rfl⟩ (Nat.zero_le _) (Nat.zero_le _) (zc_has_12_3 p0 x3 S n hn G_S (by omega) (by omega)) (fun v16 S15 hP => ?_)
      obtain ⟨rfl, o17⟩ := hP
      rcases (by omega : v16 = 0 ∨ v16 = 1) with rfl | rfl
      · refine zz_if_eq (by omega) zd_12_9_40 (fun c18 => ?_) (fun c18 => ?_)
        · refine zz_iinc [some (zl p0), none, some (zi x2), some (zi (x3 + 1))] zd_12_9_45 rfl rfl ?_
          refine zz_goto zd_12_9_48 ?_
          refine zz_less (ls1 := [some (zl p0), none, some (zi x2), some (zi (x3 + 1))]) ⟨rfl, ⟨rfl, ⟨rfl, trivial⟩⟩⟩ ?_
          exact k17 x2 (x3 + 1) S G_S F_S (by omega) (by omega) (by omega)
        · exfalso; omega
      · refine zz_if_eq (by omega) zd_12_9_40 (fun c19 => ?_) (fun c19 => ?_)
        · exfalso; omega
        · refine zz_iconst zd_12_9_43 ?_
          exact zz_zret zd_12_9_44 rfl (by omega) (Nat.zero_le _) (Nat.zero_le _) ⟨_, _, rfl, zz_fr.eq F_S, by omega⟩
theorem zi_hasStrangeField_12_9 {g : mm_G} {l : Launch} (p0 : Int) (S0 : zz_S) (n : Nat) (hn : zz_end ≤ n) (G_S0 : zz_G S0) (hp0 : (-9223372036854775808) ≤ p0 ∧ p0 ≤ 9223372036854775807) : ∀ N : Nat, (∀ (x2 : Int) (x3 : Int) (S : zz_S), zz_G S → zz_fr [] [] (fun _ _ => False) S0 S → (1 ≤ x2 ∧ x2 ≤ 9) → (5 ≤ x3 ∧ x3 ≤ 12) → (12 - x3).toNat < N → zz_E g l zy_hasStrangeField_12_9 zr_hasStrangeField_12_9 (zz_QI n (zp_hasStrangeField_12_9 p0 S0)) S n 17 [some (zl p0), none, some (zi x2), some (zi x3)] [] 0 0) := by
  intro N
  induction N with
  | zero => exact fun x2 x3 S _ _ _ _ h => absurd h (Nat.not_lt_zero _)
  | succ N ih =>
    exact fun x2 x3 S a b j0 j1 hR => zb_hasStrangeField_12_9_17 p0 S0 n hn G_S0 hp0 x2 x3 S a b j0 j1 _ rfl (fun x2 x3 S a b j0 j1 h => ih x2 x3 S a b j0 j1 (Nat.lt_of_lt_of_le h (Nat.le_of_lt_succ hR)))
theorem zc_hasStrangeField_12_9 {g : mm_G} {l : Launch} (p0 : Int) (S0 : zz_S) (n : Nat) (hn : zz_end ≤ n) (G_S0 : zz_G S0) (hp0 : (-9223372036854775808) ≤ p0 ∧ p0 ≤ 9223372036854775807) : mm_Met g l zy_hasStrangeField_12_9 zr_hasStrangeField_12_9 [zl p0] (zz_M S0 n) n (zz_QI n (zp_hasStrangeField_12_9 p0 S0)) := by
  refine zz_enter (by decide) (Nat.le_of_ble_eq_true rfl) (zz_less (ls1 := [some (zl p0), none]) ⟨rfl, trivial⟩ ?_)
  have F_S0 : zz_fr [] [] (fun _ _ => False) S0 S0 := zz_fr.refl
  have k17 : ∀ (x2 : Int) (x3 : Int) (S : zz_S), zz_G S → zz_fr [] [] (fun _ _ => False) S0 S → (1 ≤ x2 ∧ x2 ≤ 9) → (5 ≤ x3 ∧ x3 ≤ 12) → zz_E g l zy_hasStrangeField_12_9 zr_hasStrangeField_12_9 (zz_QI n (zp_hasStrangeField_12_9 p0 S0)) S n 17 [some (zl p0), none, some (zi x2), some (zi x3)] [] 0 0 := fun x2 x3 S a b j0 j1 => (zi_hasStrangeField_12_9 (g := g) (l := l) p0 S0 n hn G_S0 hp0 _) x2 x3 S a b j0 j1 (Nat.lt_succ_self _)
  refine zz_lload_n (x := p0) rfl zd_12_9_0 ?_
  refine zz_iconst zd_12_9_1 ?_
  refine zz_callSI [zl p0, zi 0] zd_12_9_2 zk_Words_16 rfl rfl ⟨Nat.le_of_ble_eq_true rfl, Nat.le_of_ble_eq_true rfl⟩ ⟨rfl, rfl⟩ (Nat.zero_le _) (Nat.zero_le _) (zc_get_12_2x_0 p0 S0 n hn G_S0 (by omega)) (fun v2 S1 hP => ?_)
  obtain ⟨rfl, o3⟩ := hP
  refine zz_istore_n [some (zl p0), none, some (zi v2)] zd_12_9_5 (by decide) rfl ?_
  refine zz_iload_n (x := v2) rfl zd_12_9_6 ?_
  refine zz_callSI [zi v2] zd_12_9_7 zk_Words_24 rfl rfl ⟨Nat.le_of_ble_eq_true rfl, Nat.le_of_ble_eq_true rfl⟩ ⟨rfl, rfl⟩ (Nat.zero_le _) (Nat.zero_le _) (zc_isKind_12_8 v2 S0 n hn G_S0 (by omega)) (fun v5 S4 hP => ?_)
  obtain ⟨rfl, o6, o7⟩ := hP
  rcases (by omega : v5 = 0 ∨ v5 = 1) with rfl | rfl
  · refine zz_if_ne (by omega) zd_12_9_10 (fun c8 => ?_) (fun c8 => ?_)
    · exfalso; omega
    · refine zz_iconst zd_12_9_13 ?_
      exact zz_zret zd_12_9_14 rfl (by omega) (Nat.zero_le _) (Nat.zero_le _) ⟨_, _, rfl, rfl, by omega⟩
  · refine zz_if_ne (by omega) zd_12_9_10 (fun c9 => ?_) (fun c9 => ?_)
    · refine zz_iconst zd_12_9_15 ?_
      refine zz_istore_n [some (zl p0), none, some (zi v2), some (zi 5)] zd_12_9_16 (by decide) rfl ?_
      refine zz_less (ls1 := [some (zl p0), none, some (zi v2), some (zi 5)]) ⟨rfl, ⟨rfl, ⟨rfl, trivial⟩⟩⟩ ?_
      exact k17 v2 5 S0 G_S0 F_S0 (by omega) (by omega)
    · exfalso; omega
theorem zk_Machine_49 : mm_Sl "TensorForge$Machine" 49 1 zy_hasStrangeField_12_9 := ⟨zyw_hasStrangeField_12_9, mm_tb_1 489 (by decide +kernel) rfl, mm_tb_1 490 (by decide +kernel) rfl⟩
theorem zd_6_6_4 : zz_B zy_forbids_6_6 4 (Instr.ifCond .ne) 30 7 := ⟨26, by decide +kernel, rfl, rfl⟩
theorem zd_6_6_7 : zz_D zy_forbids_6_6 7 (.aload_n 0) 1 8 := ⟨by decide +kernel, rfl⟩
theorem zd_6_6_8 : zz_D zy_forbids_6_6 8 (.lload_n 1) 1 9 := ⟨by decide +kernel, rfl⟩
theorem zd_6_6_9 : zz_D zy_forbids_6_6 9 (.invokevirtual 55) 3 12 := ⟨by decide +kernel, rfl⟩
abbrev zy_shapeFits_6_7 : mm_Y := (⟨"TensorForge$Machine", "shapeFits", "(J)Z"⟩, prog_6_method_7_code, 4, (some .boolean))
theorem zyw_shapeFits_6_7 : mm_Yw zy_shapeFits_6_7 1 := ⟨mm_tb_1 510 (by decide +kernel) rfl, mm_tb_1 4 (by decide +kernel) rfl, ⟨by decide, by decide⟩, by decide +kernel⟩
theorem zd_6_7_0 : zz_D zy_shapeFits_6_7 0 (.lload_n 1) 1 1 := ⟨by decide +kernel, rfl⟩
theorem zd_6_7_1 : zz_D zy_shapeFits_6_7 1 (.iconst 0) 1 2 := ⟨by decide +kernel, rfl⟩
theorem zd_6_7_2 : zz_D zy_shapeFits_6_7 2 (.invokestatic 72) 3 5 := ⟨by decide +kernel, rfl⟩
theorem zk_Machine_72 : mm_Sl "TensorForge$Machine" 72 2 zy_get_12_2 := ⟨zyw_get_12_2, mm_tb_1 511 (by decide +kernel) rfl, mm_tb_1 493 (by decide +kernel) rfl⟩
theorem zd_6_7_5 : zz_D zy_shapeFits_6_7 5 (.bipush 9) 2 7 := ⟨by decide +kernel, rfl⟩
theorem zd_6_7_7 : zz_B zy_shapeFits_6_7 7 (Instr.if_icmp .ne) 12 10 := ⟨5, by decide +kernel, rfl, rfl⟩
theorem zd_6_7_12 : zz_D zy_shapeFits_6_7 12 (.lload_n 1) 1 13 := ⟨by decide +kernel, rfl⟩
theorem zd_6_7_13 : zz_D zy_shapeFits_6_7 13 (.bipush 7) 2 15 := ⟨by decide +kernel, rfl⟩
theorem zd_6_7_15 : zz_D zy_shapeFits_6_7 15 (.invokestatic 72) 3 18 := ⟨by decide +kernel, rfl⟩
-- TensorForge$Words get (JI)I
abbrev zr_get_12_2x_7 : Room := { frames := 0, cells := 0, slots := 0, locals := 0 }
def zp_get_12_2x_7 (p0 : Int) (S0 : zz_S) : Int → zz_S → Prop := fun r S => S0 = S ∧ (0 ≤ r ∧ r ≤ 31)
theorem zc_get_12_2x_7 {g : mm_G} {l : Launch} (p0 : Int) (S0 : zz_S) (n : Nat) (hn : zz_end ≤ n) (G_S0 : zz_G S0) (hp0 : (-9223372036854775808) ≤ p0 ∧ p0 ≤ 9223372036854775807) : mm_Met g l zy_get_12_2 zr_get_12_2x_7 [zl p0, zi 7] (zz_M S0 n) n (zz_QI n (zp_get_12_2x_7 p0 S0)) := by
  refine zz_enter (by decide) (Nat.le_of_ble_eq_true rfl) (zz_less (ls1 := [some (zl p0), none, some (zi 7)]) ⟨rfl, ⟨rfl, trivial⟩⟩ ?_)
  refine zz_iload_n (x := 7) rfl zd_12_2_0 ?_
  refine zz_if_lt (by omega) zd_12_2_1 (fun c1 => ?_) (fun c1 => ?_)
  · exfalso; omega
  · refine zz_iload_n (x := 7) rfl zd_12_2_4 ?_
    refine zz_bipush (by decide) zd_12_2_5 ?_
    refine zz_icmp_lt (by omega) (by omega) zd_12_2_7 (fun c2 => ?_) (fun c2 => ?_)
    · refine zz_lload_n (x := p0) rfl zd_12_2_12 ?_
      refine zz_gets (q0 := 1) zd_12_2_13 rfl (by decide) zs_Words_9 ?_
      refine zz_iload_n (x := 7) rfl zd_12_2_16 ?_
      refine zz_tiald 26 zd_12_2_17 rfl (by decide) rfl (by decide) (by decide) rfl ?_
      refine zz_lushr zd_12_2_18 (fun v3 hv3 ev3 => ?_)
      refine zz_l2i (by omega) zd_12_2_19 (fun v4 hv4 av4 ev4 => ?_)
      refine zz_gets (q0 := 2) zd_12_2_20 rfl (by decide) zs_Words_13 ?_
      refine zz_iload_n (x := 7) rfl zd_12_2_23 ?_
      refine zz_tiald 31 zd_12_2_24 rfl (by decide) rfl (by decide) (by decide) rfl ?_
      refine zz_iand (by omega) (by omega) zd_12_2_25 (fun v5 hv5 av5 bv5 ev5 => ?_)
      exact zz_iret zd_12_2_26 rfl (Nat.zero_le _) (Nat.zero_le _) ⟨_, _, rfl, rfl, by omega⟩
    · exfalso; omega
theorem zd_6_7_18 : zz_D zy_shapeFits_6_7 18 (.istore_n 3) 1 19 := ⟨by decide +kernel, rfl⟩
theorem zd_6_7_19 : zz_D zy_shapeFits_6_7 19 (.lload_n 1) 1 20 := ⟨by decide +kernel, rfl⟩
theorem zd_6_7_20 : zz_D zy_shapeFits_6_7 20 (.bipush 6) 2 22 := ⟨by decide +kernel, rfl⟩
theorem zd_6_7_22 : zz_D zy_shapeFits_6_7 22 (.invokestatic 72) 3 25 := ⟨by decide +kernel, rfl⟩
-- TensorForge$Words get (JI)I
abbrev zr_get_12_2x_6 : Room := { frames := 0, cells := 0, slots := 0, locals := 0 }
def zp_get_12_2x_6 (p0 : Int) (S0 : zz_S) : Int → zz_S → Prop := fun r S => S0 = S ∧ (0 ≤ r ∧ r ≤ 63)
theorem zc_get_12_2x_6 {g : mm_G} {l : Launch} (p0 : Int) (S0 : zz_S) (n : Nat) (hn : zz_end ≤ n) (G_S0 : zz_G S0) (hp0 : (-9223372036854775808) ≤ p0 ∧ p0 ≤ 9223372036854775807) : mm_Met g l zy_get_12_2 zr_get_12_2x_6 [zl p0, zi 6] (zz_M S0 n) n (zz_QI n (zp_get_12_2x_6 p0 S0)) := by
  refine zz_enter (by decide) (Nat.le_of_ble_eq_true rfl) (zz_less (ls1 := [some (zl p0), none, some (zi 6)]) ⟨rfl, ⟨rfl, trivial⟩⟩ ?_)
  refine zz_iload_n (x := 6) rfl zd_12_2_0 ?_
  refine zz_if_lt (by omega) zd_12_2_1 (fun c1 => ?_) (fun c1 => ?_)
  · exfalso; omega
  · refine zz_iload_n (x := 6) rfl zd_12_2_4 ?_
    refine zz_bipush (by decide) zd_12_2_5 ?_
    refine zz_icmp_lt (by omega) (by omega) zd_12_2_7 (fun c2 => ?_) (fun c2 => ?_)
    · refine zz_lload_n (x := p0) rfl zd_12_2_12 ?_
      refine zz_gets (q0 := 1) zd_12_2_13 rfl (by decide) zs_Words_9 ?_
      refine zz_iload_n (x := 6) rfl zd_12_2_16 ?_
      refine zz_tiald 20 zd_12_2_17 rfl (by decide) rfl (by decide) (by decide) rfl ?_
      refine zz_lushr zd_12_2_18 (fun v3 hv3 ev3 => ?_)
      refine zz_l2i (by omega) zd_12_2_19 (fun v4 hv4 av4 ev4 => ?_)
      refine zz_gets (q0 := 2) zd_12_2_20 rfl (by decide) zs_Words_13 ?_
      refine zz_iload_n (x := 6) rfl zd_12_2_23 ?_
      refine zz_tiald 63 zd_12_2_24 rfl (by decide) rfl (by decide) (by decide) rfl ?_
      refine zz_iand (by omega) (by omega) zd_12_2_25 (fun v5 hv5 av5 bv5 ev5 => ?_)
      exact zz_iret zd_12_2_26 rfl (Nat.zero_le _) (Nat.zero_le _) ⟨_, _, rfl, rfl, by omega⟩
    · exfalso; omega
theorem zd_6_7_25 : zz_B zy_shapeFits_6_7 25 (Instr.ifCond .le) 44 28 := ⟨19, by decide +kernel, rfl, rfl⟩
theorem zd_6_7_44 : zz_D zy_shapeFits_6_7 44 (.iconst 0) 1 45 := ⟨by decide +kernel, rfl⟩
theorem zd_6_7_45 : zz_D zy_shapeFits_6_7 45 (.ireturn) 1 46 := ⟨by decide +kernel, rfl⟩
theorem zd_6_7_28 : zz_D zy_shapeFits_6_7 28 (.iload_n 3) 1 29 := ⟨by decide +kernel, rfl⟩
theorem zd_6_7_29 : zz_B zy_shapeFits_6_7 29 (Instr.ifCond .le) 44 32 := ⟨15, by decide +kernel, rfl, rfl⟩
theorem zd_6_7_32 : zz_D zy_shapeFits_6_7 32 (.iload_n 3) 1 33 := ⟨by decide +kernel, rfl⟩
theorem zd_6_7_33 : zz_D zy_shapeFits_6_7 33 (.aload_n 0) 1 34 := ⟨by decide +kernel, rfl⟩
theorem zd_6_7_34 : zz_D zy_shapeFits_6_7 34 (.getfield 36) 3 37 := ⟨by decide +kernel, rfl⟩
theorem zd_6_7_37 : zz_B zy_shapeFits_6_7 37 (Instr.if_icmp .gt) 44 40 := ⟨7, by decide +kernel, rfl, rfl⟩
theorem zd_6_7_40 : zz_D zy_shapeFits_6_7 40 (.iconst 1) 1 41 := ⟨by decide +kernel, rfl⟩
theorem zd_6_7_41 : zz_B zy_shapeFits_6_7 41 Instr.goto 45 44 := ⟨4, by decide +kernel, rfl, rfl⟩
theorem zd_6_7_10 : zz_D zy_shapeFits_6_7 10 (.iconst 1) 1 11 := ⟨by decide +kernel, rfl⟩
theorem zd_6_7_11 : zz_D zy_shapeFits_6_7 11 (.ireturn) 1 12 := ⟨by decide +kernel, rfl⟩
-- TensorForge$Machine shapeFits (J)Z
abbrev zr_shapeFits_6_7 : Room := { frames := 1, cells := 0, slots := 0, locals := 14 }
def zp_shapeFits_6_7 (p0 : Int) (S0 : zz_S) : Int → zz_S → Prop := fun r S => S0 = S ∧ (0 ≤ r ∧ r ≤ 1)
theorem zc_shapeFits_6_7 {g : mm_G} {l : Launch} (p0 : Int) (S0 : zz_S) (n : Nat) (hn : zz_end ≤ n) (G_S0 : zz_G S0) (hp0 : (-9223372036854775808) ≤ p0 ∧ p0 ≤ 9223372036854775807) : mm_Met g l zy_shapeFits_6_7 zr_shapeFits_6_7 [.ref 1031, zl p0] (zz_M S0 n) n (zz_QI n (zp_shapeFits_6_7 p0 S0)) := by
  refine zz_enter (by decide) (Nat.le_of_ble_eq_true rfl) (zz_less (ls1 := [some (.ref 1031), some (zl p0), none]) ⟨rfl, ⟨rfl, trivial⟩⟩ ?_)
  refine zz_lload_n (x := p0) rfl zd_6_7_0 ?_
  refine zz_iconst zd_6_7_1 ?_
  refine zz_callSI [zl p0, zi 0] zd_6_7_2 zk_Machine_72 rfl rfl ⟨Nat.le_of_ble_eq_true rfl, Nat.le_of_ble_eq_true rfl⟩ ⟨rfl, rfl⟩ (Nat.zero_le _) (Nat.zero_le _) (zc_get_12_2x_0 p0 S0 n hn G_S0 (by omega)) (fun v2 S1 hP => ?_)
  obtain ⟨rfl, o3⟩ := hP
  refine zz_bipush (by decide) zd_6_7_5 ?_
  refine zz_icmp_ne (by omega) (by omega) zd_6_7_7 (fun c4 => ?_) (fun c4 => ?_)
  · refine zz_lload_n (x := p0) rfl zd_6_7_12 ?_
    refine zz_bipush (by decide) zd_6_7_13 ?_
    refine zz_callSI [zl p0, zi 7] zd_6_7_15 zk_Machine_72 rfl rfl ⟨Nat.le_of_ble_eq_true rfl, Nat.le_of_ble_eq_true rfl⟩ ⟨rfl, rfl⟩ (Nat.zero_le _) (Nat.zero_le _) (zc_get_12_2x_7 p0 S0 n hn G_S0 (by omega)) (fun v6 S5 hP => ?_)
    obtain ⟨rfl, o7⟩ := hP
    refine zz_istore_n [some (.ref 1031), some (zl p0), none, some (zi v6)] zd_6_7_18 (by decide) rfl ?_
    refine zz_lload_n (x := p0) rfl zd_6_7_19 ?_
    refine zz_bipush (by decide) zd_6_7_20 ?_
    refine zz_callSI [zl p0, zi 6] zd_6_7_22 zk_Machine_72 rfl rfl ⟨Nat.le_of_ble_eq_true rfl, Nat.le_of_ble_eq_true rfl⟩ ⟨rfl, rfl⟩ (Nat.zero_le _) (Nat.zero_le _) (zc_get_12_2x_6 p0 S0 n hn G_S0 (by omega)) (fun v9 S8 hP => ?_)
    obtain ⟨rfl, o10⟩ := hP
    refine zz_if_le (by omega) zd_6_7_25 (fun c11 => ?_) (fun c11 => ?_)
    · refine zz_iconst zd_6_7_44 ?_
      exact zz_zret zd_6_7_45 rfl (by omega) (Nat.zero_le _) (Nat.zero_le _) ⟨_, _, rfl, rfl, by omega⟩
    · refine zz_iload_n (x := v6) rfl zd_6_7_28 ?_
      refine zz_if_le (by omega) zd_6_7_29 (fun c12 => ?_) (fun c12 => ?_)
      · refine zz_iconst zd_6_7_44 ?_
        exact zz_zret zd_6_7_45 rfl (by omega) (Nat.zero_le _) (Nat.zero_le _) ⟨_, _, rfl, rfl, by omega⟩
      · refine zz_iload_n (x := v6) rfl zd_6_7_32 ?_
        refine zz_aload_n (x := 1031) rfl zd_6_7_33 ?_
        have g13 := zz_G.r G_S0 1031 6 2 8 rfl rfl
        refine zz_geti (z := S0 1031 6) zd_6_7_34 zf_Machine_36 zT_1031 rfl (zz_ltn hn rfl) rfl ?_
        refine zz_icmp_gt (by omega) (by omega) zd_6_7_37 (fun c14 => ?_) (fun c14 => ?_)
        · refine zz_iconst zd_6_7_44 ?_
          exact zz_zret zd_6_7_45 rfl (by omega) (Nat.zero_le _) (Nat.zero_le _) ⟨_, _, rfl, rfl, by omega⟩
        · refine zz_iconst zd_6_7_40 ?_
          refine zz_goto zd_6_7_41 ?_
          exact zz_zret zd_6_7_45 rfl (by omega) (Nat.zero_le _) (Nat.zero_le _) ⟨_, _, rfl, rfl, by omega⟩
  · refine zz_iconst zd_6_7_10 ?_
    exact zz_zret zd_6_7_11 rfl (by omega) (Nat.zero_le _) (Nat.zero_le _) ⟨_, _, rfl, rfl, by omega⟩
theorem zk_Machine_55 : mm_Vl "TensorForge$Machine" 55 3 1 zy_shapeFits_6_7 := ⟨zyw_shapeFits_6_7, (R_Machine, F_Machine, 14), rfl, mm_tb_1 507 (by decide +kernel) rfl, mm_tb_1 509 (by decide +kernel) rfl, mm_tb_s 0 (by decide +kernel) rfl⟩
theorem zd_6_6_12 : zz_B zy_forbids_6_6 12 (Instr.ifCond .eq) 30 15 := ⟨18, by decide +kernel, rfl, rfl⟩
theorem zd_6_6_30 : zz_D zy_forbids_6_6 30 (.iconst 1) 1 31 := ⟨by decide +kernel, rfl⟩
theorem zd_6_6_31 : zz_D zy_forbids_6_6 31 (.ireturn) 1 32 := ⟨by decide +kernel, rfl⟩
theorem zd_6_6_15 : zz_D zy_forbids_6_6 15 (.aload_n 0) 1 16 := ⟨by decide +kernel, rfl⟩
theorem zd_6_6_16 : zz_D zy_forbids_6_6 16 (.lload_n 1) 1 17 := ⟨by decide +kernel, rfl⟩
theorem zd_6_6_17 : zz_D zy_forbids_6_6 17 (.invokevirtual 58) 3 20 := ⟨by decide +kernel, rfl⟩
abbrev zy_numberFits_6_8 : mm_Y := (⟨"TensorForge$Machine", "numberFits", "(J)Z"⟩, prog_6_method_8_code, 4, (some .boolean))
theorem zyw_numberFits_6_8 : mm_Yw zy_numberFits_6_8 1 := ⟨mm_tb_1 515 (by decide +kernel) rfl, mm_tb_1 4 (by decide +kernel) rfl, ⟨by decide, by decide⟩, by decide +kernel⟩
theorem zd_6_8_0 : zz_D zy_numberFits_6_8 0 (.lload_n 1) 1 1 := ⟨by decide +kernel, rfl⟩
theorem zd_6_8_1 : zz_D zy_numberFits_6_8 1 (.bipush 11) 2 3 := ⟨by decide +kernel, rfl⟩
theorem zd_6_8_3 : zz_D zy_numberFits_6_8 3 (.invokestatic 72) 3 6 := ⟨by decide +kernel, rfl⟩
-- TensorForge$Words get (JI)I
abbrev zr_get_12_2x_11 : Room := { frames := 0, cells := 0, slots := 0, locals := 0 }
def zp_get_12_2x_11 (p0 : Int) (S0 : zz_S) : Int → zz_S → Prop := fun r S => S0 = S ∧ (0 ≤ r ∧ r ≤ 31)
theorem zc_get_12_2x_11 {g : mm_G} {l : Launch} (p0 : Int) (S0 : zz_S) (n : Nat) (hn : zz_end ≤ n) (G_S0 : zz_G S0) (hp0 : (-9223372036854775808) ≤ p0 ∧ p0 ≤ 9223372036854775807) : mm_Met g l zy_get_12_2 zr_get_12_2x_11 [zl p0, zi 11] (zz_M S0 n) n (zz_QI n (zp_get_12_2x_11 p0 S0)) := by
  refine zz_enter (by decide) (Nat.le_of_ble_eq_true rfl) (zz_less (ls1 := [some (zl p0), none, some (zi 11)]) ⟨rfl, ⟨rfl, trivial⟩⟩ ?_)
  refine zz_iload_n (x := 11) rfl zd_12_2_0 ?_
  refine zz_if_lt (by omega) zd_12_2_1 (fun c1 => ?_) (fun c1 => ?_)
  · exfalso; omega
  · refine zz_iload_n (x := 11) rfl zd_12_2_4 ?_
    refine zz_bipush (by decide) zd_12_2_5 ?_
    refine zz_icmp_lt (by omega) (by omega) zd_12_2_7 (fun c2 => ?_) (fun c2 => ?_)
    · refine zz_lload_n (x := p0) rfl zd_12_2_12 ?_
      refine zz_gets (q0 := 1) zd_12_2_13 rfl (by decide) zs_Words_9 ?_
      refine zz_iload_n (x := 11) rfl zd_12_2_16 ?_
      refine zz_tiald 59 zd_12_2_17 rfl (by decide) rfl (by decide) (by decide) rfl ?_
      refine zz_lushr zd_12_2_18 (fun v3 hv3 ev3 => ?_)
      refine zz_l2i (by omega) zd_12_2_19 (fun v4 hv4 av4 ev4 => ?_)
      refine zz_gets (q0 := 2) zd_12_2_20 rfl (by decide) zs_Words_13 ?_
      refine zz_iload_n (x := 11) rfl zd_12_2_23 ?_
      refine zz_tiald 31 zd_12_2_24 rfl (by decide) rfl (by decide) (by decide) rfl ?_
      refine zz_iand (by omega) (by omega) zd_12_2_25 (fun v5 hv5 av5 bv5 ev5 => ?_)
      exact zz_iret zd_12_2_26 rfl (Nat.zero_le _) (Nat.zero_le _) ⟨_, _, rfl, rfl, by omega⟩
    · exfalso; omega
theorem zd_6_8_6 : zz_D zy_numberFits_6_8 6 (.istore_n 3) 1 7 := ⟨by decide +kernel, rfl⟩
theorem zd_6_8_7 : zz_D zy_numberFits_6_8 7 (.lload_n 1) 1 8 := ⟨by decide +kernel, rfl⟩
theorem zd_6_8_8 : zz_D zy_numberFits_6_8 8 (.iconst 0) 1 9 := ⟨by decide +kernel, rfl⟩
theorem zd_6_8_9 : zz_D zy_numberFits_6_8 9 (.invokestatic 72) 3 12 := ⟨by decide +kernel, rfl⟩
theorem zd_6_8_12 : zz_W zy_numberFits_6_8 12 69 5 9 #[36, 58, 69, 69, 58] := ⟨36, by decide +kernel⟩
theorem zd_6_8_48 : zz_D zy_numberFits_6_8 48 (.iload_n 3) 1 49 := ⟨by decide +kernel, rfl⟩
theorem zd_6_8_49 : zz_D zy_numberFits_6_8 49 (.iconst 2) 1 50 := ⟨by decide +kernel, rfl⟩
theorem zd_6_8_50 : zz_D zy_numberFits_6_8 50 (.idiv) 1 51 := ⟨by decide +kernel, rfl⟩
theorem zd_6_8_51 : zz_B zy_numberFits_6_8 51 (Instr.ifCond .le) 68 54 := ⟨17, by decide +kernel, rfl, rfl⟩
theorem zd_6_8_68 : zz_D zy_numberFits_6_8 68 (.iconst 0) 1 69 := ⟨by decide +kernel, rfl⟩
theorem zd_6_8_69 : zz_D zy_numberFits_6_8 69 (.ireturn) 1 70 := ⟨by decide +kernel, rfl⟩
theorem zd_6_8_54 : zz_D zy_numberFits_6_8 54 (.iload_n 3) 1 55 := ⟨by decide +kernel, rfl⟩
theorem zd_6_8_55 : zz_D zy_numberFits_6_8 55 (.iconst 2) 1 56 := ⟨by decide +kernel, rfl⟩
theorem zd_6_8_56 : zz_D zy_numberFits_6_8 56 (.idiv) 1 57 := ⟨by decide +kernel, rfl⟩
theorem zd_6_8_57 : zz_D zy_numberFits_6_8 57 (.aload_n 0) 1 58 := ⟨by decide +kernel, rfl⟩
theorem zd_6_8_58 : zz_D zy_numberFits_6_8 58 (.getfield 36) 3 61 := ⟨by decide +kernel, rfl⟩
theorem zd_6_8_61 : zz_B zy_numberFits_6_8 61 (Instr.if_icmp .gt) 68 64 := ⟨7, by decide +kernel, rfl, rfl⟩
theorem zd_6_8_64 : zz_D zy_numberFits_6_8 64 (.iconst 1) 1 65 := ⟨by decide +kernel, rfl⟩
theorem zd_6_8_65 : zz_B zy_numberFits_6_8 65 Instr.goto 69 68 := ⟨4, by decide +kernel, rfl, rfl⟩
theorem zd_6_8_70 : zz_D zy_numberFits_6_8 70 (.iload_n 3) 1 71 := ⟨by decide +kernel, rfl⟩
theorem zd_6_8_71 : zz_D zy_numberFits_6_8 71 (.iconst 2) 1 72 := ⟨by decide +kernel, rfl⟩
theorem zd_6_8_72 : zz_B zy_numberFits_6_8 72 (Instr.if_icmp .gt) 79 75 := ⟨7, by decide +kernel, rfl, rfl⟩
theorem zd_6_8_79 : zz_D zy_numberFits_6_8 79 (.iconst 0) 1 80 := ⟨by decide +kernel, rfl⟩
theorem zd_6_8_80 : zz_D zy_numberFits_6_8 80 (.ireturn) 1 81 := ⟨by decide +kernel, rfl⟩
theorem zd_6_8_75 : zz_D zy_numberFits_6_8 75 (.iconst 1) 1 76 := ⟨by decide +kernel, rfl⟩
theorem zd_6_8_76 : zz_B zy_numberFits_6_8 76 Instr.goto 80 79 := ⟨4, by decide +kernel, rfl, rfl⟩
theorem zd_6_8_81 : zz_D zy_numberFits_6_8 81 (.iconst 1) 1 82 := ⟨by decide +kernel, rfl⟩
theorem zd_6_8_82 : zz_D zy_numberFits_6_8 82 (.ireturn) 1 83 := ⟨by decide +kernel, rfl⟩
-- TensorForge$Machine numberFits (J)Z
abbrev zr_numberFits_6_8 : Room := { frames := 1, cells := 0, slots := 0, locals := 14 }
def zp_numberFits_6_8 (p0 : Int) (S0 : zz_S) : Int → zz_S → Prop := fun r S => S0 = S ∧ (0 ≤ r ∧ r ≤ 1)
theorem zc_numberFits_6_8 {g : mm_G} {l : Launch} (p0 : Int) (S0 : zz_S) (n : Nat) (hn : zz_end ≤ n) (G_S0 : zz_G S0) (hp0 : (-9223372036854775808) ≤ p0 ∧ p0 ≤ 9223372036854775807) : mm_Met g l zy_numberFits_6_8 zr_numberFits_6_8 [.ref 1031, zl p0] (zz_M S0 n) n (zz_QI n (zp_numberFits_6_8 p0 S0)) := by
  refine zz_enter (by decide) (Nat.le_of_ble_eq_true rfl) (zz_less (ls1 := [some (.ref 1031), some (zl p0), none]) ⟨rfl, ⟨rfl, trivial⟩⟩ ?_)
  refine zz_lload_n (x := p0) rfl zd_6_8_0 ?_
  refine zz_bipush (by decide) zd_6_8_1 ?_
  refine zz_callSI [zl p0, zi 11] zd_6_8_3 zk_Machine_72 rfl rfl ⟨Nat.le_of_ble_eq_true rfl, Nat.le_of_ble_eq_true rfl⟩ ⟨rfl, rfl⟩ (Nat.zero_le _) (Nat.zero_le _) (zc_get_12_2x_11 p0 S0 n hn G_S0 (by omega)) (fun v2 S1 hP => ?_)
  obtain ⟨rfl, o3⟩ := hP
  refine zz_istore_n [some (.ref 1031), some (zl p0), none, some (zi v2)] zd_6_8_6 (by decide) rfl ?_
  refine zz_lload_n (x := p0) rfl zd_6_8_7 ?_
  refine zz_iconst zd_6_8_8 ?_
  refine zz_callSI [zl p0, zi 0] zd_6_8_9 zk_Machine_72 rfl rfl ⟨Nat.le_of_ble_eq_true rfl, Nat.le_of_ble_eq_true rfl⟩ ⟨rfl, rfl⟩ (Nat.zero_le _) (Nat.zero_le _) (zc_get_12_2x_0 p0 S0 n hn G_S0 (by omega)) (fun v5 S4 hP => ?_)
  obtain ⟨rfl, o6⟩ := hP
  by_cases c7 : v5 = 5
  · refine zz_swIn 5 36 c7 (by decide) zd_6_8_12 rfl rfl ?_
    refine zz_iload_n (x := v2) rfl zd_6_8_48 ?_
    refine zz_iconst zd_6_8_49 ?_
    refine zz_idiv (by omega) (by omega) zd_6_8_50 (fun v8 hv8 av8 bv8 cv8 => ?_)
    refine zz_if_le (by omega) zd_6_8_51 (fun c9 => ?_) (fun c9 => ?_)
    · refine zz_iconst zd_6_8_68 ?_
      exact zz_zret zd_6_8_69 rfl (by omega) (Nat.zero_le _) (Nat.zero_le _) ⟨_, _, rfl, rfl, by omega⟩
    · refine zz_iload_n (x := v2) rfl zd_6_8_54 ?_
      refine zz_iconst zd_6_8_55 ?_
      refine zz_idiv (by omega) (by omega) zd_6_8_56 (fun v10 hv10 av10 bv10 cv10 => ?_)
      refine zz_aload_n (x := 1031) rfl zd_6_8_57 ?_
      have g11 := zz_G.r G_S0 1031 6 2 8 rfl rfl
      refine zz_geti (z := S0 1031 6) zd_6_8_58 zf_Machine_36 zT_1031 rfl (zz_ltn hn rfl) rfl ?_
      refine zz_icmp_gt (by omega) (by omega) zd_6_8_61 (fun c12 => ?_) (fun c12 => ?_)
      · refine zz_iconst zd_6_8_68 ?_
        exact zz_zret zd_6_8_69 rfl (by omega) (Nat.zero_le _) (Nat.zero_le _) ⟨_, _, rfl, rfl, by omega⟩
      · refine zz_iconst zd_6_8_64 ?_
        refine zz_goto zd_6_8_65 ?_
        exact zz_zret zd_6_8_69 rfl (by omega) (Nat.zero_le _) (Nat.zero_le _) ⟨_, _, rfl, rfl, by omega⟩
  by_cases c13 : v5 = 6
  · refine zz_swIn 6 58 c13 (by decide) zd_6_8_12 rfl rfl ?_
    refine zz_iload_n (x := v2) rfl zd_6_8_70 ?_
    refine zz_iconst zd_6_8_71 ?_
    refine zz_icmp_gt (by omega) (by omega) zd_6_8_72 (fun c14 => ?_) (fun c14 => ?_)
    · refine zz_iconst zd_6_8_79 ?_
      exact zz_zret zd_6_8_80 rfl (by omega) (Nat.zero_le _) (Nat.zero_le _) ⟨_, _, rfl, rfl, by omega⟩
    · refine zz_iconst zd_6_8_75 ?_
      refine zz_goto zd_6_8_76 ?_
      exact zz_zret zd_6_8_80 rfl (by omega) (Nat.zero_le _) (Nat.zero_le _) ⟨_, _, rfl, rfl, by omega⟩
  by_cases c15 : v5 = 7
  · refine zz_swIn 7 69 c15 (by decide) zd_6_8_12 rfl rfl ?_
    refine zz_iconst zd_6_8_81 ?_
    exact zz_zret zd_6_8_82 rfl (by omega) (Nat.zero_le _) (Nat.zero_le _) ⟨_, _, rfl, rfl, by omega⟩
  by_cases c16 : v5 = 8
  · refine zz_swIn 8 69 c16 (by decide) zd_6_8_12 rfl rfl ?_
    refine zz_iconst zd_6_8_81 ?_
    exact zz_zret zd_6_8_82 rfl (by omega) (Nat.zero_le _) (Nat.zero_le _) ⟨_, _, rfl, rfl, by omega⟩
  by_cases c17 : v5 = 9
  · refine zz_swIn 9 58 c17 (by decide) zd_6_8_12 rfl rfl ?_
    refine zz_iload_n (x := v2) rfl zd_6_8_70 ?_
    refine zz_iconst zd_6_8_71 ?_
    refine zz_icmp_gt (by omega) (by omega) zd_6_8_72 (fun c18 => ?_) (fun c18 => ?_)
    · refine zz_iconst zd_6_8_79 ?_
      exact zz_zret zd_6_8_80 rfl (by omega) (Nat.zero_le _) (Nat.zero_le _) ⟨_, _, rfl, rfl, by omega⟩
    · refine zz_iconst zd_6_8_75 ?_
      refine zz_goto zd_6_8_76 ?_
      exact zz_zret zd_6_8_80 rfl (by omega) (Nat.zero_le _) (Nat.zero_le _) ⟨_, _, rfl, rfl, by omega⟩
  refine zz_swOut (by omega) (by omega) zd_6_8_12 rfl ?_
  refine zz_iconst zd_6_8_81 ?_
  exact zz_zret zd_6_8_82 rfl (by omega) (Nat.zero_le _) (Nat.zero_le _) ⟨_, _, rfl, rfl, by omega⟩
theorem zk_Machine_58 : mm_Vl "TensorForge$Machine" 58 3 1 zy_numberFits_6_8 := ⟨zyw_numberFits_6_8, (R_Machine, F_Machine, 14), rfl, mm_tb_1 512 (by decide +kernel) rfl, mm_tb_1 514 (by decide +kernel) rfl, mm_tb_s 1 (by decide +kernel) rfl⟩
theorem zd_6_6_20 : zz_B zy_forbids_6_6 20 (Instr.ifCond .eq) 30 23 := ⟨10, by decide +kernel, rfl, rfl⟩
theorem zd_6_6_23 : zz_D zy_forbids_6_6 23 (.lload_n 1) 1 24 := ⟨by decide +kernel, rfl⟩
theorem zd_6_6_24 : zz_D zy_forbids_6_6 24 (.invokestatic 61) 3 27 := ⟨by decide +kernel, rfl⟩
abbrev zy_tokensFit_6_9 : mm_Y := (⟨"TensorForge$Machine", "tokensFit", "(J)Z"⟩, prog_6_method_9_code, 3, (some .boolean))
theorem zyw_tokensFit_6_9 : mm_Yw zy_tokensFit_6_9 1 := ⟨mm_tb_1 518 (by decide +kernel) rfl, mm_tb_1 4 (by decide +kernel) rfl, ⟨by decide, by decide⟩, by decide +kernel⟩
theorem zd_6_9_0 : zz_D zy_tokensFit_6_9 0 (.lload_n 0) 1 1 := ⟨by decide +kernel, rfl⟩
theorem zd_6_9_1 : zz_D zy_tokensFit_6_9 1 (.invokestatic 76) 3 4 := ⟨by decide +kernel, rfl⟩
abbrev zy_unitOf_12_10 : mm_Y := (⟨"TensorForge$Words", "unitOf", "(J)I"⟩, prog_12_method_10_code, 3, (some .int))
theorem zyw_unitOf_12_10 : mm_Yw zy_unitOf_12_10 1 := ⟨mm_tb_1 521 (by decide +kernel) rfl, mm_tb_1 20 (by decide +kernel) rfl, ⟨by decide, by decide⟩, by decide +kernel⟩
theorem zd_12_10_0 : zz_D zy_unitOf_12_10 0 (.lload_n 0) 1 1 := ⟨by decide +kernel, rfl⟩
theorem zd_12_10_1 : zz_D zy_unitOf_12_10 1 (.iconst 0) 1 2 := ⟨by decide +kernel, rfl⟩
theorem zd_12_10_2 : zz_D zy_unitOf_12_10 2 (.invokestatic 16) 3 5 := ⟨by decide +kernel, rfl⟩
theorem zd_12_10_5 : zz_D zy_unitOf_12_10 5 (.istore_n 2) 1 6 := ⟨by decide +kernel, rfl⟩
theorem zd_12_10_6 : zz_D zy_unitOf_12_10 6 (.iload_n 2) 1 7 := ⟨by decide +kernel, rfl⟩
theorem zd_12_10_7 : zz_D zy_unitOf_12_10 7 (.bipush 9) 2 9 := ⟨by decide +kernel, rfl⟩
theorem zd_12_10_9 : zz_B zy_unitOf_12_10 9 (Instr.if_icmp .ne) 19 12 := ⟨10, by decide +kernel, rfl, rfl⟩
theorem zd_12_10_19 : zz_D zy_unitOf_12_10 19 (.iload_n 2) 1 20 := ⟨by decide +kernel, rfl⟩
theorem zd_12_10_20 : zz_D zy_unitOf_12_10 20 (.bipush 8) 2 22 := ⟨by decide +kernel, rfl⟩
theorem zd_12_10_22 : zz_B zy_unitOf_12_10 22 (Instr.if_icmp .ne) 27 25 := ⟨5, by decide +kernel, rfl, rfl⟩
theorem zd_12_10_27 : zz_D zy_unitOf_12_10 27 (.iload_n 2) 1 28 := ⟨by decide +kernel, rfl⟩
theorem zd_12_10_28 : zz_D zy_unitOf_12_10 28 (.iconst 5) 1 29 := ⟨by decide +kernel, rfl⟩
theorem zd_12_10_29 : zz_B zy_unitOf_12_10 29 (Instr.if_icmp .lt) 36 32 := ⟨7, by decide +kernel, rfl, rfl⟩
theorem zd_12_10_36 : zz_D zy_unitOf_12_10 36 (.iconst 0) 1 37 := ⟨by decide +kernel, rfl⟩
theorem zd_12_10_37 : zz_D zy_unitOf_12_10 37 (.ireturn) 1 38 := ⟨by decide +kernel, rfl⟩
theorem zd_12_10_32 : zz_D zy_unitOf_12_10 32 (.iconst 1) 1 33 := ⟨by decide +kernel, rfl⟩
theorem zd_12_10_33 : zz_B zy_unitOf_12_10 33 Instr.goto 37 36 := ⟨4, by decide +kernel, rfl, rfl⟩
theorem zd_12_10_25 : zz_D zy_unitOf_12_10 25 (.iconst 2) 1 26 := ⟨by decide +kernel, rfl⟩
theorem zd_12_10_26 : zz_D zy_unitOf_12_10 26 (.ireturn) 1 27 := ⟨by decide +kernel, rfl⟩
theorem zd_12_10_12 : zz_D zy_unitOf_12_10 12 (.lload_n 0) 1 13 := ⟨by decide +kernel, rfl⟩
theorem zd_12_10_13 : zz_D zy_unitOf_12_10 13 (.bipush 11) 2 15 := ⟨by decide +kernel, rfl⟩
theorem zd_12_10_15 : zz_D zy_unitOf_12_10 15 (.invokestatic 16) 3 18 := ⟨by decide +kernel, rfl⟩
theorem zd_12_10_18 : zz_D zy_unitOf_12_10 18 (.ireturn) 1 19 := ⟨by decide +kernel, rfl⟩
-- TensorForge$Words unitOf (J)I
abbrev zr_unitOf_12_10 : Room := { frames := 1, cells := 0, slots := 0, locals := 14 }
def zp_unitOf_12_10 (p0 : Int) (S0 : zz_S) : Int → zz_S → Prop := fun r S => S0 = S ∧ ((-2147483648) ≤ r ∧ r ≤ 2147483647)
theorem zc_unitOf_12_10 {g : mm_G} {l : Launch} (p0 : Int) (S0 : zz_S) (n : Nat) (hn : zz_end ≤ n) (G_S0 : zz_G S0) (hp0 : (-9223372036854775808) ≤ p0 ∧ p0 ≤ 9223372036854775807) : mm_Met g l zy_unitOf_12_10 zr_unitOf_12_10 [zl p0] (zz_M S0 n) n (zz_QI n (zp_unitOf_12_10 p0 S0)) := by
  refine zz_enter (by decide) (Nat.le_of_ble_eq_true rfl) (zz_less (ls1 := [some (zl p0), none]) ⟨rfl, trivial⟩ ?_)
  refine zz_lload_n (x := p0) rfl zd_12_10_0 ?_
  refine zz_iconst zd_12_10_1 ?_
  refine zz_callSI [zl p0, zi 0] zd_12_10_2 zk_Words_16 rfl rfl ⟨Nat.le_of_ble_eq_true rfl, Nat.le_of_ble_eq_true rfl⟩ ⟨rfl, rfl⟩ (Nat.zero_le _) (Nat.zero_le _) (zc_get_12_2x_0 p0 S0 n hn G_S0 (by omega)) (fun v2 S1 hP => ?_)
  obtain ⟨rfl, o3⟩ := hP
  refine zz_istore_n [some (zl p0), none, some (zi v2)] zd_12_10_5 (by decide) rfl ?_
  refine zz_iload_n (x := v2) rfl zd_12_10_6 ?_
  refine zz_bipush (by decide) zd_12_10_7 ?_
  refine zz_icmp_ne (by omega) (by omega) zd_12_10_9 (fun c4 => ?_) (fun c4 => ?_)
  · refine zz_iload_n (x := v2) rfl zd_12_10_19 ?_
    refine zz_bipush (by decide) zd_12_10_20 ?_
    refine zz_icmp_ne (by omega) (by omega) zd_12_10_22 (fun c5 => ?_) (fun c5 => ?_)
    · refine zz_iload_n (x := v2) rfl zd_12_10_27 ?_
      refine zz_iconst zd_12_10_28 ?_
      refine zz_icmp_lt (by omega) (by omega) zd_12_10_29 (fun c6 => ?_) (fun c6 => ?_)
      · refine zz_iconst zd_12_10_36 ?_
        exact zz_iret zd_12_10_37 rfl (Nat.zero_le _) (Nat.zero_le _) ⟨_, _, rfl, rfl, by omega⟩
      · refine zz_iconst zd_12_10_32 ?_
        refine zz_goto zd_12_10_33 ?_
        exact zz_iret zd_12_10_37 rfl (Nat.zero_le _) (Nat.zero_le _) ⟨_, _, rfl, rfl, by omega⟩
    · refine zz_iconst zd_12_10_25 ?_
      exact zz_iret zd_12_10_26 rfl (Nat.zero_le _) (Nat.zero_le _) ⟨_, _, rfl, rfl, by omega⟩
  · refine zz_lload_n (x := p0) rfl zd_12_10_12 ?_
    refine zz_bipush (by decide) zd_12_10_13 ?_
    refine zz_callSI [zl p0, zi 11] zd_12_10_15 zk_Words_16 rfl rfl ⟨Nat.le_of_ble_eq_true rfl, Nat.le_of_ble_eq_true rfl⟩ ⟨rfl, rfl⟩ (Nat.zero_le _) (Nat.zero_le _) (zc_get_12_2x_11 p0 S0 n hn G_S0 (by omega)) (fun v8 S7 hP => ?_)
    obtain ⟨rfl, o9⟩ := hP
    exact zz_iret zd_12_10_18 rfl (Nat.zero_le _) (Nat.zero_le _) ⟨_, _, rfl, rfl, by omega⟩
theorem zk_Machine_76 : mm_Sl "TensorForge$Machine" 76 1 zy_unitOf_12_10 := ⟨zyw_unitOf_12_10, mm_tb_1 519 (by decide +kernel) rfl, mm_tb_1 520 (by decide +kernel) rfl⟩
theorem zd_6_9_4 : zz_D zy_tokensFit_6_9 4 (.istore_n 2) 1 5 := ⟨by decide +kernel, rfl⟩
theorem zd_6_9_5 : zz_D zy_tokensFit_6_9 5 (.iload_n 2) 1 6 := ⟨by decide +kernel, rfl⟩
theorem zd_6_9_6 : zz_B zy_tokensFit_6_9 6 (Instr.ifCond .ne) 31 9 := ⟨25, by decide +kernel, rfl, rfl⟩
theorem zd_6_9_31 : zz_D zy_tokensFit_6_9 31 (.iload_n 2) 1 32 := ⟨by decide +kernel, rfl⟩
theorem zd_6_9_32 : zz_D zy_tokensFit_6_9 32 (.iconst 2) 1 33 := ⟨by decide +kernel, rfl⟩
theorem zd_6_9_33 : zz_B zy_tokensFit_6_9 33 (Instr.if_icmp .ne) 52 36 := ⟨19, by decide +kernel, rfl, rfl⟩
theorem zd_6_9_52 : zz_D zy_tokensFit_6_9 52 (.iconst 1) 1 53 := ⟨by decide +kernel, rfl⟩
theorem zd_6_9_53 : zz_B zy_tokensFit_6_9 53 Instr.goto 57 56 := ⟨4, by decide +kernel, rfl, rfl⟩
theorem zd_6_9_57 : zz_D zy_tokensFit_6_9 57 (.ireturn) 1 58 := ⟨by decide +kernel, rfl⟩
theorem zd_6_9_36 : zz_D zy_tokensFit_6_9 36 (.lload_n 0) 1 37 := ⟨by decide +kernel, rfl⟩
theorem zd_6_9_37 : zz_D zy_tokensFit_6_9 37 (.iconst 2) 1 38 := ⟨by decide +kernel, rfl⟩
theorem zd_6_9_38 : zz_D zy_tokensFit_6_9 38 (.invokestatic 80) 3 41 := ⟨by decide +kernel, rfl⟩
theorem zk_Machine_80 : mm_Sl "TensorForge$Machine" 80 2 zy_has_12_3 := ⟨zyw_has_12_3, mm_tb_1 522 (by decide +kernel) rfl, mm_tb_1 505 (by decide +kernel) rfl⟩
theorem zd_6_9_41 : zz_B zy_tokensFit_6_9 41 (Instr.ifCond .ne) 56 44 := ⟨15, by decide +kernel, rfl, rfl⟩
theorem zd_6_9_44 : zz_D zy_tokensFit_6_9 44 (.lload_n 0) 1 45 := ⟨by decide +kernel, rfl⟩
theorem zd_6_9_45 : zz_D zy_tokensFit_6_9 45 (.iconst 4) 1 46 := ⟨by decide +kernel, rfl⟩
theorem zd_6_9_46 : zz_D zy_tokensFit_6_9 46 (.invokestatic 80) 3 49 := ⟨by decide +kernel, rfl⟩
theorem zd_6_9_49 : zz_B zy_tokensFit_6_9 49 (Instr.ifCond .ne) 56 52 := ⟨7, by decide +kernel, rfl, rfl⟩
theorem zd_6_9_56 : zz_D zy_tokensFit_6_9 56 (.iconst 0) 1 57 := ⟨by decide +kernel, rfl⟩
theorem zd_6_9_9 : zz_D zy_tokensFit_6_9 9 (.lload_n 0) 1 10 := ⟨by decide +kernel, rfl⟩
theorem zd_6_9_10 : zz_D zy_tokensFit_6_9 10 (.iconst 1) 1 11 := ⟨by decide +kernel, rfl⟩
theorem zd_6_9_11 : zz_D zy_tokensFit_6_9 11 (.invokestatic 80) 3 14 := ⟨by decide +kernel, rfl⟩
theorem zd_6_9_14 : zz_B zy_tokensFit_6_9 14 (Instr.ifCond .ne) 29 17 := ⟨15, by decide +kernel, rfl, rfl⟩
theorem zd_6_9_17 : zz_D zy_tokensFit_6_9 17 (.lload_n 0) 1 18 := ⟨by decide +kernel, rfl⟩
theorem zd_6_9_18 : zz_D zy_tokensFit_6_9 18 (.iconst 3) 1 19 := ⟨by decide +kernel, rfl⟩
theorem zd_6_9_19 : zz_D zy_tokensFit_6_9 19 (.invokestatic 80) 3 22 := ⟨by decide +kernel, rfl⟩
theorem zd_6_9_22 : zz_B zy_tokensFit_6_9 22 (Instr.ifCond .ne) 29 25 := ⟨7, by decide +kernel, rfl, rfl⟩
theorem zd_6_9_25 : zz_D zy_tokensFit_6_9 25 (.iconst 1) 1 26 := ⟨by decide +kernel, rfl⟩
theorem zd_6_9_26 : zz_B zy_tokensFit_6_9 26 Instr.goto 30 29 := ⟨4, by decide +kernel, rfl, rfl⟩
theorem zd_6_9_30 : zz_D zy_tokensFit_6_9 30 (.ireturn) 1 31 := ⟨by decide +kernel, rfl⟩
theorem zd_6_9_29 : zz_D zy_tokensFit_6_9 29 (.iconst 0) 1 30 := ⟨by decide +kernel, rfl⟩
-- TensorForge$Machine tokensFit (J)Z
abbrev zr_tokensFit_6_9 : Room := { frames := 2, cells := 0, slots := 0, locals := 28 }
def zp_tokensFit_6_9 (p0 : Int) (S0 : zz_S) : Int → zz_S → Prop := fun r S => S0 = S ∧ (0 ≤ r ∧ r ≤ 1)
theorem zc_tokensFit_6_9 {g : mm_G} {l : Launch} (p0 : Int) (S0 : zz_S) (n : Nat) (hn : zz_end ≤ n) (G_S0 : zz_G S0) (hp0 : (-9223372036854775808) ≤ p0 ∧ p0 ≤ 9223372036854775807) : mm_Met g l zy_tokensFit_6_9 zr_tokensFit_6_9 [zl p0] (zz_M S0 n) n (zz_QI n (zp_tokensFit_6_9 p0 S0)) := by
  refine zz_enter (by decide) (Nat.le_of_ble_eq_true rfl) (zz_less (ls1 := [some (zl p0), none]) ⟨rfl, trivial⟩ ?_)
  refine zz_lload_n (x := p0) rfl zd_6_9_0 ?_
  refine zz_callSI [zl p0] zd_6_9_1 zk_Machine_76 rfl rfl ⟨Nat.le_of_ble_eq_true rfl, Nat.le_of_ble_eq_true rfl⟩ ⟨rfl, rfl⟩ (Nat.zero_le _) (Nat.zero_le _) (zc_unitOf_12_10 p0 S0 n hn G_S0 (by omega)) (fun v2 S1 hP => ?_)
  obtain ⟨rfl, o3⟩ := hP
  refine zz_istore_n [some (zl p0), none, some (zi v2)] zd_6_9_4 (by decide) rfl ?_
  refine zz_iload_n (x := v2) rfl zd_6_9_5 ?_
  refine zz_if_ne (by omega) zd_6_9_6 (fun c4 => ?_) (fun c4 => ?_)
  · refine zz_iload_n (x := v2) rfl zd_6_9_31 ?_
    refine zz_iconst zd_6_9_32 ?_
    refine zz_icmp_ne (by omega) (by omega) zd_6_9_33 (fun c5 => ?_) (fun c5 => ?_)
    · refine zz_iconst zd_6_9_52 ?_
      refine zz_goto zd_6_9_53 ?_
      exact zz_zret zd_6_9_57 rfl (by omega) (Nat.zero_le _) (Nat.zero_le _) ⟨_, _, rfl, rfl, by omega⟩
    · refine zz_lload_n (x := p0) rfl zd_6_9_36 ?_
      refine zz_iconst zd_6_9_37 ?_
      refine zz_callSI [zl p0, zi 2] zd_6_9_38 zk_Machine_80 rfl rfl ⟨Nat.le_of_ble_eq_true rfl, Nat.le_of_ble_eq_true rfl⟩ ⟨rfl, rfl⟩ (Nat.zero_le _) (Nat.zero_le _) (zc_has_12_3 p0 2 S0 n hn G_S0 (by omega) (by omega)) (fun v7 S6 hP => ?_)
      obtain ⟨rfl, o8⟩ := hP
      rcases (by omega : v7 = 0 ∨ v7 = 1) with rfl | rfl
      · refine zz_if_ne (by omega) zd_6_9_41 (fun c9 => ?_) (fun c9 => ?_)
        · exfalso; omega
        · refine zz_lload_n (x := p0) rfl zd_6_9_44 ?_
          refine zz_iconst zd_6_9_45 ?_
          refine zz_callSI [zl p0, zi 4] zd_6_9_46 zk_Machine_80 rfl rfl ⟨Nat.le_of_ble_eq_true rfl, Nat.le_of_ble_eq_true rfl⟩ ⟨rfl, rfl⟩ (Nat.zero_le _) (Nat.zero_le _) (zc_has_12_3 p0 4 S0 n hn G_S0 (by omega) (by omega)) (fun v11 S10 hP => ?_)
          obtain ⟨rfl, o12⟩ := hP
          rcases (by omega : v11 = 0 ∨ v11 = 1) with rfl | rfl
          · refine zz_if_ne (by omega) zd_6_9_49 (fun c13 => ?_) (fun c13 => ?_)
            · exfalso; omega
            · refine zz_iconst zd_6_9_52 ?_
              refine zz_goto zd_6_9_53 ?_
              exact zz_zret zd_6_9_57 rfl (by omega) (Nat.zero_le _) (Nat.zero_le _) ⟨_, _, rfl, rfl, by omega⟩
          · refine zz_if_ne (by omega) zd_6_9_49 (fun c14 => ?_) (fun c14 => ?_)
            · refine zz_iconst zd_6_9_56 ?_
              exact zz_zret zd_6_9_57 rfl (by omega) (Nat.zero_le _) (Nat.zero_le _) ⟨_, _, rfl, rfl, by omega⟩
            · exfalso; omega
      · refine zz_if_ne (by omega) zd_6_9_41 (fun c15 => ?_) (fun c15 => ?_)
        · refine zz_iconst zd_6_9_56 ?_
          exact zz_zret zd_6_9_57 rfl (by omega) (Nat.zero_le _) (Nat.zero_le _) ⟨_, _, rfl, rfl, by omega⟩
        · exfalso; omega
  · refine zz_lload_n (x := p0) rfl zd_6_9_9 ?_
    refine zz_iconst zd_6_9_10 ?_
    refine zz_callSI [zl p0, zi 1] zd_6_9_11 zk_Machine_80 rfl rfl ⟨Nat.le_of_ble_eq_true rfl, Nat.le_of_ble_eq_true rfl⟩ ⟨rfl, rfl⟩ (Nat.zero_le _) (Nat.zero_le _) (zc_has_12_3 p0 1 S0 n hn G_S0 (by omega) (by omega)) (fun v17 S16 hP => ?_)
    obtain ⟨rfl, o18⟩ := hP
    rcases (by omega : v17 = 0 ∨ v17 = 1) with rfl | rfl
    · refine zz_if_ne (by omega) zd_6_9_14 (fun c19 => ?_) (fun c19 => ?_)
      · exfalso; omega
      · refine zz_lload_n (x := p0) rfl zd_6_9_17 ?_
        refine zz_iconst zd_6_9_18 ?_
        refine zz_callSI [zl p0, zi 3] zd_6_9_19 zk_Machine_80 rfl rfl ⟨Nat.le_of_ble_eq_true rfl, Nat.le_of_ble_eq_true rfl⟩ ⟨rfl, rfl⟩ (Nat.zero_le _) (Nat.zero_le _) (zc_has_12_3 p0 3 S0 n hn G_S0 (by omega) (by omega)) (fun v21 S20 hP => ?_)
        obtain ⟨rfl, o22⟩ := hP
        rcases (by omega : v21 = 0 ∨ v21 = 1) with rfl | rfl
        · refine zz_if_ne (by omega) zd_6_9_22 (fun c23 => ?_) (fun c23 => ?_)
          · exfalso; omega
          · refine zz_iconst zd_6_9_25 ?_
            refine zz_goto zd_6_9_26 ?_
            exact zz_zret zd_6_9_30 rfl (by omega) (Nat.zero_le _) (Nat.zero_le _) ⟨_, _, rfl, rfl, by omega⟩
        · refine zz_if_ne (by omega) zd_6_9_22 (fun c24 => ?_) (fun c24 => ?_)
          · refine zz_iconst zd_6_9_29 ?_
            exact zz_zret zd_6_9_30 rfl (by omega) (Nat.zero_le _) (Nat.zero_le _) ⟨_, _, rfl, rfl, by omega⟩
          · exfalso; omega
    · refine zz_if_ne (by omega) zd_6_9_14 (fun c25 => ?_) (fun c25 => ?_)
      · refine zz_iconst zd_6_9_29 ?_
        exact zz_zret zd_6_9_30 rfl (by omega) (Nat.zero_le _) (Nat.zero_le _) ⟨_, _, rfl, rfl, by omega⟩
      · exfalso; omega
theorem zk_Machine_61 : mm_Sl "TensorForge$Machine" 61 1 zy_tokensFit_6_9 := ⟨zyw_tokensFit_6_9, mm_tb_1 516 (by decide +kernel) rfl, mm_tb_1 517 (by decide +kernel) rfl⟩
theorem zd_6_6_27 : zz_B zy_forbids_6_6 27 (Instr.ifCond .ne) 32 30 := ⟨5, by decide +kernel, rfl, rfl⟩
theorem zd_6_6_32 : zz_D zy_forbids_6_6 32 (.aload_n 0) 1 33 := ⟨by decide +kernel, rfl⟩
theorem zd_6_6_33 : zz_D zy_forbids_6_6 33 (.getfield 32) 3 36 := ⟨by decide +kernel, rfl⟩
theorem zf_Machine_32 : mm_Fl "TensorForge$Machine" 32 3 5 (.object "TensorForge$Reaches") true := ⟨R_Machine, F_Machine, 14, t_Machine, rfl, i_Machine, by decide, mm_tb_1 190 (by decide +kernel) rfl, rfl, t_Machine_ok, n_Machine, rfl, by decide +kernel⟩
theorem zd_6_6_36 : zz_D zy_forbids_6_6 36 (.lload_n 1) 1 37 := ⟨by decide +kernel, rfl⟩
theorem zd_6_6_37 : zz_D zy_forbids_6_6 37 (.aload_n 0) 1 38 := ⟨by decide +kernel, rfl⟩
theorem zd_6_6_38 : zz_D zy_forbids_6_6 38 (.getfield 36) 3 41 := ⟨by decide +kernel, rfl⟩
theorem zd_6_6_41 : zz_D zy_forbids_6_6 41 (.invokevirtual 64) 3 44 := ⟨by decide +kernel, rfl⟩
abbrev zy_take_9_2 : mm_Y := (⟨"TensorForge$Reaches", "take", "(JI)V"⟩, prog_9_method_2_code, 12, none)
theorem zyw_take_9_2 : mm_Yw zy_take_9_2 2 := ⟨mm_tb_1 526 (by decide +kernel) rfl, mm_tb_1 5 (by decide +kernel) rfl, ⟨by decide, by decide⟩, by decide +kernel⟩
theorem zd_9_2_0 : zz_D zy_take_9_2 0 (.aload_n 0) 1 1 := ⟨by decide +kernel, rfl⟩
theorem zd_9_2_1 : zz_D zy_take_9_2 1 (.invokevirtual 24) 3 4 := ⟨by decide +kernel, rfl⟩
abbrev zy_forget_9_7 : mm_Y := (⟨"TensorForge$Reaches", "forget", "()V"⟩, prog_9_method_7_code, 1, none)
theorem zyw_forget_9_7 : mm_Yw zy_forget_9_7 0 := ⟨mm_tb_1 530 (by decide +kernel) rfl, mm_tb_1 5 (by decide +kernel) rfl, ⟨by decide, by decide⟩, by decide +kernel⟩
theorem zd_9_7_0 : zz_D zy_forget_9_7 0 (.aload_n 0) 1 1 := ⟨by decide +kernel, rfl⟩
theorem zd_9_7_1 : zz_D zy_forget_9_7 1 (.getfield 11) 3 4 := ⟨by decide +kernel, rfl⟩
theorem zf_Reaches_11 : mm_Fl "TensorForge$Reaches" 11 4 0 (.array .int) true := ⟨R_Reaches, F_Reaches, 4, t_Reaches, rfl, i_Reaches, by decide, mm_tb_1 168 (by decide +kernel) rfl, rfl, t_Reaches_ok, n_Reaches, rfl, by decide +kernel⟩
theorem zd_9_7_4 : zz_D zy_forget_9_7 4 (.iconst 0) 1 5 := ⟨by decide +kernel, rfl⟩
theorem zd_9_7_5 : zz_D zy_forget_9_7 5 (.invokestatic 55) 3 8 := ⟨by decide +kernel, rfl⟩
-- java/util/Arrays fill ([II)V
abbrev zr_fill_27_103_k5a1 : Room := { frames := 0, cells := 0, slots := 0, locals := 0 }
def zp_fill_27_103_k5a1 (q0 : Int) (p1 : Int) (S0 : zz_S) : zz_S → Prop := fun S => zz_G S ∧ zz_fr [] [] (fun a i => a = zz_rf 5 q0 + 1) S0 S
theorem zb_fill_27_103_k5a1_5 {g : mm_G} {l : Launch} (q0 : Int) (p1 : Int) (S0 : zz_S) (n : Nat) (hn : zz_end ≤ n) (G_S0 : zz_G S0) (hq0 : 0 ≤ q0 ∧ q0 ≤ 4) (hp1 : (-2147483648) ≤ p1 ∧ p1 ≤ 2147483647) (x2 : Int) (S : zz_S) (G_S : zz_G S) (F_S : zz_fr [] [] (fun a i => a = zz_rf 5 q0 + 1) S0 S) (i5_0 : 0 ≤ x2 ∧ x2 ≤ 5) (R : Nat) (hR : (5 - x2).toNat = R) (k5 : ∀ (x2 : Int) (S : zz_S), zz_G S → zz_fr [] [] (fun a i => a = zz_rf 5 q0 + 1) S0 S → (0 ≤ x2 ∧ x2 ≤ 5) → (5 - x2).toNat < R → zz_E g l zy_fill_27_103 zr_fill_27_103_k5a1 (zz_QV n (zp_fill_27_103_k5a1 q0 p1 S0)) S n 5 [some (.ref (zz_rf 5 q0 + 1)), some (zi p1), some (zi x2), some (zi 5)] [] 0 0) : zz_E g l zy_fill_27_103 zr_fill_27_103_k5a1 (zz_QV n (zp_fill_27_103_k5a1 q0 p1 S0)) S n 5 [some (.ref (zz_rf 5 q0 + 1)), some (zi p1), some (zi x2), some (zi 5)] [] 0 0 := by
  have b_q0 := zz_rf5 (z := q0) (by omega)
  refine zz_iload_n (x := x2) rfl zd_27_103_5 ?_
  refine zz_iload_n (x := 5) rfl zd_27_103_6 ?_
  refine zz_icmp_ge (by omega) (by omega) zd_27_103_7 (fun c1 => ?_) (fun c1 => ?_)
  · exact zz_vret zd_27_103_20 rfl (Nat.zero_le _) (Nat.zero_le _) ⟨_, rfl, G_S, F_S⟩
  · refine zz_aload_n (x := zz_rf 5 q0 + 1) rfl zd_27_103_10 ?_
    refine zz_iload_n (x := x2) rfl zd_27_103_11 ?_
    refine zz_iload_n (x := p1) rfl zd_27_103_12 ?_
    refine zz_iast zd_27_103_13 (zT_k5a1 (by omega)) rfl (zN_k5a1 hn (by omega)) (by decide) (by omega) (fun S2 qS2 => ?_)
    have G_S2 := zz_G.put G_S qS2 (-2147483648) 2147483647 (zR_k5a1 (by omega)) (by omega)
    have F_S2 := zz_fr.putv F_S qS2 (rfl)
    refine zz_iinc [some (.ref (zz_rf 5 q0 + 1)), some (zi p1), some (zi (x2 + 1)), some (zi 5)] zd_27_103_14 rfl rfl ?_
    refine zz_goto zd_27_103_17 ?_
    refine zz_less (ls1 := [some (.ref (zz_rf 5 q0 + 1)), some (zi p1), some (zi (x2 + 1)), some (zi 5)]) ⟨rfl, ⟨rfl, ⟨rfl, ⟨rfl, trivial⟩⟩⟩⟩ ?_
    exact k5 (x2 + 1) S2 G_S2 F_S2 (by omega) (by omega)
theorem zi_fill_27_103_k5a1 {g : mm_G} {l : Launch} (q0 : Int) (p1 : Int) (S0 : zz_S) (n : Nat) (hn : zz_end ≤ n) (G_S0 : zz_G S0) (hq0 : 0 ≤ q0 ∧ q0 ≤ 4) (hp1 : (-2147483648) ≤ p1 ∧ p1 ≤ 2147483647) : ∀ N : Nat, (∀ (x2 : Int) (S : zz_S), zz_G S → zz_fr [] [] (fun a i => a = zz_rf 5 q0 + 1) S0 S → (0 ≤ x2 ∧ x2 ≤ 5) → (5 - x2).toNat < N → zz_E g l zy_fill_27_103 zr_fill_27_103_k5a1 (zz_QV n (zp_fill_27_103_k5a1 q0 p1 S0)) S n 5 [some (.ref (zz_rf 5 q0 + 1)), some (zi p1), some (zi x2), some (zi 5)] [] 0 0) := by
  intro N
  induction N with
  | zero => exact fun x2 S _ _ _ h => absurd h (Nat.not_lt_zero _)
  | succ N ih =>
    exact fun x2 S a b j0 hR => zb_fill_27_103_k5a1_5 q0 p1 S0 n hn G_S0 hq0 hp1 x2 S a b j0 _ rfl (fun x2 S a b j0 h => ih x2 S a b j0 (Nat.lt_of_lt_of_le h (Nat.le_of_lt_succ hR)))
theorem zc_fill_27_103_k5a1 {g : mm_G} {l : Launch} (q0 : Int) (p1 : Int) (S0 : zz_S) (n : Nat) (hn : zz_end ≤ n) (G_S0 : zz_G S0) (hq0 : 0 ≤ q0 ∧ q0 ≤ 4) (hp1 : (-2147483648) ≤ p1 ∧ p1 ≤ 2147483647) : mm_Met g l zy_fill_27_103 zr_fill_27_103_k5a1 [.ref (zz_rf 5 q0 + 1), zi p1] (zz_M S0 n) n (zz_QV n (zp_fill_27_103_k5a1 q0 p1 S0)) := by
  refine zz_enter (by decide) (Nat.le_of_ble_eq_true rfl) (zz_less (ls1 := [some (.ref (zz_rf 5 q0 + 1)), some (zi p1)]) ⟨rfl, ⟨rfl, trivial⟩⟩ ?_)
  have F_S0 : zz_fr [] [] (fun a i => a = zz_rf 5 q0 + 1) S0 S0 := zz_fr.refl
  have k5 : ∀ (x2 : Int) (S : zz_S), zz_G S → zz_fr [] [] (fun a i => a = zz_rf 5 q0 + 1) S0 S → (0 ≤ x2 ∧ x2 ≤ 5) → zz_E g l zy_fill_27_103 zr_fill_27_103_k5a1 (zz_QV n (zp_fill_27_103_k5a1 q0 p1 S0)) S n 5 [some (.ref (zz_rf 5 q0 + 1)), some (zi p1), some (zi x2), some (zi 5)] [] 0 0 := fun x2 S a b j0 => (zi_fill_27_103_k5a1 (g := g) (l := l) q0 p1 S0 n hn G_S0 hq0 hp1 _) x2 S a b j0 (Nat.lt_succ_self _)
  have b_q0 := zz_rf5 (z := q0) (by omega)
  refine zz_iconst zd_27_103_0 ?_
  refine zz_istore_n [some (.ref (zz_rf 5 q0 + 1)), some (zi p1), some (zi 0)] zd_27_103_1 (by decide) rfl ?_
  refine zz_aload_n (x := zz_rf 5 q0 + 1) rfl zd_27_103_2 ?_
  refine zz_alen zd_27_103_3 (zT_k5a1 (by omega)) rfl (zN_k5a1 hn (by omega)) ?_
  refine zz_istore_n [some (.ref (zz_rf 5 q0 + 1)), some (zi p1), some (zi 0), some (zi 5)] zd_27_103_4 (by decide) rfl ?_
  refine zz_less (ls1 := [some (.ref (zz_rf 5 q0 + 1)), some (zi p1), some (zi 0), some (zi 5)]) ⟨rfl, ⟨rfl, ⟨rfl, ⟨rfl, trivial⟩⟩⟩⟩ ?_
  exact k5 0 S0 G_S0 F_S0 (by omega)
theorem zk_Reaches_55 : mm_Sl "TensorForge$Reaches" 55 2 zy_fill_27_103 := ⟨zyw_fill_27_103, mm_tb_1 531 (by decide +kernel) rfl, mm_tb_1 532 (by decide +kernel) rfl⟩
theorem zd_9_7_8 : zz_D zy_forget_9_7 8 (.aload_n 0) 1 9 := ⟨by decide +kernel, rfl⟩
theorem zd_9_7_9 : zz_D zy_forget_9_7 9 (.getfield 15) 3 12 := ⟨by decide +kernel, rfl⟩
theorem zf_Reaches_15 : mm_Fl "TensorForge$Reaches" 15 4 1 (.array .int) true := ⟨R_Reaches, F_Reaches, 4, t_Reaches, rfl, i_Reaches, by decide, mm_tb_1 169 (by decide +kernel) rfl, rfl, t_Reaches_ok, n_Reaches, rfl, by decide +kernel⟩
theorem zd_9_7_12 : zz_D zy_forget_9_7 12 (.iconst (-1)) 1 13 := ⟨by decide +kernel, rfl⟩
theorem zd_9_7_13 : zz_D zy_forget_9_7 13 (.invokestatic 55) 3 16 := ⟨by decide +kernel, rfl⟩
-- java/util/Arrays fill ([II)V
abbrev zr_fill_27_103_k5a2 : Room := { frames := 0, cells := 0, slots := 0, locals := 0 }
def zp_fill_27_103_k5a2 (q0 : Int) (p1 : Int) (S0 : zz_S) : zz_S → Prop := fun S => zz_G S ∧ zz_fr [] [] (fun a i => a = zz_rf 5 q0 + 2) S0 S
theorem zb_fill_27_103_k5a2_5 {g : mm_G} {l : Launch} (q0 : Int) (p1 : Int) (S0 : zz_S) (n : Nat) (hn : zz_end ≤ n) (G_S0 : zz_G S0) (hq0 : 0 ≤ q0 ∧ q0 ≤ 4) (hp1 : (-2147483648) ≤ p1 ∧ p1 ≤ 2147483647) (x2 : Int) (S : zz_S) (G_S : zz_G S) (F_S : zz_fr [] [] (fun a i => a = zz_rf 5 q0 + 2) S0 S) (i5_0 : 0 ≤ x2 ∧ x2 ≤ 5) (R : Nat) (hR : (5 - x2).toNat = R) (k5 : ∀ (x2 : Int) (S : zz_S), zz_G S → zz_fr [] [] (fun a i => a = zz_rf 5 q0 + 2) S0 S → (0 ≤ x2 ∧ x2 ≤ 5) → (5 - x2).toNat < R → zz_E g l zy_fill_27_103 zr_fill_27_103_k5a2 (zz_QV n (zp_fill_27_103_k5a2 q0 p1 S0)) S n 5 [some (.ref (zz_rf 5 q0 + 2)), some (zi p1), some (zi x2), some (zi 5)] [] 0 0) : zz_E g l zy_fill_27_103 zr_fill_27_103_k5a2 (zz_QV n (zp_fill_27_103_k5a2 q0 p1 S0)) S n 5 [some (.ref (zz_rf 5 q0 + 2)), some (zi p1), some (zi x2), some (zi 5)] [] 0 0 := by
  have b_q0 := zz_rf5 (z := q0) (by omega)
  refine zz_iload_n (x := x2) rfl zd_27_103_5 ?_
  refine zz_iload_n (x := 5) rfl zd_27_103_6 ?_
  refine zz_icmp_ge (by omega) (by omega) zd_27_103_7 (fun c1 => ?_) (fun c1 => ?_)
  · exact zz_vret zd_27_103_20 rfl (Nat.zero_le _) (Nat.zero_le _) ⟨_, rfl, G_S, F_S⟩
  · refine zz_aload_n (x := zz_rf 5 q0 + 2) rfl zd_27_103_10 ?_
    refine zz_iload_n (x := x2) rfl zd_27_103_11 ?_
    refine zz_iload_n (x := p1) rfl zd_27_103_12 ?_
    refine zz_iast zd_27_103_13 (zT_k5a2 (by omega)) rfl (zN_k5a2 hn (by omega)) (by decide) (by omega) (fun S2 qS2 => ?_)
    have G_S2 := zz_G.put G_S qS2 (-2147483648) 2147483647 (zR_k5a2 (by omega)) (by omega)
    have F_S2 := zz_fr.putv F_S qS2 (rfl)
    refine zz_iinc [some (.ref (zz_rf 5 q0 + 2)), some (zi p1), some (zi (x2 + 1)), some (zi 5)] zd_27_103_14 rfl rfl ?_
    refine zz_goto zd_27_103_17 ?_
    refine zz_less (ls1 := [some (.ref (zz_rf 5 q0 + 2)), some (zi p1), some (zi (x2 + 1)), some (zi 5)]) ⟨rfl, ⟨rfl, ⟨rfl, ⟨rfl, trivial⟩⟩⟩⟩ ?_
    exact k5 (x2 + 1) S2 G_S2 F_S2 (by omega) (by omega)
theorem zi_fill_27_103_k5a2 {g : mm_G} {l : Launch} (q0 : Int) (p1 : Int) (S0 : zz_S) (n : Nat) (hn : zz_end ≤ n) (G_S0 : zz_G S0) (hq0 : 0 ≤ q0 ∧ q0 ≤ 4) (hp1 : (-2147483648) ≤ p1 ∧ p1 ≤ 2147483647) : ∀ N : Nat, (∀ (x2 : Int) (S : zz_S), zz_G S → zz_fr [] [] (fun a i => a = zz_rf 5 q0 + 2) S0 S → (0 ≤ x2 ∧ x2 ≤ 5) → (5 - x2).toNat < N → zz_E g l zy_fill_27_103 zr_fill_27_103_k5a2 (zz_QV n (zp_fill_27_103_k5a2 q0 p1 S0)) S n 5 [some (.ref (zz_rf 5 q0 + 2)), some (zi p1), some (zi x2), some (zi 5)] [] 0 0) := by
  intro N
  induction N with
  | zero => exact fun x2 S _ _ _ h => absurd h (Nat.not_lt_zero _)
  | succ N ih =>
    exact fun x2 S a b j0 hR => zb_fill_27_103_k5a2_5 q0 p1 S0 n hn G_S0 hq0 hp1 x2 S a b j0 _ rfl (fun x2 S a b j0 h => ih x2 S a b j0 (Nat.lt_of_lt_of_le h (Nat.le_of_lt_succ hR)))
theorem zc_fill_27_103_k5a2 {g : mm_G} {l : Launch} (q0 : Int) (p1 : Int) (S0 : zz_S) (n : Nat) (hn : zz_end ≤ n) (G_S0 : zz_G S0) (hq0 : 0 ≤ q0 ∧ q0 ≤ 4) (hp1 : (-2147483648) ≤ p1 ∧ p1 ≤ 2147483647) : mm_Met g l zy_fill_27_103 zr_fill_27_103_k5a2 [.ref (zz_rf 5 q0 + 2), zi p1] (zz_M S0 n) n (zz_QV n (zp_fill_27_103_k5a2 q0 p1 S0)) := by
  refine zz_enter (by decide) (Nat.le_of_ble_eq_true rfl) (zz_less (ls1 := [some (.ref (zz_rf 5 q0 + 2)), some (zi p1)]) ⟨rfl, ⟨rfl, trivial⟩⟩ ?_)
  have F_S0 : zz_fr [] [] (fun a i => a = zz_rf 5 q0 + 2) S0 S0 := zz_fr.refl
  have k5 : ∀ (x2 : Int) (S : zz_S), zz_G S → zz_fr [] [] (fun a i => a = zz_rf 5 q0 + 2) S0 S → (0 ≤ x2 ∧ x2 ≤ 5) → zz_E g l zy_fill_27_103 zr_fill_27_103_k5a2 (zz_QV n (zp_fill_27_103_k5a2 q0 p1 S0)) S n 5 [some (.ref (zz_rf 5 q0 + 2)), some (zi p1), some (zi x2), some (zi 5)] [] 0 0 := fun x2 S a b j0 => (zi_fill_27_103_k5a2 (g := g) (l := l) q0 p1 S0 n hn G_S0 hq0 hp1 _) x2 S a b j0 (Nat.lt_succ_self _)
  have b_q0 := zz_rf5 (z := q0) (by omega)
  refine zz_iconst zd_27_103_0 ?_
  refine zz_istore_n [some (.ref (zz_rf 5 q0 + 2)), some (zi p1), some (zi 0)] zd_27_103_1 (by decide) rfl ?_
  refine zz_aload_n (x := zz_rf 5 q0 + 2) rfl zd_27_103_2 ?_
  refine zz_alen zd_27_103_3 (zT_k5a2 (by omega)) rfl (zN_k5a2 hn (by omega)) ?_
  refine zz_istore_n [some (.ref (zz_rf 5 q0 + 2)), some (zi p1), some (zi 0), some (zi 5)] zd_27_103_4 (by decide) rfl ?_
  refine zz_less (ls1 := [some (.ref (zz_rf 5 q0 + 2)), some (zi p1), some (zi 0), some (zi 5)]) ⟨rfl, ⟨rfl, ⟨rfl, ⟨rfl, trivial⟩⟩⟩⟩ ?_
  exact k5 0 S0 G_S0 F_S0 (by omega)
theorem zd_9_7_16 : zz_D zy_forget_9_7 16 (.aload_n 0) 1 17 := ⟨by decide +kernel, rfl⟩
theorem zd_9_7_17 : zz_D zy_forget_9_7 17 (.getfield 18) 3 20 := ⟨by decide +kernel, rfl⟩
theorem zf_Reaches_18 : mm_Fl "TensorForge$Reaches" 18 4 2 (.array .int) true := ⟨R_Reaches, F_Reaches, 4, t_Reaches, rfl, i_Reaches, by decide, mm_tb_1 170 (by decide +kernel) rfl, rfl, t_Reaches_ok, n_Reaches, rfl, by decide +kernel⟩
theorem zd_9_7_20 : zz_D zy_forget_9_7 20 (.iconst 0) 1 21 := ⟨by decide +kernel, rfl⟩
theorem zd_9_7_21 : zz_D zy_forget_9_7 21 (.invokestatic 55) 3 24 := ⟨by decide +kernel, rfl⟩
-- java/util/Arrays fill ([II)V
abbrev zr_fill_27_103_k5a3 : Room := { frames := 0, cells := 0, slots := 0, locals := 0 }
def zp_fill_27_103_k5a3 (q0 : Int) (p1 : Int) (S0 : zz_S) : zz_S → Prop := fun S => zz_G S ∧ zz_fr [] [] (fun a i => a = zz_rf 5 q0 + 3) S0 S
theorem zb_fill_27_103_k5a3_5 {g : mm_G} {l : Launch} (q0 : Int) (p1 : Int) (S0 : zz_S) (n : Nat) (hn : zz_end ≤ n) (G_S0 : zz_G S0) (hq0 : 0 ≤ q0 ∧ q0 ≤ 4) (hp1 : (-2147483648) ≤ p1 ∧ p1 ≤ 2147483647) (x2 : Int) (S : zz_S) (G_S : zz_G S) (F_S : zz_fr [] [] (fun a i => a = zz_rf 5 q0 + 3) S0 S) (i5_0 : 0 ≤ x2 ∧ x2 ≤ 5) (R : Nat) (hR : (5 - x2).toNat = R) (k5 : ∀ (x2 : Int) (S : zz_S), zz_G S → zz_fr [] [] (fun a i => a = zz_rf 5 q0 + 3) S0 S → (0 ≤ x2 ∧ x2 ≤ 5) → (5 - x2).toNat < R → zz_E g l zy_fill_27_103 zr_fill_27_103_k5a3 (zz_QV n (zp_fill_27_103_k5a3 q0 p1 S0)) S n 5 [some (.ref (zz_rf 5 q0 + 3)), some (zi p1), some (zi x2), some (zi 5)] [] 0 0) : zz_E g l zy_fill_27_103 zr_fill_27_103_k5a3 (zz_QV n (zp_fill_27_103_k5a3 q0 p1 S0)) S n 5 [some (.ref (zz_rf 5 q0 + 3)), some (zi p1), some (zi x2), some (zi 5)] [] 0 0 := by
  have b_q0 := zz_rf5 (z := q0) (by omega)
  refine zz_iload_n (x := x2) rfl zd_27_103_5 ?_
  refine zz_iload_n (x := 5) rfl zd_27_103_6 ?_
  refine zz_icmp_ge (by omega) (by omega) zd_27_103_7 (fun c1 => ?_) (fun c1 => ?_)
  · exact zz_vret zd_27_103_20 rfl (Nat.zero_le _) (Nat.zero_le _) ⟨_, rfl, G_S, F_S⟩
  · refine zz_aload_n (x := zz_rf 5 q0 + 3) rfl zd_27_103_10 ?_
    refine zz_iload_n (x := x2) rfl zd_27_103_11 ?_
    refine zz_iload_n (x := p1) rfl zd_27_103_12 ?_
    refine zz_iast zd_27_103_13 (zT_k5a3 (by omega)) rfl (zN_k5a3 hn (by omega)) (by decide) (by omega) (fun S2 qS2 => ?_)
    have G_S2 := zz_G.put G_S qS2 (-2147483648) 2147483647 (zR_k5a3 (by omega)) (by omega)
    have F_S2 := zz_fr.putv F_S qS2 (rfl)
    refine zz_iinc [some (.ref (zz_rf 5 q0 + 3)), some (zi p1), some (zi (x2 + 1)), some (zi 5)] zd_27_103_14 rfl rfl ?_
    refine zz_goto zd_27_103_17 ?_
    refine zz_less (ls1 := [some (.ref (zz_rf 5 q0 + 3)), some (zi p1), some (zi (x2 + 1)), some (zi 5)]) ⟨rfl, ⟨rfl, ⟨rfl, ⟨rfl, trivial⟩⟩⟩⟩ ?_
    exact k5 (x2 + 1) S2 G_S2 F_S2 (by omega) (by omega)
theorem zi_fill_27_103_k5a3 {g : mm_G} {l : Launch} (q0 : Int) (p1 : Int) (S0 : zz_S) (n : Nat) (hn : zz_end ≤ n) (G_S0 : zz_G S0) (hq0 : 0 ≤ q0 ∧ q0 ≤ 4) (hp1 : (-2147483648) ≤ p1 ∧ p1 ≤ 2147483647) : ∀ N : Nat, (∀ (x2 : Int) (S : zz_S), zz_G S → zz_fr [] [] (fun a i => a = zz_rf 5 q0 + 3) S0 S → (0 ≤ x2 ∧ x2 ≤ 5) → (5 - x2).toNat < N → zz_E g l zy_fill_27_103 zr_fill_27_103_k5a3 (zz_QV n (zp_fill_27_103_k5a3 q0 p1 S0)) S n 5 [some (.ref (zz_rf 5 q0 + 3)), some (zi p1), some (zi x2), some (zi 5)] [] 0 0) := by
  intro N
  induction N with
  | zero => exact fun x2 S _ _ _ h => absurd h (Nat.not_lt_zero _)
  | succ N ih =>
    exact fun x2 S a b j0 hR => zb_fill_27_103_k5a3_5 q0 p1 S0 n hn G_S0 hq0 hp1 x2 S a b j0 _ rfl (fun x2 S a b j0 h => ih x2 S a b j0 (Nat.lt_of_lt_of_le h (Nat.le_of_lt_succ hR)))
theorem zc_fill_27_103_k5a3 {g : mm_G} {l : Launch} (q0 : Int) (p1 : Int) (S0 : zz_S) (n : Nat) (hn : zz_end ≤ n) (G_S0 : zz_G S0) (hq0 : 0 ≤ q0 ∧ q0 ≤ 4) (hp1 : (-2147483648) ≤ p1 ∧ p1 ≤ 2147483647) : mm_Met g l zy_fill_27_103 zr_fill_27_103_k5a3 [.ref (zz_rf 5 q0 + 3), zi p1] (zz_M S0 n) n (zz_QV n (zp_fill_27_103_k5a3 q0 p1 S0)) := by
  refine zz_enter (by decide) (Nat.le_of_ble_eq_true rfl) (zz_less (ls1 := [some (.ref (zz_rf 5 q0 + 3)), some (zi p1)]) ⟨rfl, ⟨rfl, trivial⟩⟩ ?_)
  have F_S0 : zz_fr [] [] (fun a i => a = zz_rf 5 q0 + 3) S0 S0 := zz_fr.refl
  have k5 : ∀ (x2 : Int) (S : zz_S), zz_G S → zz_fr [] [] (fun a i => a = zz_rf 5 q0 + 3) S0 S → (0 ≤ x2 ∧ x2 ≤ 5) → zz_E g l zy_fill_27_103 zr_fill_27_103_k5a3 (zz_QV n (zp_fill_27_103_k5a3 q0 p1 S0)) S n 5 [some (.ref (zz_rf 5 q0 + 3)), some (zi p1), some (zi x2), some (zi 5)] [] 0 0 := fun x2 S a b j0 => (zi_fill_27_103_k5a3 (g := g) (l := l) q0 p1 S0 n hn G_S0 hq0 hp1 _) x2 S a b j0 (Nat.lt_succ_self _)
  have b_q0 := zz_rf5 (z := q0) (by omega)
  refine zz_iconst zd_27_103_0 ?_
  refine zz_istore_n [some (.ref (zz_rf 5 q0 + 3)), some (zi p1), some (zi 0)] zd_27_103_1 (by decide) rfl ?_
  refine zz_aload_n (x := zz_rf 5 q0 + 3) rfl zd_27_103_2 ?_
  refine zz_alen zd_27_103_3 (zT_k5a3 (by omega)) rfl (zN_k5a3 hn (by omega)) ?_
  refine zz_istore_n [some (.ref (zz_rf 5 q0 + 3)), some (zi p1), some (zi 0), some (zi 5)] zd_27_103_4 (by decide) rfl ?_
  refine zz_less (ls1 := [some (.ref (zz_rf 5 q0 + 3)), some (zi p1), some (zi 0), some (zi 5)]) ⟨rfl, ⟨rfl, ⟨rfl, ⟨rfl, trivial⟩⟩⟩⟩ ?_
  exact k5 0 S0 G_S0 F_S0 (by omega)
theorem zd_9_7_24 : zz_D zy_forget_9_7 24 (.aload_n 0) 1 25 := ⟨by decide +kernel, rfl⟩
theorem zd_9_7_25 : zz_D zy_forget_9_7 25 (.getfield 21) 3 28 := ⟨by decide +kernel, rfl⟩
theorem zf_Reaches_21 : mm_Fl "TensorForge$Reaches" 21 4 3 (.array .int) true := ⟨R_Reaches, F_Reaches, 4, t_Reaches, rfl, i_Reaches, by decide, mm_tb_1 171 (by decide +kernel) rfl, rfl, t_Reaches_ok, n_Reaches, rfl, by decide +kernel⟩
theorem zd_9_7_28 : zz_D zy_forget_9_7 28 (.iconst (-1)) 1 29 := ⟨by decide +kernel, rfl⟩
theorem zd_9_7_29 : zz_D zy_forget_9_7 29 (.invokestatic 55) 3 32 := ⟨by decide +kernel, rfl⟩
-- java/util/Arrays fill ([II)V
abbrev zr_fill_27_103_k5a4 : Room := { frames := 0, cells := 0, slots := 0, locals := 0 }
def zp_fill_27_103_k5a4 (q0 : Int) (p1 : Int) (S0 : zz_S) : zz_S → Prop := fun S => zz_G S ∧ zz_fr [] [] (fun a i => a = zz_rf 5 q0 + 4) S0 S
theorem zb_fill_27_103_k5a4_5 {g : mm_G} {l : Launch} (q0 : Int) (p1 : Int) (S0 : zz_S) (n : Nat) (hn : zz_end ≤ n) (G_S0 : zz_G S0) (hq0 : 0 ≤ q0 ∧ q0 ≤ 4) (hp1 : (-2147483648) ≤ p1 ∧ p1 ≤ 2147483647) (x2 : Int) (S : zz_S) (G_S : zz_G S) (F_S : zz_fr [] [] (fun a i => a = zz_rf 5 q0 + 4) S0 S) (i5_0 : 0 ≤ x2 ∧ x2 ≤ 5) (R : Nat) (hR : (5 - x2).toNat = R) (k5 : ∀ (x2 : Int) (S : zz_S), zz_G S → zz_fr [] [] (fun a i => a = zz_rf 5 q0 + 4) S0 S → (0 ≤ x2 ∧ x2 ≤ 5) → (5 - x2).toNat < R → zz_E g l zy_fill_27_103 zr_fill_27_103_k5a4 (zz_QV n (zp_fill_27_103_k5a4 q0 p1 S0)) S n 5 [some (.ref (zz_rf 5 q0 + 4)), some (zi p1), some (zi x2), some (zi 5)] [] 0 0) : zz_E g l zy_fill_27_103 zr_fill_27_103_k5a4 (zz_QV n (zp_fill_27_103_k5a4 q0 p1 S0)) S n 5 [some (.ref (zz_rf 5 q0 + 4)), some (zi p1), some (zi x2), some (zi 5)] [] 0 0 := by
  have b_q0 := zz_rf5 (z := q0) (by omega)
  refine zz_iload_n (x := x2) rfl zd_27_103_5 ?_
  refine zz_iload_n (x := 5) rfl zd_27_103_6 ?_
  refine zz_icmp_ge (by omega) (by omega) zd_27_103_7 (fun c1 => ?_) (fun c1 => ?_)
  · exact zz_vret zd_27_103_20 rfl (Nat.zero_le _) (Nat.zero_le _) ⟨_, rfl, G_S, F_S⟩
  · refine zz_aload_n (x := zz_rf 5 q0 + 4) rfl zd_27_103_10 ?_
    refine zz_iload_n (x := x2) rfl zd_27_103_11 ?_
    refine zz_iload_n (x := p1) rfl zd_27_103_12 ?_
    refine zz_iast zd_27_103_13 (zT_k5a4 (by omega)) rfl (zN_k5a4 hn (by omega)) (by decide) (by omega) (fun S2 qS2 => ?_)
    have G_S2 := zz_G.put G_S qS2 (-2147483648) 2147483647 (zR_k5a4 (by omega)) (by omega)
    have F_S2 := zz_fr.putv F_S qS2 (rfl)
    refine zz_iinc [some (.ref (zz_rf 5 q0 + 4)), some (zi p1), some (zi (x2 + 1)), some (zi 5)] zd_27_103_14 rfl rfl ?_
    refine zz_goto zd_27_103_17 ?_
    refine zz_less (ls1 := [some (.ref (zz_rf 5 q0 + 4)), some (zi p1), some (zi (x2 + 1)), some (zi 5)]) ⟨rfl, ⟨rfl, ⟨rfl, ⟨rfl, trivial⟩⟩⟩⟩ ?_
    exact k5 (x2 + 1) S2 G_S2 F_S2 (by omega) (by omega)
theorem zi_fill_27_103_k5a4 {g : mm_G} {l : Launch} (q0 : Int) (p1 : Int) (S0 : zz_S) (n : Nat) (hn : zz_end ≤ n) (G_S0 : zz_G S0) (hq0 : 0 ≤ q0 ∧ q0 ≤ 4) (hp1 : (-2147483648) ≤ p1 ∧ p1 ≤ 2147483647) : ∀ N : Nat, (∀ (x2 : Int) (S : zz_S), zz_G S → zz_fr [] [] (fun a i => a = zz_rf 5 q0 + 4) S0 S → (0 ≤ x2 ∧ x2 ≤ 5) → (5 - x2).toNat < N → zz_E g l zy_fill_27_103 zr_fill_27_103_k5a4 (zz_QV n (zp_fill_27_103_k5a4 q0 p1 S0)) S n 5 [some (.ref (zz_rf 5 q0 + 4)), some (zi p1), some (zi x2), some (zi 5)] [] 0 0) := by
  intro N
  induction N with
  | zero => exact fun x2 S _ _ _ h => absurd h (Nat.not_lt_zero _)
  | succ N ih =>
    exact fun x2 S a b j0 hR => zb_fill_27_103_k5a4_5 q0 p1 S0 n hn G_S0 hq0 hp1 x2 S a b j0 _ rfl (fun x2 S a b j0 h => ih x2 S a b j0 (Nat.lt_of_lt_of_le h (Nat.le_of_lt_succ hR)))
theorem zc_fill_27_103_k5a4 {g : mm_G} {l : Launch} (q0 : Int) (p1 : Int) (S0 : zz_S) (n : Nat) (hn : zz_end ≤ n) (G_S0 : zz_G S0) (hq0 : 0 ≤ q0 ∧ q0 ≤ 4) (hp1 : (-2147483648) ≤ p1 ∧ p1 ≤ 2147483647) : mm_Met g l zy_fill_27_103 zr_fill_27_103_k5a4 [.ref (zz_rf 5 q0 + 4), zi p1] (zz_M S0 n) n (zz_QV n (zp_fill_27_103_k5a4 q0 p1 S0)) := by
  refine zz_enter (by decide) (Nat.le_of_ble_eq_true rfl) (zz_less (ls1 := [some (.ref (zz_rf 5 q0 + 4)), some (zi p1)]) ⟨rfl, ⟨rfl, trivial⟩⟩ ?_)
  have F_S0 : zz_fr [] [] (fun a i => a = zz_rf 5 q0 + 4) S0 S0 := zz_fr.refl
  have k5 : ∀ (x2 : Int) (S : zz_S), zz_G S → zz_fr [] [] (fun a i => a = zz_rf 5 q0 + 4) S0 S → (0 ≤ x2 ∧ x2 ≤ 5) → zz_E g l zy_fill_27_103 zr_fill_27_103_k5a4 (zz_QV n (zp_fill_27_103_k5a4 q0 p1 S0)) S n 5 [some (.ref (zz_rf 5 q0 + 4)), some (zi p1), some (zi x2), some (zi 5)] [] 0 0 := fun x2 S a b j0 => (zi_fill_27_103_k5a4 (g := g) (l := l) q0 p1 S0 n hn G_S0 hq0 hp1 _) x2 S a b j0 (Nat.lt_succ_self _)
  have b_q0 := zz_rf5 (z := q0) (by omega)
  refine zz_iconst zd_27_103_0 ?_
  refine zz_istore_n [some (.ref (zz_rf 5 q0 + 4)), some (zi p1), some (zi 0)] zd_27_103_1 (by decide) rfl ?_
  refine zz_aload_n (x := zz_rf 5 q0 + 4) rfl zd_27_103_2 ?_
  refine zz_alen zd_27_103_3 (zT_k5a4 (by omega)) rfl (zN_k5a4 hn (by omega)) ?_
  refine zz_istore_n [some (.ref (zz_rf 5 q0 + 4)), some (zi p1), some (zi 0), some (zi 5)] zd_27_103_4 (by decide) rfl ?_
  refine zz_less (ls1 := [some (.ref (zz_rf 5 q0 + 4)), some (zi p1), some (zi 0), some (zi 5)]) ⟨rfl, ⟨rfl, ⟨rfl, ⟨rfl, trivial⟩⟩⟩⟩ ?_
  exact k5 0 S0 G_S0 F_S0 (by omega)
theorem zd_9_7_32 : zz_D zy_forget_9_7 32 (.return_) 1 33 := ⟨by decide +kernel, rfl⟩
-- TensorForge$Reaches forget ()V
abbrev zr_forget_9_7 : Room := { frames := 1, cells := 0, slots := 0, locals := 15 }
def zp_forget_9_7 (t : Int) (S0 : zz_S) : zz_S → Prop := fun S => zz_G S ∧ zz_fr [] [] (fun a i => a = zz_rf 5 t + 1 ∨ a = zz_rf 5 t + 2 ∨ a = zz_rf 5 t + 3 ∨ a = zz_rf 5 t + 4) S0 S
theorem zc_forget_9_7 {g : mm_G} {l : Launch} (t : Int) (S0 : zz_S) (n : Nat) (hn : zz_end ≤ n) (G_S0 : zz_G S0) (ht : 0 ≤ t ∧ t ≤ 4) : mm_Met g l zy_forget_9_7 zr_forget_9_7 [.ref (zz_rf 5 t)] (zz_M S0 n) n (zz_QV n (zp_forget_9_7 t S0)) := by
  refine zz_enter (by decide) (Nat.le_of_ble_eq_true rfl) (zz_less (ls1 := [some (.ref (zz_rf 5 t))]) ⟨rfl, trivial⟩ ?_)
  have F_S0 : zz_fr [] [] (fun a i => a = zz_rf 5 t + 1 ∨ a = zz_rf 5 t + 2 ∨ a = zz_rf 5 t + 3 ∨ a = zz_rf 5 t + 4) S0 S0 := zz_fr.refl
  have b_t := zz_rf5 (z := t) (by omega)
  refine zz_aload_n (x := zz_rf 5 t) rfl zd_9_7_0 ?_
  refine zz_getr (kd := 0) (z := ((zz_rf 5 t + 1 : Nat) : Int)) zd_9_7_1 zf_Reaches_11 (zT_k5 (by omega)) rfl (zN_k5 hn (by omega)) (zE_k5a1 G_S0 (by omega)) (Int.natCast_nonneg _) (zz_rf 5 t + 1) (Int.toNat_natCast _) ?_
  refine zz_iconst zd_9_7_4 ?_
  refine zz_callSV [.ref (zz_rf 5 t + 1), zi 0] zd_9_7_5 zk_Reaches_55 rfl rfl ⟨Nat.le_of_ble_eq_true rfl, Nat.le_of_ble_eq_true rfl⟩ ⟨rfl, rfl⟩ (Nat.zero_le _) (Nat.zero_le _) (zc_fill_27_103_k5a1 t 0 S0 n hn G_S0 (by omega) (by omega)) (fun S1 hP => ?_)
  obtain ⟨G_S1, fS1⟩ := hP
  have F_S1 := zz_fr.trans F_S0 fS1 rfl (fun a i h => Or.inr (Or.inr (Or.inl h)))
  refine zz_aload_n (x := zz_rf 5 t) rfl zd_9_7_8 ?_
  refine zz_getr (kd := 0) (z := ((zz_rf 5 t + 2 : Nat) : Int)) zd_9_7_9 zf_Reaches_15 (zT_k5 (by omega)) rfl (zN_k5 hn (by omega)) (zE_k5a2 G_S1 (by omega)) (Int.natCast_nonneg _) (zz_rf 5 t + 2) (Int.toNat_natCast _) ?_
  refine zz_iconst zd_9_7_12 ?_
  refine zz_callSV [.ref (zz_rf 5 t + 2), zi (-1)] zd_9_7_13 zk_Reaches_55 rfl rfl ⟨Nat.le_of_ble_eq_true rfl, Nat.le_of_ble_eq_true rfl⟩ ⟨rfl, rfl⟩ (Nat.zero_le _) (Nat.zero_le _) (zc_fill_27_103_k5a2 t (-1) S1 n hn G_S1 (by omega) (by omega)) (fun S3 hP => ?_)
  obtain ⟨G_S3, fS3⟩ := hP
  have F_S3 := zz_fr.trans F_S1 fS3 rfl (fun a i h => Or.inr (Or.inr (Or.inr (Or.inl h))))
  refine zz_aload_n (x := zz_rf 5 t) rfl zd_9_7_16 ?_
  refine zz_getr (kd := 0) (z := ((zz_rf 5 t + 3 : Nat) : Int)) zd_9_7_17 zf_Reaches_18 (zT_k5 (by omega)) rfl (zN_k5 hn (by omega)) (zE_k5a3 G_S3 (by omega)) (Int.natCast_nonneg _) (zz_rf 5 t + 3) (Int.toNat_natCast _) ?_
  refine zz_iconst zd_9_7_20 ?_
  refine zz_callSV [.ref (zz_rf 5 t + 3), zi 0] zd_9_7_21 zk_Reaches_55 rfl rfl ⟨Nat.le_of_ble_eq_true rfl, Nat.le_of_ble_eq_true rfl⟩ ⟨rfl, rfl⟩ (Nat.zero_le _) (Nat.zero_le _) (zc_fill_27_103_k5a3 t 0 S3 n hn G_S3 (by omega) (by omega)) (fun S5 hP => ?_)
  obtain ⟨G_S5, fS5⟩ := hP
  have F_S5 := zz_fr.trans F_S3 fS5 rfl (fun a i h => Or.inr (Or.inr (Or.inr (Or.inr (Or.inl h)))))
  refine zz_aload_n (x := zz_rf 5 t) rfl zd_9_7_24 ?_
  refine zz_getr (kd := 0) (z := ((zz_rf 5 t + 4 : Nat) : Int)) zd_9_7_25 zf_Reaches_21 (zT_k5 (by omega)) rfl (zN_k5 hn (by omega)) (zE_k5a4 G_S5 (by omega)) (Int.natCast_nonneg _) (zz_rf 5 t + 4) (Int.toNat_natCast _) ?_
  refine zz_iconst zd_9_7_28 ?_
  refine zz_callSV [.ref (zz_rf 5 t + 4), zi (-1)] zd_9_7_29 zk_Reaches_55 rfl rfl ⟨Nat.le_of_ble_eq_true rfl, Nat.le_of_ble_eq_true rfl⟩ ⟨rfl, rfl⟩ (Nat.zero_le _) (Nat.zero_le _) (zc_fill_27_103_k5a4 t (-1) S5 n hn G_S5 (by omega) (by omega)) (fun S7 hP => ?_)
  obtain ⟨G_S7, fS7⟩ := hP
  have F_S7 := zz_fr.trans F_S5 fS7 rfl (fun a i h => Or.inr (Or.inr (Or.inr (Or.inr (Or.inr (h))))))
  exact zz_vret zd_9_7_32 rfl (Nat.zero_le _) (Nat.zero_le _) ⟨_, rfl, G_S7, F_S7⟩
theorem zk_Reaches_24 : mm_Vl "TensorForge$Reaches" 24 4 0 zy_forget_9_7 := ⟨zyw_forget_9_7, (R_Reaches, F_Reaches, 4), rfl, mm_tb_1 527 (by decide +kernel) rfl, mm_tb_1 529 (by decide +kernel) rfl, mm_tb_s 2 (by decide +kernel) rfl⟩
theorem zd_9_2_4 : zz_D zy_take_9_2 4 (.lload_n 1) 1 5 := ⟨by decide +kernel, rfl⟩
theorem zd_9_2_5 : zz_D zy_take_9_2 5 (.iconst 0) 1 6 := ⟨by decide +kernel, rfl⟩
theorem zd_9_2_6 : zz_D zy_take_9_2 6 (.invokestatic 29) 3 9 := ⟨by decide +kernel, rfl⟩
theorem zk_Reaches_29 : mm_Sl "TensorForge$Reaches" 29 2 zy_get_12_2 := ⟨zyw_get_12_2, mm_tb_1 534 (by decide +kernel) rfl, mm_tb_1 493 (by decide +kernel) rfl⟩
theorem zd_9_2_9 : zz_D zy_take_9_2 9 (.istore 4) 2 11 := ⟨by decide +kernel, rfl⟩
theorem zd_9_2_11 : zz_D zy_take_9_2 11 (.lload_n 1) 1 12 := ⟨by decide +kernel, rfl⟩
theorem zd_9_2_12 : zz_D zy_take_9_2 12 (.iconst 5) 1 13 := ⟨by decide +kernel, rfl⟩
theorem zd_9_2_13 : zz_D zy_take_9_2 13 (.invokestatic 29) 3 16 := ⟨by decide +kernel, rfl⟩
-- TensorForge$Words get (JI)I
abbrev zr_get_12_2x_5 : Room := { frames := 0, cells := 0, slots := 0, locals := 0 }
def zp_get_12_2x_5 (p0 : Int) (S0 : zz_S) : Int → zz_S → Prop := fun r S => S0 = S ∧ (0 ≤ r ∧ r ≤ 4095)
theorem zc_get_12_2x_5 {g : mm_G} {l : Launch} (p0 : Int) (S0 : zz_S) (n : Nat) (hn : zz_end ≤ n) (G_S0 : zz_G S0) (hp0 : (-9223372036854775808) ≤ p0 ∧ p0 ≤ 9223372036854775807) : mm_Met g l zy_get_12_2 zr_get_12_2x_5 [zl p0, zi 5] (zz_M S0 n) n (zz_QI n (zp_get_12_2x_5 p0 S0)) := by
  refine zz_enter (by decide) (Nat.le_of_ble_eq_true rfl) (zz_less (ls1 := [some (zl p0), none, some (zi 5)]) ⟨rfl, ⟨rfl, trivial⟩⟩ ?_)
  refine zz_iload_n (x := 5) rfl zd_12_2_0 ?_
  refine zz_if_lt (by omega) zd_12_2_1 (fun c1 => ?_) (fun c1 => ?_)
  · exfalso; omega
  · refine zz_iload_n (x := 5) rfl zd_12_2_4 ?_
    refine zz_bipush (by decide) zd_12_2_5 ?_
    refine zz_icmp_lt (by omega) (by omega) zd_12_2_7 (fun c2 => ?_) (fun c2 => ?_)
    · refine zz_lload_n (x := p0) rfl zd_12_2_12 ?_
      refine zz_gets (q0 := 1) zd_12_2_13 rfl (by decide) zs_Words_9 ?_
      refine zz_iload_n (x := 5) rfl zd_12_2_16 ?_
      refine zz_tiald 8 zd_12_2_17 rfl (by decide) rfl (by decide) (by decide) rfl ?_
      refine zz_lushr zd_12_2_18 (fun v3 hv3 ev3 => ?_)
      refine zz_l2i (by omega) zd_12_2_19 (fun v4 hv4 av4 ev4 => ?_)
      refine zz_gets (q0 := 2) zd_12_2_20 rfl (by decide) zs_Words_13 ?_
      refine zz_iload_n (x := 5) rfl zd_12_2_23 ?_
      refine zz_tiald 4095 zd_12_2_24 rfl (by decide) rfl (by decide) (by decide) rfl ?_
      refine zz_iand (by omega) (by omega) zd_12_2_25 (fun v5 hv5 av5 bv5 ev5 => ?_)
      exact zz_iret zd_12_2_26 rfl (Nat.zero_le _) (Nat.zero_le _) ⟨_, _, rfl, rfl, by omega⟩
    · exfalso; omega
theorem zd_9_2_16 : zz_D zy_take_9_2 16 (.istore 5) 2 18 := ⟨by decide +kernel, rfl⟩
theorem zd_9_2_18 : zz_D zy_take_9_2 18 (.lload_n 1) 1 19 := ⟨by decide +kernel, rfl⟩
theorem zd_9_2_19 : zz_D zy_take_9_2 19 (.bipush 6) 2 21 := ⟨by decide +kernel, rfl⟩
theorem zd_9_2_21 : zz_D zy_take_9_2 21 (.invokestatic 29) 3 24 := ⟨by decide +kernel, rfl⟩
theorem zd_9_2_24 : zz_D zy_take_9_2 24 (.iconst 1) 1 25 := ⟨by decide +kernel, rfl⟩
theorem zd_9_2_25 : zz_D zy_take_9_2 25 (.isub) 1 26 := ⟨by decide +kernel, rfl⟩
theorem zd_9_2_26 : zz_D zy_take_9_2 26 (.istore 6) 2 28 := ⟨by decide +kernel, rfl⟩
theorem zd_9_2_28 : zz_D zy_take_9_2 28 (.lload_n 1) 1 29 := ⟨by decide +kernel, rfl⟩
theorem zd_9_2_29 : zz_D zy_take_9_2 29 (.bipush 7) 2 31 := ⟨by decide +kernel, rfl⟩
theorem zd_9_2_31 : zz_D zy_take_9_2 31 (.invokestatic 29) 3 34 := ⟨by decide +kernel, rfl⟩
theorem zd_9_2_34 : zz_D zy_take_9_2 34 (.iconst 1) 1 35 := ⟨by decide +kernel, rfl⟩
theorem zd_9_2_35 : zz_D zy_take_9_2 35 (.isub) 1 36 := ⟨by decide +kernel, rfl⟩
theorem zd_9_2_36 : zz_D zy_take_9_2 36 (.istore 7) 2 38 := ⟨by decide +kernel, rfl⟩
theorem zd_9_2_38 : zz_D zy_take_9_2 38 (.lload_n 1) 1 39 := ⟨by decide +kernel, rfl⟩
theorem zd_9_2_39 : zz_D zy_take_9_2 39 (.bipush 10) 2 41 := ⟨by decide +kernel, rfl⟩
theorem zd_9_2_41 : zz_D zy_take_9_2 41 (.invokestatic 29) 3 44 := ⟨by decide +kernel, rfl⟩
-- TensorForge$Words get (JI)I
abbrev zr_get_12_2x_10 : Room := { frames := 0, cells := 0, slots := 0, locals := 0 }
def zp_get_12_2x_10 (p0 : Int) (S0 : zz_S) : Int → zz_S → Prop := fun r S => S0 = S ∧ (0 ≤ r ∧ r ≤ 1023)
theorem zc_get_12_2x_10 {g : mm_G} {l : Launch} (p0 : Int) (S0 : zz_S) (n : Nat) (hn : zz_end ≤ n) (G_S0 : zz_G S0) (hp0 : (-9223372036854775808) ≤ p0 ∧ p0 ≤ 9223372036854775807) : mm_Met g l zy_get_12_2 zr_get_12_2x_10 [zl p0, zi 10] (zz_M S0 n) n (zz_QI n (zp_get_12_2x_10 p0 S0)) := by
  refine zz_enter (by decide) (Nat.le_of_ble_eq_true rfl) (zz_less (ls1 := [some (zl p0), none, some (zi 10)]) ⟨rfl, ⟨rfl, trivial⟩⟩ ?_)
  refine zz_iload_n (x := 10) rfl zd_12_2_0 ?_
  refine zz_if_lt (by omega) zd_12_2_1 (fun c1 => ?_) (fun c1 => ?_)
  · exfalso; omega
  · refine zz_iload_n (x := 10) rfl zd_12_2_4 ?_
    refine zz_bipush (by decide) zd_12_2_5 ?_
    refine zz_icmp_lt (by omega) (by omega) zd_12_2_7 (fun c2 => ?_) (fun c2 => ?_)
    · refine zz_lload_n (x := p0) rfl zd_12_2_12 ?_
      refine zz_gets (q0 := 1) zd_12_2_13 rfl (by decide) zs_Words_9 ?_
      refine zz_iload_n (x := 10) rfl zd_12_2_16 ?_
      refine zz_tiald 49 zd_12_2_17 rfl (by decide) rfl (by decide) (by decide) rfl ?_
      refine zz_lushr zd_12_2_18 (fun v3 hv3 ev3 => ?_)
      refine zz_l2i (by omega) zd_12_2_19 (fun v4 hv4 av4 ev4 => ?_)
      refine zz_gets (q0 := 2) zd_12_2_20 rfl (by decide) zs_Words_13 ?_
      refine zz_iload_n (x := 10) rfl zd_12_2_23 ?_
      refine zz_tiald 1023 zd_12_2_24 rfl (by decide) rfl (by decide) (by decide) rfl ?_
      refine zz_iand (by omega) (by omega) zd_12_2_25 (fun v5 hv5 av5 bv5 ev5 => ?_)
      exact zz_iret zd_12_2_26 rfl (Nat.zero_le _) (Nat.zero_le _) ⟨_, _, rfl, rfl, by omega⟩
    · exfalso; omega
theorem zd_9_2_44 : zz_D zy_take_9_2 44 (.istore 8) 2 46 := ⟨by decide +kernel, rfl⟩
theorem zd_9_2_46 : zz_D zy_take_9_2 46 (.lload_n 1) 1 47 := ⟨by decide +kernel, rfl⟩
theorem zd_9_2_47 : zz_D zy_take_9_2 47 (.bipush 8) 2 49 := ⟨by decide +kernel, rfl⟩
theorem zd_9_2_49 : zz_D zy_take_9_2 49 (.invokestatic 29) 3 52 := ⟨by decide +kernel, rfl⟩
-- TensorForge$Words get (JI)I
abbrev zr_get_12_2x_8 : Room := { frames := 0, cells := 0, slots := 0, locals := 0 }
def zp_get_12_2x_8 (p0 : Int) (S0 : zz_S) : Int → zz_S → Prop := fun r S => S0 = S ∧ (0 ≤ r ∧ r ≤ 511)
theorem zc_get_12_2x_8 {g : mm_G} {l : Launch} (p0 : Int) (S0 : zz_S) (n : Nat) (hn : zz_end ≤ n) (G_S0 : zz_G S0) (hp0 : (-9223372036854775808) ≤ p0 ∧ p0 ≤ 9223372036854775807) : mm_Met g l zy_get_12_2 zr_get_12_2x_8 [zl p0, zi 8] (zz_M S0 n) n (zz_QI n (zp_get_12_2x_8 p0 S0)) := by
  refine zz_enter (by decide) (Nat.le_of_ble_eq_true rfl) (zz_less (ls1 := [some (zl p0), none, some (zi 8)]) ⟨rfl, ⟨rfl, trivial⟩⟩ ?_)
  refine zz_iload_n (x := 8) rfl zd_12_2_0 ?_
  refine zz_if_lt (by omega) zd_12_2_1 (fun c1 => ?_) (fun c1 => ?_)
  · exfalso; omega
  · refine zz_iload_n (x := 8) rfl zd_12_2_4 ?_
    refine zz_bipush (by decide) zd_12_2_5 ?_
    refine zz_icmp_lt (by omega) (by omega) zd_12_2_7 (fun c2 => ?_) (fun c2 => ?_)
    · refine zz_lload_n (x := p0) rfl zd_12_2_12 ?_
      refine zz_gets (q0 := 1) zd_12_2_13 rfl (by decide) zs_Words_9 ?_
      refine zz_iload_n (x := 8) rfl zd_12_2_16 ?_
      refine zz_tiald 31 zd_12_2_17 rfl (by decide) rfl (by decide) (by decide) rfl ?_
      refine zz_lushr zd_12_2_18 (fun v3 hv3 ev3 => ?_)
      refine zz_l2i (by omega) zd_12_2_19 (fun v4 hv4 av4 ev4 => ?_)
      refine zz_gets (q0 := 2) zd_12_2_20 rfl (by decide) zs_Words_13 ?_
      refine zz_iload_n (x := 8) rfl zd_12_2_23 ?_
      refine zz_tiald 511 zd_12_2_24 rfl (by decide) rfl (by decide) (by decide) rfl ?_
      refine zz_iand (by omega) (by omega) zd_12_2_25 (fun v5 hv5 av5 bv5 ev5 => ?_)
      exact zz_iret zd_12_2_26 rfl (Nat.zero_le _) (Nat.zero_le _) ⟨_, _, rfl, rfl, by omega⟩
    · exfalso; omega
theorem zd_9_2_52 : zz_D zy_take_9_2 52 (.istore 9) 2 54 := ⟨by decide +kernel, rfl⟩
theorem zd_9_2_54 : zz_D zy_take_9_2 54 (.iload 6) 2 56 := ⟨by decide +kernel, rfl⟩
theorem zd_9_2_56 : zz_D zy_take_9_2 56 (.iload_n 3) 1 57 := ⟨by decide +kernel, rfl⟩
theorem zd_9_2_57 : zz_D zy_take_9_2 57 (.imul) 1 58 := ⟨by decide +kernel, rfl⟩
theorem zz_mulh {a b : Int} (A1 A2 B C1 C2 : Int) (ha : A1 ≤ a ∧ a ≤ A2) (hb : 0 ≤ b ∧ b ≤ B) (h1 : A1 ≤ 0) (h2 : 0 ≤ A2) (e1 : A1 * B = C1) (e2 : A2 * B = C2) : C1 ≤ a * b ∧ a * b ≤ C2 := by
  rw [← e1, ← e2]
  refine ⟨?_, Int.mul_le_mul ha.2 hb.2 hb.1 h2⟩
  have q1 : A1 * b ≤ a * b := Int.mul_le_mul_of_nonneg_right ha.1 hb.1
  have q2 : A1 * B ≤ A1 * b := Int.mul_le_mul_of_nonpos_left h1 hb.2
  omega
theorem zd_9_2_58 : zz_D zy_take_9_2 58 (.iload 7) 2 60 := ⟨by decide +kernel, rfl⟩
theorem zd_9_2_60 : zz_D zy_take_9_2 60 (.iadd) 1 61 := ⟨by decide +kernel, rfl⟩
theorem zd_9_2_61 : zz_D zy_take_9_2 61 (.istore 10) 2 63 := ⟨by decide +kernel, rfl⟩
theorem zd_9_2_63 : zz_D zy_take_9_2 63 (.iload 6) 2 65 := ⟨by decide +kernel, rfl⟩
theorem zd_9_2_65 : zz_D zy_take_9_2 65 (.iload 8) 2 67 := ⟨by decide +kernel, rfl⟩
theorem zd_9_2_67 : zz_D zy_take_9_2 67 (.imul) 1 68 := ⟨by decide +kernel, rfl⟩
theorem zd_9_2_68 : zz_D zy_take_9_2 68 (.iload 7) 2 70 := ⟨by decide +kernel, rfl⟩
theorem zd_9_2_70 : zz_D zy_take_9_2 70 (.iadd) 1 71 := ⟨by decide +kernel, rfl⟩
theorem zd_9_2_71 : zz_D zy_take_9_2 71 (.istore 11) 2 73 := ⟨by decide +kernel, rfl⟩
theorem zd_9_2_73 : zz_D zy_take_9_2 73 (.iload 4) 2 75 := ⟨by decide +kernel, rfl⟩
theorem zd_9_2_75 : zz_W zy_take_9_2 75 151 1 8 #[45, 66, 87, 99, 151, 151, 151, 130] := ⟨45, by decide +kernel⟩
theorem zd_9_2_120 : zz_D zy_take_9_2 120 (.aload_n 0) 1 121 := ⟨by decide +kernel, rfl⟩
theorem zd_9_2_121 : zz_D zy_take_9_2 121 (.iconst 0) 1 122 := ⟨by decide +kernel, rfl⟩
theorem zd_9_2_122 : zz_D zy_take_9_2 122 (.iload 5) 2 124 := ⟨by decide +kernel, rfl⟩
theorem zd_9_2_124 : zz_D zy_take_9_2 124 (.iload 11) 2 126 := ⟨by decide +kernel, rfl⟩
theorem zd_9_2_126 : zz_D zy_take_9_2 126 (.invokevirtual 33) 3 129 := ⟨by decide +kernel, rfl⟩
abbrev zy_reads_9_8 : mm_Y := (⟨"TensorForge$Reaches", "reads", "(III)V"⟩, prog_9_method_8_code, 4, none)
theorem zyw_reads_9_8 : mm_Yw zy_reads_9_8 3 := ⟨mm_tb_1 538 (by decide +kernel) rfl, mm_tb_1 5 (by decide +kernel) rfl, ⟨by decide, by decide⟩, by decide +kernel⟩
theorem zd_9_8_0 : zz_D zy_reads_9_8 0 (.iload_n 1) 1 1 := ⟨by decide +kernel, rfl⟩
theorem zd_9_8_1 : zz_B zy_reads_9_8 1 (Instr.ifCond .lt) 25 4 := ⟨24, by decide +kernel, rfl, rfl⟩
theorem zd_9_8_25 : zz_D zy_reads_9_8 25 (.return_) 1 26 := ⟨by decide +kernel, rfl⟩
theorem zd_9_8_4 : zz_D zy_reads_9_8 4 (.iload_n 1) 1 5 := ⟨by decide +kernel, rfl⟩
theorem zd_9_8_5 : zz_D zy_reads_9_8 5 (.iconst 5) 1 6 := ⟨by decide +kernel, rfl⟩
theorem zd_9_8_6 : zz_B zy_reads_9_8 6 (Instr.if_icmp .ge) 25 9 := ⟨19, by decide +kernel, rfl, rfl⟩
theorem zd_9_8_9 : zz_D zy_reads_9_8 9 (.aload_n 0) 1 10 := ⟨by decide +kernel, rfl⟩
theorem zd_9_8_10 : zz_D zy_reads_9_8 10 (.getfield 11) 3 13 := ⟨by decide +kernel, rfl⟩
theorem zd_9_8_13 : zz_D zy_reads_9_8 13 (.iload_n 1) 1 14 := ⟨by decide +kernel, rfl⟩
theorem zd_9_8_14 : zz_D zy_reads_9_8 14 (.iload_n 2) 1 15 := ⟨by decide +kernel, rfl⟩
theorem zd_9_8_15 : zz_D zy_reads_9_8 15 (.iastore) 1 16 := ⟨by decide +kernel, rfl⟩
theorem zd_9_8_16 : zz_D zy_reads_9_8 16 (.aload_n 0) 1 17 := ⟨by decide +kernel, rfl⟩
theorem zd_9_8_17 : zz_D zy_reads_9_8 17 (.getfield 15) 3 20 := ⟨by decide +kernel, rfl⟩
theorem zd_9_8_20 : zz_D zy_reads_9_8 20 (.iload_n 1) 1 21 := ⟨by decide +kernel, rfl⟩
theorem zd_9_8_21 : zz_D zy_reads_9_8 21 (.iload_n 2) 1 22 := ⟨by decide +kernel, rfl⟩
theorem zd_9_8_22 : zz_D zy_reads_9_8 22 (.iload_n 3) 1 23 := ⟨by decide +kernel, rfl⟩
theorem zd_9_8_23 : zz_D zy_reads_9_8 23 (.iadd) 1 24 := ⟨by decide +kernel, rfl⟩
theorem zd_9_8_24 : zz_D zy_reads_9_8 24 (.iastore) 1 25 := ⟨by decide +kernel, rfl⟩
-- TensorForge$Reaches reads (III)V
abbrev zr_reads_9_8 : Room := { frames := 0, cells := 0, slots := 0, locals := 0 }
def zp_reads_9_8 (t : Int) (p0 : Int) (p1 : Int) (p2 : Int) (S0 : zz_S) : zz_S → Prop := fun S => zz_G S ∧ zz_fr [] [] (fun a i => a = zz_rf 5 t + 1 ∨ a = zz_rf 5 t + 2) S0 S
theorem zc_reads_9_8 {g : mm_G} {l : Launch} (t : Int) (p0 : Int) (p1 : Int) (p2 : Int) (S0 : zz_S) (n : Nat) (hn : zz_end ≤ n) (G_S0 : zz_G S0) (ht : 0 ≤ t ∧ t ≤ 4) (hp0 : (-2147483648) ≤ p0 ∧ p0 ≤ 2147483647) (hp1 : (-2147483648) ≤ p1 ∧ p1 ≤ 2147483647) (hp2 : (-2147483648) ≤ p2 ∧ p2 ≤ 2147483647) : mm_Met g l zy_reads_9_8 zr_reads_9_8 [.ref (zz_rf 5 t), zi p0, zi p1, zi p2] (zz_M S0 n) n (zz_QV n (zp_reads_9_8 t p0 p1 p2 S0)) := by
  refine zz_enter (by decide) (Nat.le_of_ble_eq_true rfl) (zz_less (ls1 := [some (.ref (zz_rf 5 t)), some (zi p0), some (zi p1), some (zi p2)]) ⟨rfl, ⟨rfl, ⟨rfl, ⟨rfl, trivial⟩⟩⟩⟩ ?_)
  have F_S0 : zz_fr [] [] (fun a i => a = zz_rf 5 t + 1 ∨ a = zz_rf 5 t + 2) S0 S0 := zz_fr.refl
  have b_t := zz_rf5 (z := t) (by omega)
  refine zz_iload_n (x := p0) rfl zd_9_8_0 ?_
  refine zz_if_lt (by omega) zd_9_8_1 (fun c1 => ?_) (fun c1 => ?_)
  · exact zz_vret zd_9_8_25 rfl (Nat.zero_le _) (Nat.zero_le _) ⟨_, rfl, G_S0, F_S0⟩
  · refine zz_iload_n (x := p0) rfl zd_9_8_4 ?_
    refine zz_iconst zd_9_8_5 ?_
    refine zz_icmp_ge (by omega) (by omega) zd_9_8_6 (fun c2 => ?_) (fun c2 => ?_)
    · exact zz_vret zd_9_8_25 rfl (Nat.zero_le _) (Nat.zero_le _) ⟨_, rfl, G_S0, F_S0⟩
    · refine zz_aload_n (x := zz_rf 5 t) rfl zd_9_8_9 ?_
      refine zz_getr (kd := 0) (z := ((zz_rf 5 t + 1 : Nat) : Int)) zd_9_8_10 zf_Reaches_11 (zT_k5 (by omega)) rfl (zN_k5 hn (by omega)) (zE_k5a1 G_S0 (by omega)) (Int.natCast_nonneg _) (zz_rf 5 t + 1) (Int.toNat_natCast _) ?_
      refine zz_iload_n (x := p0) rfl zd_9_8_13 ?_
      refine zz_iload_n (x := p1) rfl zd_9_8_14 ?_
      refine zz_iast zd_9_8_15 (zT_k5a1 (by omega)) rfl (zN_k5a1 hn (by omega)) (by decide) (by omega) (fun S3 qS3 => ?_)
      have G_S3 := zz_G.put G_S0 qS3 (-2147483648) 2147483647 (zR_k5a1 (by omega)) (by omega)
      have F_S3 := zz_fr.putv F_S0 qS3 (Or.inl rfl)
      refine zz_aload_n (x := zz_rf 5 t) rfl zd_9_8_16 ?_
      refine zz_getr (kd := 0) (z := ((zz_rf 5 t + 2 : Nat) : Int)) zd_9_8_17 zf_Reaches_15 (zT_k5 (by omega)) rfl (zN_k5 hn (by omega)) (zE_k5a2 G_S3 (by omega)) (Int.natCast_nonneg _) (zz_rf 5 t + 2) (Int.toNat_natCast _) ?_
      refine zz_iload_n (x := p0) rfl zd_9_8_20 ?_
      refine zz_iload_n (x := p1) rfl zd_9_8_21 ?_
      refine zz_iload_n (x := p2) rfl zd_9_8_22 ?_
      refine zz_iadd zd_9_8_23 ?_
      refine zz_nrm (fun v4 hv4 ev4 => ?_)
      refine zz_iast zd_9_8_24 (zT_k5a2 (by omega)) rfl (zN_k5a2 hn (by omega)) (by decide) (by omega) (fun S5 qS5 => ?_)
      have G_S5 := zz_G.put G_S3 qS5 (-2147483648) 2147483647 (zR_k5a2 (by omega)) (by omega)
      have F_S5 := zz_fr.putv F_S3 qS5 (Or.inr (rfl))
      exact zz_vret zd_9_8_25 rfl (Nat.zero_le _) (Nat.zero_le _) ⟨_, rfl, G_S5, F_S5⟩
theorem zk_Reaches_33 : mm_Vl "TensorForge$Reaches" 33 4 3 zy_reads_9_8 := ⟨zyw_reads_9_8, (R_Reaches, F_Reaches, 4), rfl, mm_tb_1 535 (by decide +kernel) rfl, mm_tb_1 537 (by decide +kernel) rfl, mm_tb_s 3 (by decide +kernel) rfl⟩
theorem zd_9_2_129 : zz_D zy_take_9_2 129 (.aload_n 0) 1 130 := ⟨by decide +kernel, rfl⟩
theorem zd_9_2_130 : zz_D zy_take_9_2 130 (.iconst 1) 1 131 := ⟨by decide +kernel, rfl⟩
theorem zd_9_2_131 : zz_D zy_take_9_2 131 (.iload 9) 2 133 := ⟨by decide +kernel, rfl⟩
theorem zd_9_2_133 : zz_D zy_take_9_2 133 (.iload 10) 2 135 := ⟨by decide +kernel, rfl⟩
theorem zd_9_2_135 : zz_D zy_take_9_2 135 (.invokevirtual 37) 3 138 := ⟨by decide +kernel, rfl⟩
abbrev zy_writes_9_9 : mm_Y := (⟨"TensorForge$Reaches", "writes", "(III)V"⟩, prog_9_method_9_code, 4, none)
theorem zyw_writes_9_9 : mm_Yw zy_writes_9_9 3 := ⟨mm_tb_1 542 (by decide +kernel) rfl, mm_tb_1 5 (by decide +kernel) rfl, ⟨by decide, by decide⟩, by decide +kernel⟩
theorem zd_9_9_0 : zz_D zy_writes_9_9 0 (.iload_n 1) 1 1 := ⟨by decide +kernel, rfl⟩
theorem zd_9_9_1 : zz_B zy_writes_9_9 1 (Instr.ifCond .lt) 25 4 := ⟨24, by decide +kernel, rfl, rfl⟩
theorem zd_9_9_25 : zz_D zy_writes_9_9 25 (.return_) 1 26 := ⟨by decide +kernel, rfl⟩
theorem zd_9_9_4 : zz_D zy_writes_9_9 4 (.iload_n 1) 1 5 := ⟨by decide +kernel, rfl⟩
theorem zd_9_9_5 : zz_D zy_writes_9_9 5 (.iconst 5) 1 6 := ⟨by decide +kernel, rfl⟩
theorem zd_9_9_6 : zz_B zy_writes_9_9 6 (Instr.if_icmp .ge) 25 9 := ⟨19, by decide +kernel, rfl, rfl⟩
theorem zd_9_9_9 : zz_D zy_writes_9_9 9 (.aload_n 0) 1 10 := ⟨by decide +kernel, rfl⟩
theorem zd_9_9_10 : zz_D zy_writes_9_9 10 (.getfield 18) 3 13 := ⟨by decide +kernel, rfl⟩
theorem zd_9_9_13 : zz_D zy_writes_9_9 13 (.iload_n 1) 1 14 := ⟨by decide +kernel, rfl⟩
theorem zd_9_9_14 : zz_D zy_writes_9_9 14 (.iload_n 2) 1 15 := ⟨by decide +kernel, rfl⟩
theorem zd_9_9_15 : zz_D zy_writes_9_9 15 (.iastore) 1 16 := ⟨by decide +kernel, rfl⟩
theorem zd_9_9_16 : zz_D zy_writes_9_9 16 (.aload_n 0) 1 17 := ⟨by decide +kernel, rfl⟩
theorem zd_9_9_17 : zz_D zy_writes_9_9 17 (.getfield 21) 3 20 := ⟨by decide +kernel, rfl⟩
theorem zd_9_9_20 : zz_D zy_writes_9_9 20 (.iload_n 1) 1 21 := ⟨by decide +kernel, rfl⟩
theorem zd_9_9_21 : zz_D zy_writes_9_9 21 (.iload_n 2) 1 22 := ⟨by decide +kernel, rfl⟩
theorem zd_9_9_22 : zz_D zy_writes_9_9 22 (.iload_n 3) 1 23 := ⟨by decide +kernel, rfl⟩
theorem zd_9_9_23 : zz_D zy_writes_9_9 23 (.iadd) 1 24 := ⟨by decide +kernel, rfl⟩
theorem zd_9_9_24 : zz_D zy_writes_9_9 24 (.iastore) 1 25 := ⟨by decide +kernel, rfl⟩
-- TensorForge$Reaches writes (III)V
abbrev zr_writes_9_9 : Room := { frames := 0, cells := 0, slots := 0, locals := 0 }
def zp_writes_9_9 (t : Int) (p0 : Int) (p1 : Int) (p2 : Int) (S0 : zz_S) : zz_S → Prop := fun S => zz_G S ∧ zz_fr [] [] (fun a i => a = zz_rf 5 t + 3 ∨ a = zz_rf 5 t + 4) S0 S
theorem zc_writes_9_9 {g : mm_G} {l : Launch} (t : Int) (p0 : Int) (p1 : Int) (p2 : Int) (S0 : zz_S) (n : Nat) (hn : zz_end ≤ n) (G_S0 : zz_G S0) (ht : 0 ≤ t ∧ t ≤ 4) (hp0 : (-2147483648) ≤ p0 ∧ p0 ≤ 2147483647) (hp1 : (-2147483648) ≤ p1 ∧ p1 ≤ 2147483647) (hp2 : (-2147483648) ≤ p2 ∧ p2 ≤ 2147483647) : mm_Met g l zy_writes_9_9 zr_writes_9_9 [.ref (zz_rf 5 t), zi p0, zi p1, zi p2] (zz_M S0 n) n (zz_QV n (zp_writes_9_9 t p0 p1 p2 S0)) := by
  refine zz_enter (by decide) (Nat.le_of_ble_eq_true rfl) (zz_less (ls1 := [some (.ref (zz_rf 5 t)), some (zi p0), some (zi p1), some (zi p2)]) ⟨rfl, ⟨rfl, ⟨rfl, ⟨rfl, trivial⟩⟩⟩⟩ ?_)
  have F_S0 : zz_fr [] [] (fun a i => a = zz_rf 5 t + 3 ∨ a = zz_rf 5 t + 4) S0 S0 := zz_fr.refl
  have b_t := zz_rf5 (z := t) (by omega)
  refine zz_iload_n (x := p0) rfl zd_9_9_0 ?_
  refine zz_if_lt (by omega) zd_9_9_1 (fun c1 => ?_) (fun c1 => ?_)
  · exact zz_vret zd_9_9_25 rfl (Nat.zero_le _) (Nat.zero_le _) ⟨_, rfl, G_S0, F_S0⟩
  · refine zz_iload_n (x := p0) rfl zd_9_9_4 ?_
    refine zz_iconst zd_9_9_5 ?_
    refine zz_icmp_ge (by omega) (by omega) zd_9_9_6 (fun c2 => ?_) (fun c2 => ?_)
    · exact zz_vret zd_9_9_25 rfl (Nat.zero_le _) (Nat.zero_le _) ⟨_, rfl, G_S0, F_S0⟩
    · refine zz_aload_n (x := zz_rf 5 t) rfl zd_9_9_9 ?_
      refine zz_getr (kd := 0) (z := ((zz_rf 5 t + 3 : Nat) : Int)) zd_9_9_10 zf_Reaches_18 (zT_k5 (by omega)) rfl (zN_k5 hn (by omega)) (zE_k5a3 G_S0 (by omega)) (Int.natCast_nonneg _) (zz_rf 5 t + 3) (Int.toNat_natCast _) ?_
      refine zz_iload_n (x := p0) rfl zd_9_9_13 ?_
      refine zz_iload_n (x := p1) rfl zd_9_9_14 ?_
      refine zz_iast zd_9_9_15 (zT_k5a3 (by omega)) rfl (zN_k5a3 hn (by omega)) (by decide) (by omega) (fun S3 qS3 => ?_)
      have G_S3 := zz_G.put G_S0 qS3 (-2147483648) 2147483647 (zR_k5a3 (by omega)) (by omega)
      have F_S3 := zz_fr.putv F_S0 qS3 (Or.inl rfl)
      refine zz_aload_n (x := zz_rf 5 t) rfl zd_9_9_16 ?_
      refine zz_getr (kd := 0) (z := ((zz_rf 5 t + 4 : Nat) : Int)) zd_9_9_17 zf_Reaches_21 (zT_k5 (by omega)) rfl (zN_k5 hn (by omega)) (zE_k5a4 G_S3 (by omega)) (Int.natCast_nonneg _) (zz_rf 5 t + 4) (Int.toNat_natCast _) ?_
      refine zz_iload_n (x := p0) rfl zd_9_9_20 ?_
      refine zz_iload_n (x := p1) rfl zd_9_9_21 ?_
      refine zz_iload_n (x := p2) rfl zd_9_9_22 ?_
      refine zz_iadd zd_9_9_23 ?_
      refine zz_nrm (fun v4 hv4 ev4 => ?_)
      refine zz_iast zd_9_9_24 (zT_k5a4 (by omega)) rfl (zN_k5a4 hn (by omega)) (by decide) (by omega) (fun S5 qS5 => ?_)
      have G_S5 := zz_G.put G_S3 qS5 (-2147483648) 2147483647 (zR_k5a4 (by omega)) (by omega)
      have F_S5 := zz_fr.putv F_S3 qS5 (Or.inr (rfl))
      exact zz_vret zd_9_9_25 rfl (Nat.zero_le _) (Nat.zero_le _) ⟨_, rfl, G_S5, F_S5⟩
theorem zk_Reaches_37 : mm_Vl "TensorForge$Reaches" 37 4 3 zy_writes_9_9 := ⟨zyw_writes_9_9, (R_Reaches, F_Reaches, 4), rfl, mm_tb_1 539 (by decide +kernel) rfl, mm_tb_1 541 (by decide +kernel) rfl, mm_tb_s 4 (by decide +kernel) rfl⟩
theorem zd_9_2_138 : zz_B zy_take_9_2 138 Instr.goto 232 141 := ⟨94, by decide +kernel, rfl, rfl⟩
theorem zd_9_2_232 : zz_D zy_take_9_2 232 (.return_) 1 233 := ⟨by decide +kernel, rfl⟩
theorem zd_9_2_141 : zz_D zy_take_9_2 141 (.aload_n 0) 1 142 := ⟨by decide +kernel, rfl⟩
theorem zd_9_2_142 : zz_D zy_take_9_2 142 (.iconst 0) 1 143 := ⟨by decide +kernel, rfl⟩
theorem zd_9_2_143 : zz_D zy_take_9_2 143 (.iload 5) 2 145 := ⟨by decide +kernel, rfl⟩
theorem zd_9_2_145 : zz_D zy_take_9_2 145 (.iload 11) 2 147 := ⟨by decide +kernel, rfl⟩
theorem zd_9_2_147 : zz_D zy_take_9_2 147 (.invokevirtual 33) 3 150 := ⟨by decide +kernel, rfl⟩
theorem zd_9_2_150 : zz_D zy_take_9_2 150 (.aload_n 0) 1 151 := ⟨by decide +kernel, rfl⟩
theorem zd_9_2_151 : zz_D zy_take_9_2 151 (.iconst 2) 1 152 := ⟨by decide +kernel, rfl⟩
theorem zd_9_2_152 : zz_D zy_take_9_2 152 (.iload 9) 2 154 := ⟨by decide +kernel, rfl⟩
theorem zd_9_2_154 : zz_D zy_take_9_2 154 (.iload 10) 2 156 := ⟨by decide +kernel, rfl⟩
theorem zd_9_2_156 : zz_D zy_take_9_2 156 (.invokevirtual 37) 3 159 := ⟨by decide +kernel, rfl⟩
theorem zd_9_2_159 : zz_B zy_take_9_2 159 Instr.goto 232 162 := ⟨73, by decide +kernel, rfl, rfl⟩
theorem zd_9_2_162 : zz_D zy_take_9_2 162 (.aload_n 0) 1 163 := ⟨by decide +kernel, rfl⟩
theorem zd_9_2_163 : zz_D zy_take_9_2 163 (.iconst 1) 1 164 := ⟨by decide +kernel, rfl⟩
theorem zd_9_2_164 : zz_D zy_take_9_2 164 (.iload 9) 2 166 := ⟨by decide +kernel, rfl⟩
theorem zd_9_2_166 : zz_D zy_take_9_2 166 (.iload 10) 2 168 := ⟨by decide +kernel, rfl⟩
theorem zd_9_2_168 : zz_D zy_take_9_2 168 (.invokevirtual 37) 3 171 := ⟨by decide +kernel, rfl⟩
theorem zd_9_2_171 : zz_B zy_take_9_2 171 Instr.goto 232 174 := ⟨61, by decide +kernel, rfl, rfl⟩
theorem zd_9_2_174 : zz_D zy_take_9_2 174 (.aload_n 0) 1 175 := ⟨by decide +kernel, rfl⟩
theorem zd_9_2_175 : zz_D zy_take_9_2 175 (.iconst 0) 1 176 := ⟨by decide +kernel, rfl⟩
theorem zd_9_2_176 : zz_D zy_take_9_2 176 (.iload 5) 2 178 := ⟨by decide +kernel, rfl⟩
theorem zd_9_2_178 : zz_D zy_take_9_2 178 (.iload 6) 2 180 := ⟨by decide +kernel, rfl⟩
theorem zd_9_2_180 : zz_D zy_take_9_2 180 (.iload 8) 2 182 := ⟨by decide +kernel, rfl⟩
theorem zd_9_2_182 : zz_D zy_take_9_2 182 (.imul) 1 183 := ⟨by decide +kernel, rfl⟩
theorem zd_9_2_183 : zz_D zy_take_9_2 183 (.iconst 4) 1 184 := ⟨by decide +kernel, rfl⟩
theorem zd_9_2_184 : zz_D zy_take_9_2 184 (.iload 7) 2 186 := ⟨by decide +kernel, rfl⟩
theorem zd_9_2_186 : zz_D zy_take_9_2 186 (.imul) 1 187 := ⟨by decide +kernel, rfl⟩
theorem zd_9_2_187 : zz_D zy_take_9_2 187 (.iadd) 1 188 := ⟨by decide +kernel, rfl⟩
theorem zd_9_2_188 : zz_D zy_take_9_2 188 (.iconst 3) 1 189 := ⟨by decide +kernel, rfl⟩
theorem zd_9_2_189 : zz_D zy_take_9_2 189 (.iadd) 1 190 := ⟨by decide +kernel, rfl⟩
theorem zd_9_2_190 : zz_D zy_take_9_2 190 (.invokevirtual 33) 3 193 := ⟨by decide +kernel, rfl⟩
theorem zd_9_2_193 : zz_D zy_take_9_2 193 (.aload_n 0) 1 194 := ⟨by decide +kernel, rfl⟩
theorem zd_9_2_194 : zz_D zy_take_9_2 194 (.iconst 3) 1 195 := ⟨by decide +kernel, rfl⟩
theorem zd_9_2_195 : zz_D zy_take_9_2 195 (.iload 9) 2 197 := ⟨by decide +kernel, rfl⟩
theorem zd_9_2_197 : zz_D zy_take_9_2 197 (.iload 10) 2 199 := ⟨by decide +kernel, rfl⟩
theorem zd_9_2_199 : zz_D zy_take_9_2 199 (.invokevirtual 37) 3 202 := ⟨by decide +kernel, rfl⟩
theorem zd_9_2_202 : zz_B zy_take_9_2 202 Instr.goto 232 205 := ⟨30, by decide +kernel, rfl, rfl⟩
theorem zd_9_2_226 : zz_D zy_take_9_2 226 (.aload_n 0) 1 227 := ⟨by decide +kernel, rfl⟩
theorem zd_9_2_227 : zz_D zy_take_9_2 227 (.lload_n 1) 1 228 := ⟨by decide +kernel, rfl⟩
theorem zd_9_2_228 : zz_D zy_take_9_2 228 (.iload_n 3) 1 229 := ⟨by decide +kernel, rfl⟩
theorem zd_9_2_229 : zz_D zy_take_9_2 229 (.invokevirtual 40) 3 232 := ⟨by decide +kernel, rfl⟩
abbrev zy_takeWork_9_5 : mm_Y := (⟨"TensorForge$Reaches", "takeWork", "(JI)V"⟩, prog_9_method_5_code, 12, none)
theorem zyw_takeWork_9_5 : mm_Yw zy_takeWork_9_5 2 := ⟨mm_tb_1 546 (by decide +kernel) rfl, mm_tb_1 5 (by decide +kernel) rfl, ⟨by decide, by decide⟩, by decide +kernel⟩
theorem zd_9_5_0 : zz_D zy_takeWork_9_5 0 (.lload_n 1) 1 1 := ⟨by decide +kernel, rfl⟩
theorem zd_9_5_1 : zz_D zy_takeWork_9_5 1 (.iconst 0) 1 2 := ⟨by decide +kernel, rfl⟩
theorem zd_9_5_2 : zz_D zy_takeWork_9_5 2 (.invokestatic 29) 3 5 := ⟨by decide +kernel, rfl⟩
theorem zd_9_5_5 : zz_D zy_takeWork_9_5 5 (.istore 4) 2 7 := ⟨by decide +kernel, rfl⟩
theorem zd_9_5_7 : zz_D zy_takeWork_9_5 7 (.lload_n 1) 1 8 := ⟨by decide +kernel, rfl⟩
theorem zd_9_5_8 : zz_D zy_takeWork_9_5 8 (.bipush 6) 2 10 := ⟨by decide +kernel, rfl⟩
theorem zd_9_5_10 : zz_D zy_takeWork_9_5 10 (.invokestatic 29) 3 13 := ⟨by decide +kernel, rfl⟩
theorem zd_9_5_13 : zz_D zy_takeWork_9_5 13 (.iconst 1) 1 14 := ⟨by decide +kernel, rfl⟩
theorem zd_9_5_14 : zz_D zy_takeWork_9_5 14 (.isub) 1 15 := ⟨by decide +kernel, rfl⟩
theorem zd_9_5_15 : zz_D zy_takeWork_9_5 15 (.istore 5) 2 17 := ⟨by decide +kernel, rfl⟩
theorem zd_9_5_17 : zz_D zy_takeWork_9_5 17 (.lload_n 1) 1 18 := ⟨by decide +kernel, rfl⟩
theorem zd_9_5_18 : zz_D zy_takeWork_9_5 18 (.bipush 7) 2 20 := ⟨by decide +kernel, rfl⟩
theorem zd_9_5_20 : zz_D zy_takeWork_9_5 20 (.invokestatic 29) 3 23 := ⟨by decide +kernel, rfl⟩
theorem zd_9_5_23 : zz_D zy_takeWork_9_5 23 (.iconst 1) 1 24 := ⟨by decide +kernel, rfl⟩
theorem zd_9_5_24 : zz_D zy_takeWork_9_5 24 (.isub) 1 25 := ⟨by decide +kernel, rfl⟩
theorem zd_9_5_25 : zz_D zy_takeWork_9_5 25 (.istore 6) 2 27 := ⟨by decide +kernel, rfl⟩
theorem zd_9_5_27 : zz_D zy_takeWork_9_5 27 (.lload_n 1) 1 28 := ⟨by decide +kernel, rfl⟩
theorem zd_9_5_28 : zz_D zy_takeWork_9_5 28 (.bipush 8) 2 30 := ⟨by decide +kernel, rfl⟩
theorem zd_9_5_30 : zz_D zy_takeWork_9_5 30 (.invokestatic 29) 3 33 := ⟨by decide +kernel, rfl⟩
theorem zd_9_5_33 : zz_D zy_takeWork_9_5 33 (.istore 7) 2 35 := ⟨by decide +kernel, rfl⟩
theorem zd_9_5_35 : zz_D zy_takeWork_9_5 35 (.lload_n 1) 1 36 := ⟨by decide +kernel, rfl⟩
theorem zd_9_5_36 : zz_D zy_takeWork_9_5 36 (.bipush 9) 2 38 := ⟨by decide +kernel, rfl⟩
theorem zd_9_5_38 : zz_D zy_takeWork_9_5 38 (.invokestatic 29) 3 41 := ⟨by decide +kernel, rfl⟩
-- TensorForge$Words get (JI)I
abbrev zr_get_12_2x_9 : Room := { frames := 0, cells := 0, slots := 0, locals := 0 }
def zp_get_12_2x_9 (p0 : Int) (S0 : zz_S) : Int → zz_S → Prop := fun r S => S0 = S ∧ (0 ≤ r ∧ r ≤ 511)
theorem zc_get_12_2x_9 {g : mm_G} {l : Launch} (p0 : Int) (S0 : zz_S) (n : Nat) (hn : zz_end ≤ n) (G_S0 : zz_G S0) (hp0 : (-9223372036854775808) ≤ p0 ∧ p0 ≤ 9223372036854775807) : mm_Met g l zy_get_12_2 zr_get_12_2x_9 [zl p0, zi 9] (zz_M S0 n) n (zz_QI n (zp_get_12_2x_9 p0 S0)) := by
  refine zz_enter (by decide) (Nat.le_of_ble_eq_true rfl) (zz_less (ls1 := [some (zl p0), none, some (zi 9)]) ⟨rfl, ⟨rfl, trivial⟩⟩ ?_)
  refine zz_iload_n (x := 9) rfl zd_12_2_0 ?_
  refine zz_if_lt (by omega) zd_12_2_1 (fun c1 => ?_) (fun c1 => ?_)
  · exfalso; omega
  · refine zz_iload_n (x := 9) rfl zd_12_2_4 ?_
    refine zz_bipush (by decide) zd_12_2_5 ?_
    refine zz_icmp_lt (by omega) (by omega) zd_12_2_7 (fun c2 => ?_) (fun c2 => ?_)
    · refine zz_lload_n (x := p0) rfl zd_12_2_12 ?_
      refine zz_gets (q0 := 1) zd_12_2_13 rfl (by decide) zs_Words_9 ?_
      refine zz_iload_n (x := 9) rfl zd_12_2_16 ?_
      refine zz_tiald 40 zd_12_2_17 rfl (by decide) rfl (by decide) (by decide) rfl ?_
      refine zz_lushr zd_12_2_18 (fun v3 hv3 ev3 => ?_)
      refine zz_l2i (by omega) zd_12_2_19 (fun v4 hv4 av4 ev4 => ?_)
      refine zz_gets (q0 := 2) zd_12_2_20 rfl (by decide) zs_Words_13 ?_
      refine zz_iload_n (x := 9) rfl zd_12_2_23 ?_
      refine zz_tiald 511 zd_12_2_24 rfl (by decide) rfl (by decide) (by decide) rfl ?_
      refine zz_iand (by omega) (by omega) zd_12_2_25 (fun v5 hv5 av5 bv5 ev5 => ?_)
      exact zz_iret zd_12_2_26 rfl (Nat.zero_le _) (Nat.zero_le _) ⟨_, _, rfl, rfl, by omega⟩
    · exfalso; omega
theorem zd_9_5_41 : zz_D zy_takeWork_9_5 41 (.istore 8) 2 43 := ⟨by decide +kernel, rfl⟩
theorem zd_9_5_43 : zz_D zy_takeWork_9_5 43 (.lload_n 1) 1 44 := ⟨by decide +kernel, rfl⟩
theorem zd_9_5_44 : zz_D zy_takeWork_9_5 44 (.bipush 11) 2 46 := ⟨by decide +kernel, rfl⟩
theorem zd_9_5_46 : zz_D zy_takeWork_9_5 46 (.invokestatic 29) 3 49 := ⟨by decide +kernel, rfl⟩
theorem zd_9_5_49 : zz_D zy_takeWork_9_5 49 (.istore 9) 2 51 := ⟨by decide +kernel, rfl⟩
theorem zd_9_5_51 : zz_D zy_takeWork_9_5 51 (.iload 5) 2 53 := ⟨by decide +kernel, rfl⟩
theorem zd_9_5_53 : zz_D zy_takeWork_9_5 53 (.iload_n 3) 1 54 := ⟨by decide +kernel, rfl⟩
theorem zd_9_5_54 : zz_D zy_takeWork_9_5 54 (.imul) 1 55 := ⟨by decide +kernel, rfl⟩
theorem zd_9_5_55 : zz_D zy_takeWork_9_5 55 (.iload 6) 2 57 := ⟨by decide +kernel, rfl⟩
theorem zd_9_5_57 : zz_D zy_takeWork_9_5 57 (.iadd) 1 58 := ⟨by decide +kernel, rfl⟩
theorem zd_9_5_58 : zz_D zy_takeWork_9_5 58 (.istore 10) 2 60 := ⟨by decide +kernel, rfl⟩
theorem zd_9_5_60 : zz_D zy_takeWork_9_5 60 (.iload 4) 2 62 := ⟨by decide +kernel, rfl⟩
theorem zd_9_5_62 : zz_D zy_takeWork_9_5 62 (.iconst 5) 1 63 := ⟨by decide +kernel, rfl⟩
theorem zd_9_5_63 : zz_B zy_takeWork_9_5 63 (Instr.if_icmp .ne) 130 66 := ⟨67, by decide +kernel, rfl, rfl⟩
theorem zd_9_5_130 : zz_D zy_takeWork_9_5 130 (.iload 4) 2 132 := ⟨by decide +kernel, rfl⟩
theorem zd_9_5_132 : zz_D zy_takeWork_9_5 132 (.bipush 6) 2 134 := ⟨by decide +kernel, rfl⟩
theorem zd_9_5_134 : zz_B zy_takeWork_9_5 134 (Instr.if_icmp .ne) 167 137 := ⟨33, by decide +kernel, rfl, rfl⟩
theorem zd_9_5_167 : zz_D zy_takeWork_9_5 167 (.iload 4) 2 169 := ⟨by decide +kernel, rfl⟩
theorem zd_9_5_169 : zz_D zy_takeWork_9_5 169 (.bipush 7) 2 171 := ⟨by decide +kernel, rfl⟩
theorem zd_9_5_171 : zz_B zy_takeWork_9_5 171 (Instr.if_icmp .ne) 192 174 := ⟨21, by decide +kernel, rfl, rfl⟩
theorem zd_9_5_192 : zz_D zy_takeWork_9_5 192 (.return_) 1 193 := ⟨by decide +kernel, rfl⟩
theorem zd_9_5_174 : zz_D zy_takeWork_9_5 174 (.aload_n 0) 1 175 := ⟨by decide +kernel, rfl⟩
theorem zd_9_5_175 : zz_D zy_takeWork_9_5 175 (.iconst 3) 1 176 := ⟨by decide +kernel, rfl⟩
theorem zd_9_5_176 : zz_D zy_takeWork_9_5 176 (.iload 7) 2 178 := ⟨by decide +kernel, rfl⟩
theorem zd_9_5_178 : zz_D zy_takeWork_9_5 178 (.iload 10) 2 180 := ⟨by decide +kernel, rfl⟩
theorem zd_9_5_180 : zz_D zy_takeWork_9_5 180 (.invokevirtual 33) 3 183 := ⟨by decide +kernel, rfl⟩
theorem zd_9_5_183 : zz_D zy_takeWork_9_5 183 (.aload_n 0) 1 184 := ⟨by decide +kernel, rfl⟩
theorem zd_9_5_184 : zz_D zy_takeWork_9_5 184 (.iconst 4) 1 185 := ⟨by decide +kernel, rfl⟩
theorem zd_9_5_185 : zz_D zy_takeWork_9_5 185 (.iload 8) 2 187 := ⟨by decide +kernel, rfl⟩
theorem zd_9_5_187 : zz_D zy_takeWork_9_5 187 (.iload 10) 2 189 := ⟨by decide +kernel, rfl⟩
theorem zd_9_5_189 : zz_D zy_takeWork_9_5 189 (.invokevirtual 37) 3 192 := ⟨by decide +kernel, rfl⟩
theorem zd_9_5_137 : zz_D zy_takeWork_9_5 137 (.aload_n 0) 1 138 := ⟨by decide +kernel, rfl⟩
theorem zd_9_5_138 : zz_D zy_takeWork_9_5 138 (.iconst 1) 1 139 := ⟨by decide +kernel, rfl⟩
theorem zd_9_5_139 : zz_D zy_takeWork_9_5 139 (.iload 7) 2 141 := ⟨by decide +kernel, rfl⟩
theorem zd_9_5_141 : zz_D zy_takeWork_9_5 141 (.iload 10) 2 143 := ⟨by decide +kernel, rfl⟩
theorem zd_9_5_143 : zz_D zy_takeWork_9_5 143 (.invokevirtual 33) 3 146 := ⟨by decide +kernel, rfl⟩
theorem zd_9_5_146 : zz_D zy_takeWork_9_5 146 (.aload_n 0) 1 147 := ⟨by decide +kernel, rfl⟩
theorem zd_9_5_147 : zz_D zy_takeWork_9_5 147 (.iload 8) 2 149 := ⟨by decide +kernel, rfl⟩
theorem zd_9_5_149 : zz_D zy_takeWork_9_5 149 (.iload 10) 2 151 := ⟨by decide +kernel, rfl⟩
theorem zd_9_5_151 : zz_D zy_takeWork_9_5 151 (.iload 9) 2 153 := ⟨by decide +kernel, rfl⟩
theorem zd_9_5_153 : zz_B zy_takeWork_9_5 153 (Instr.ifCond .le) 160 156 := ⟨7, by decide +kernel, rfl, rfl⟩
theorem zd_9_5_160 : zz_D zy_takeWork_9_5 160 (.iconst 0) 1 161 := ⟨by decide +kernel, rfl⟩
theorem zd_9_5_161 : zz_D zy_takeWork_9_5 161 (.invokevirtual 51) 3 164 := ⟨by decide +kernel, rfl⟩
abbrev zy_workOnSums_9_6 : mm_Y := (⟨"TensorForge$Reaches", "workOnSums", "(IIZ)V"⟩, prog_9_method_6_code, 4, none)
theorem zyw_workOnSums_9_6 : mm_Yw zy_workOnSums_9_6 3 := ⟨mm_tb_1 550 (by decide +kernel) rfl, mm_tb_1 5 (by decide +kernel) rfl, ⟨by decide, by decide⟩, by decide +kernel⟩
theorem zd_9_6_0 : zz_D zy_workOnSums_9_6 0 (.iload_n 3) 1 1 := ⟨by decide +kernel, rfl⟩
theorem zd_9_6_1 : zz_B zy_workOnSums_9_6 1 (Instr.ifCond .eq) 11 4 := ⟨10, by decide +kernel, rfl, rfl⟩
theorem zd_9_6_11 : zz_D zy_workOnSums_9_6 11 (.aload_n 0) 1 12 := ⟨by decide +kernel, rfl⟩
theorem zd_9_6_12 : zz_D zy_workOnSums_9_6 12 (.iconst 3) 1 13 := ⟨by decide +kernel, rfl⟩
theorem zd_9_6_13 : zz_D zy_workOnSums_9_6 13 (.iload_n 1) 1 14 := ⟨by decide +kernel, rfl⟩
theorem zd_9_6_14 : zz_D zy_workOnSums_9_6 14 (.iload_n 2) 1 15 := ⟨by decide +kernel, rfl⟩
theorem zd_9_6_15 : zz_D zy_workOnSums_9_6 15 (.invokevirtual 37) 3 18 := ⟨by decide +kernel, rfl⟩
theorem zd_9_6_18 : zz_D zy_workOnSums_9_6 18 (.return_) 1 19 := ⟨by decide +kernel, rfl⟩
theorem zd_9_6_4 : zz_D zy_workOnSums_9_6 4 (.aload_n 0) 1 5 := ⟨by decide +kernel, rfl⟩
theorem zd_9_6_5 : zz_D zy_workOnSums_9_6 5 (.iconst 3) 1 6 := ⟨by decide +kernel, rfl⟩
theorem zd_9_6_6 : zz_D zy_workOnSums_9_6 6 (.iload_n 1) 1 7 := ⟨by decide +kernel, rfl⟩
theorem zd_9_6_7 : zz_D zy_workOnSums_9_6 7 (.iload_n 2) 1 8 := ⟨by decide +kernel, rfl⟩
theorem zd_9_6_8 : zz_D zy_workOnSums_9_6 8 (.invokevirtual 33) 3 11 := ⟨by decide +kernel, rfl⟩
-- TensorForge$Reaches workOnSums (IIZ)V
abbrev zr_workOnSums_9_6 : Room := { frames := 1, cells := 0, slots := 0, locals := 15 }
def zp_workOnSums_9_6 (t : Int) (p0 : Int) (p1 : Int) (p2 : Int) (S0 : zz_S) : zz_S → Prop := fun S => zz_G S ∧ zz_fr [] [] (fun a i => a = zz_rf 5 t + 1 ∨ a = zz_rf 5 t + 2 ∨ a = zz_rf 5 t + 3 ∨ a = zz_rf 5 t + 4) S0 S
theorem zc_workOnSums_9_6 {g : mm_G} {l : Launch} (t : Int) (p0 : Int) (p1 : Int) (p2 : Int) (S0 : zz_S) (n : Nat) (hn : zz_end ≤ n) (G_S0 : zz_G S0) (ht : 0 ≤ t ∧ t ≤ 4) (hp0 : (-2147483648) ≤ p0 ∧ p0 ≤ 2147483647) (hp1 : (-2147483648) ≤ p1 ∧ p1 ≤ 2147483647) (hp2 : 0 ≤ p2 ∧ p2 ≤ 1) : mm_Met g l zy_workOnSums_9_6 zr_workOnSums_9_6 [.ref (zz_rf 5 t), zi p0, zi p1, zi p2] (zz_M S0 n) n (zz_QV n (zp_workOnSums_9_6 t p0 p1 p2 S0)) := by
  refine zz_enter (by decide) (Nat.le_of_ble_eq_true rfl) (zz_less (ls1 := [some (.ref (zz_rf 5 t)), some (zi p0), some (zi p1), some (zi p2)]) ⟨rfl, ⟨rfl, ⟨rfl, ⟨rfl, trivial⟩⟩⟩⟩ ?_)
  have F_S0 : zz_fr [] [] (fun a i => a = zz_rf 5 t + 1 ∨ a = zz_rf 5 t + 2 ∨ a = zz_rf 5 t + 3 ∨ a = zz_rf 5 t + 4) S0 S0 := zz_fr.refl
  have b_t := zz_rf5 (z := t) (by omega)
  refine zz_iload_n (x := p2) rfl zd_9_6_0 ?_
  refine zz_if_eq (by omega) zd_9_6_1 (fun c1 => ?_) (fun c1 => ?_)
  · refine zz_aload_n (x := zz_rf 5 t) rfl zd_9_6_11 ?_
    refine zz_iconst zd_9_6_12 ?_
    refine zz_iload_n (x := p0) rfl zd_9_6_13 ?_
    refine zz_iload_n (x := p1) rfl zd_9_6_14 ?_
    refine zz_callVV [zi 3, zi p0, zi p1] zd_9_6_15 zk_Reaches_37 (zT_k5 (by omega)) (zN_k5 hn (by omega)) rfl rfl ⟨Nat.le_of_ble_eq_true rfl, Nat.le_of_ble_eq_true rfl⟩ ⟨rfl, rfl⟩ (Nat.zero_le _) (Nat.zero_le _) (zc_writes_9_9 t 3 p0 p1 S0 n hn G_S0 (by omega) (by omega) (by omega) (by omega)) (fun S2 hP => ?_)
    obtain ⟨G_S2, fS2⟩ := hP
    have F_S2 := zz_fr.trans F_S0 fS2 rfl (fun a i h => by rcases h with h | h; exact Or.inr (Or.inr (Or.inr (Or.inr (Or.inl h)))); exact Or.inr (Or.inr (Or.inr (Or.inr (Or.inr (h))))))
    exact zz_vret zd_9_6_18 rfl (Nat.zero_le _) (Nat.zero_le _) ⟨_, rfl, G_S2, F_S2⟩
  · refine zz_aload_n (x := zz_rf 5 t) rfl zd_9_6_4 ?_
    refine zz_iconst zd_9_6_5 ?_
    refine zz_iload_n (x := p0) rfl zd_9_6_6 ?_
    refine zz_iload_n (x := p1) rfl zd_9_6_7 ?_
    refine zz_callVV [zi 3, zi p0, zi p1] zd_9_6_8 zk_Reaches_33 (zT_k5 (by omega)) (zN_k5 hn (by omega)) rfl rfl ⟨Nat.le_of_ble_eq_true rfl, Nat.le_of_ble_eq_true rfl⟩ ⟨rfl, rfl⟩ (Nat.zero_le _) (Nat.zero_le _) (zc_reads_9_8 t 3 p0 p1 S0 n hn G_S0 (by omega) (by omega) (by omega) (by omega)) (fun S4 hP => ?_)
    obtain ⟨G_S4, fS4⟩ := hP
    have F_S4 := zz_fr.trans F_S0 fS4 rfl (fun a i h => by rcases h with h | h; exact Or.inr (Or.inr (Or.inl h)); exact Or.inr (Or.inr (Or.inr (Or.inl h))))
    refine zz_aload_n (x := zz_rf 5 t) rfl zd_9_6_11 ?_
    refine zz_iconst zd_9_6_12 ?_
    refine zz_iload_n (x := p0) rfl zd_9_6_13 ?_
    refine zz_iload_n (x := p1) rfl zd_9_6_14 ?_
    refine zz_callVV [zi 3, zi p0, zi p1] zd_9_6_15 zk_Reaches_37 (zT_k5 (by omega)) (zN_k5 hn (by omega)) rfl rfl ⟨Nat.le_of_ble_eq_true rfl, Nat.le_of_ble_eq_true rfl⟩ ⟨rfl, rfl⟩ (Nat.zero_le _) (Nat.zero_le _) (zc_writes_9_9 t 3 p0 p1 S4 n hn G_S4 (by omega) (by omega) (by omega) (by omega)) (fun S6 hP => ?_)
    obtain ⟨G_S6, fS6⟩ := hP
    have F_S6 := zz_fr.trans F_S4 fS6 rfl (fun a i h => by rcases h with h | h; exact Or.inr (Or.inr (Or.inr (Or.inr (Or.inl h)))); exact Or.inr (Or.inr (Or.inr (Or.inr (Or.inr (h))))))
    exact zz_vret zd_9_6_18 rfl (Nat.zero_le _) (Nat.zero_le _) ⟨_, rfl, G_S6, F_S6⟩
theorem zk_Reaches_51 : mm_Vl "TensorForge$Reaches" 51 4 3 zy_workOnSums_9_6 := ⟨zyw_workOnSums_9_6, (R_Reaches, F_Reaches, 4), rfl, mm_tb_1 547 (by decide +kernel) rfl, mm_tb_1 549 (by decide +kernel) rfl, mm_tb_s 6 (by decide +kernel) rfl⟩
theorem zd_9_5_164 : zz_B zy_takeWork_9_5 164 Instr.goto 192 167 := ⟨28, by decide +kernel, rfl, rfl⟩
theorem zd_9_5_156 : zz_D zy_takeWork_9_5 156 (.iconst 1) 1 157 := ⟨by decide +kernel, rfl⟩
theorem zd_9_5_157 : zz_B zy_takeWork_9_5 157 Instr.goto 161 160 := ⟨4, by decide +kernel, rfl, rfl⟩
theorem zd_9_5_66 : zz_D zy_takeWork_9_5 66 (.iload 9) 2 68 := ⟨by decide +kernel, rfl⟩
theorem zd_9_5_68 : zz_D zy_takeWork_9_5 68 (.iconst 2) 1 69 := ⟨by decide +kernel, rfl⟩
theorem zd_9_5_69 : zz_D zy_takeWork_9_5 69 (.idiv) 1 70 := ⟨by decide +kernel, rfl⟩
theorem zd_9_5_70 : zz_D zy_takeWork_9_5 70 (.iconst 1) 1 71 := ⟨by decide +kernel, rfl⟩
theorem zd_9_5_71 : zz_D zy_takeWork_9_5 71 (.isub) 1 72 := ⟨by decide +kernel, rfl⟩
theorem zd_9_5_72 : zz_D zy_takeWork_9_5 72 (.istore 11) 2 74 := ⟨by decide +kernel, rfl⟩
theorem zd_9_5_74 : zz_D zy_takeWork_9_5 74 (.aload_n 0) 1 75 := ⟨by decide +kernel, rfl⟩
theorem zd_9_5_75 : zz_D zy_takeWork_9_5 75 (.iconst 1) 1 76 := ⟨by decide +kernel, rfl⟩
theorem zd_9_5_76 : zz_D zy_takeWork_9_5 76 (.iload 7) 2 78 := ⟨by decide +kernel, rfl⟩
theorem zd_9_5_78 : zz_D zy_takeWork_9_5 78 (.iload 5) 2 80 := ⟨by decide +kernel, rfl⟩
theorem zd_9_5_80 : zz_D zy_takeWork_9_5 80 (.iload_n 3) 1 81 := ⟨by decide +kernel, rfl⟩
theorem zd_9_5_81 : zz_D zy_takeWork_9_5 81 (.imul) 1 82 := ⟨by decide +kernel, rfl⟩
theorem zd_9_5_82 : zz_D zy_takeWork_9_5 82 (.iload 11) 2 84 := ⟨by decide +kernel, rfl⟩
theorem zd_9_5_84 : zz_D zy_takeWork_9_5 84 (.iadd) 1 85 := ⟨by decide +kernel, rfl⟩
theorem zd_9_5_85 : zz_D zy_takeWork_9_5 85 (.invokevirtual 33) 3 88 := ⟨by decide +kernel, rfl⟩
theorem zd_9_5_88 : zz_D zy_takeWork_9_5 88 (.aload_n 0) 1 89 := ⟨by decide +kernel, rfl⟩
theorem zd_9_5_89 : zz_D zy_takeWork_9_5 89 (.iconst 2) 1 90 := ⟨by decide +kernel, rfl⟩
theorem zd_9_5_90 : zz_D zy_takeWork_9_5 90 (.lload_n 1) 1 91 := ⟨by decide +kernel, rfl⟩
theorem zd_9_5_91 : zz_D zy_takeWork_9_5 91 (.bipush 10) 2 93 := ⟨by decide +kernel, rfl⟩
theorem zd_9_5_93 : zz_D zy_takeWork_9_5 93 (.invokestatic 29) 3 96 := ⟨by decide +kernel, rfl⟩
theorem zd_9_5_96 : zz_D zy_takeWork_9_5 96 (.iload 11) 2 98 := ⟨by decide +kernel, rfl⟩
theorem zd_9_5_98 : zz_D zy_takeWork_9_5 98 (.iload_n 3) 1 99 := ⟨by decide +kernel, rfl⟩
theorem zd_9_5_99 : zz_D zy_takeWork_9_5 99 (.imul) 1 100 := ⟨by decide +kernel, rfl⟩
theorem zd_9_5_100 : zz_D zy_takeWork_9_5 100 (.iload 6) 2 102 := ⟨by decide +kernel, rfl⟩
theorem zd_9_5_102 : zz_D zy_takeWork_9_5 102 (.iadd) 1 103 := ⟨by decide +kernel, rfl⟩
theorem zd_9_5_103 : zz_D zy_takeWork_9_5 103 (.invokevirtual 33) 3 106 := ⟨by decide +kernel, rfl⟩
theorem zd_9_5_106 : zz_D zy_takeWork_9_5 106 (.aload_n 0) 1 107 := ⟨by decide +kernel, rfl⟩
theorem zd_9_5_107 : zz_D zy_takeWork_9_5 107 (.iload 8) 2 109 := ⟨by decide +kernel, rfl⟩
theorem zd_9_5_109 : zz_D zy_takeWork_9_5 109 (.iload 10) 2 111 := ⟨by decide +kernel, rfl⟩
theorem zd_9_5_111 : zz_D zy_takeWork_9_5 111 (.iload 9) 2 113 := ⟨by decide +kernel, rfl⟩
theorem zd_9_5_113 : zz_D zy_takeWork_9_5 113 (.iconst 1) 1 114 := ⟨by decide +kernel, rfl⟩
theorem zd_9_5_114 : zz_D zy_takeWork_9_5 114 (.iand) 1 115 := ⟨by decide +kernel, rfl⟩
theorem zd_9_5_115 : zz_D zy_takeWork_9_5 115 (.iconst 1) 1 116 := ⟨by decide +kernel, rfl⟩
theorem zd_9_5_116 : zz_B zy_takeWork_9_5 116 (Instr.if_icmp .ne) 123 119 := ⟨7, by decide +kernel, rfl, rfl⟩
theorem zd_9_5_123 : zz_D zy_takeWork_9_5 123 (.iconst 0) 1 124 := ⟨by decide +kernel, rfl⟩
theorem zd_9_5_124 : zz_D zy_takeWork_9_5 124 (.invokevirtual 51) 3 127 := ⟨by decide +kernel, rfl⟩
theorem zd_9_5_127 : zz_B zy_takeWork_9_5 127 Instr.goto 192 130 := ⟨65, by decide +kernel, rfl, rfl⟩
theorem zd_9_5_119 : zz_D zy_takeWork_9_5 119 (.iconst 1) 1 120 := ⟨by decide +kernel, rfl⟩
theorem zd_9_5_120 : zz_B zy_takeWork_9_5 120 Instr.goto 124 123 := ⟨4, by decide +kernel, rfl, rfl⟩
-- TensorForge$Reaches takeWork (JI)V
abbrev zr_takeWork_9_5 : Room := { frames := 2, cells := 0, slots := 0, locals := 30 }
def zp_takeWork_9_5 (t : Int) (p0 : Int) (p1 : Int) (S0 : zz_S) : zz_S → Prop := fun S => zz_G S ∧ zz_fr [] [] (fun a i => a = zz_rf 5 t + 1 ∨ a = zz_rf 5 t + 2 ∨ a = zz_rf 5 t + 3 ∨ a = zz_rf 5 t + 4) S0 S
theorem zc_takeWork_9_5 {g : mm_G} {l : Launch} (t : Int) (p0 : Int) (p1 : Int) (S0 : zz_S) (n : Nat) (hn : zz_end ≤ n) (G_S0 : zz_G S0) (ht : 0 ≤ t ∧ t ≤ 4) (hp0 : (-9223372036854775808) ≤ p0 ∧ p0 ≤ 9223372036854775807) (hp1 : 2 ≤ p1 ∧ p1 ≤ 8) : mm_Met g l zy_takeWork_9_5 zr_takeWork_9_5 [.ref (zz_rf 5 t), zl p0, zi p1] (zz_M S0 n) n (zz_QV n (zp_takeWork_9_5 t p0 p1 S0)) := by
  refine zz_enter (by decide) (Nat.le_of_ble_eq_true rfl) (zz_less (ls1 := [some (.ref (zz_rf 5 t)), some (zl p0), none, some (zi p1)]) ⟨rfl, ⟨rfl, ⟨rfl, trivial⟩⟩⟩ ?_)
  have F_S0 : zz_fr [] [] (fun a i => a = zz_rf 5 t + 1 ∨ a = zz_rf 5 t + 2 ∨ a = zz_rf 5 t + 3 ∨ a = zz_rf 5 t + 4) S0 S0 := zz_fr.refl
  have b_t := zz_rf5 (z := t) (by omega)
  refine zz_lload_n (x := p0) rfl zd_9_5_0 ?_
  refine zz_iconst zd_9_5_1 ?_
  refine zz_callSI [zl p0, zi 0] zd_9_5_2 zk_Reaches_29 rfl rfl ⟨Nat.le_of_ble_eq_true rfl, Nat.le_of_ble_eq_true rfl⟩ ⟨rfl, rfl⟩ (Nat.zero_le _) (Nat.zero_le _) (zc_get_12_2x_0 p0 S0 n hn G_S0 (by omega)) (fun v2 S1 hP => ?_)
  obtain ⟨rfl, o3⟩ := hP
  refine zz_istore [some (.ref (zz_rf 5 t)), some (zl p0), none, some (zi p1), some (zi v2)] zd_9_5_5 (by decide) rfl ?_
  refine zz_lload_n (x := p0) rfl zd_9_5_7 ?_
  refine zz_bipush (by decide) zd_9_5_8 ?_
  refine zz_callSI [zl p0, zi 6] zd_9_5_10 zk_Reaches_29 rfl rfl ⟨Nat.le_of_ble_eq_true rfl, Nat.le_of_ble_eq_true rfl⟩ ⟨rfl, rfl⟩ (Nat.zero_le _) (Nat.zero_le _) (zc_get_12_2x_6 p0 S0 n hn G_S0 (by omega)) (fun v5 S4 hP => ?_)
  obtain ⟨rfl, o6⟩ := hP
  refine zz_iconst zd_9_5_13 ?_
  refine zz_isub zd_9_5_14 ?_
  refine zz_istore [some (.ref (zz_rf 5 t)), some (zl p0), none, some (zi p1), some (zi v2), some (zi (v5 - 1))] zd_9_5_15 (by decide) rfl ?_
  refine zz_lload_n (x := p0) rfl zd_9_5_17 ?_
  refine zz_bipush (by decide) zd_9_5_18 ?_
  refine zz_callSI [zl p0, zi 7] zd_9_5_20 zk_Reaches_29 rfl rfl ⟨Nat.le_of_ble_eq_true rfl, Nat.le_of_ble_eq_true rfl⟩ ⟨rfl, rfl⟩ (Nat.zero_le _) (Nat.zero_le _) (zc_get_12_2x_7 p0 S0 n hn G_S0 (by omega)) (fun v8 S7 hP => ?_)
  obtain ⟨rfl, o9⟩ := hP
  refine zz_iconst zd_9_5_23 ?_
  refine zz_isub zd_9_5_24 ?_
  refine zz_istore [some (.ref (zz_rf 5 t)), some (zl p0), none, some (zi p1), some (zi v2), some (zi (v5 - 1)), some (zi (v8 - 1))] zd_9_5_25 (by decide) rfl ?_
  refine zz_lload_n (x := p0) rfl zd_9_5_27 ?_
  refine zz_bipush (by decide) zd_9_5_28 ?_
  refine zz_callSI [zl p0, zi 8] zd_9_5_30 zk_Reaches_29 rfl rfl ⟨Nat.le_of_ble_eq_true rfl, Nat.le_of_ble_eq_true rfl⟩ ⟨rfl, rfl⟩ (Nat.zero_le _) (Nat.zero_le _) (zc_get_12_2x_8 p0 S0 n hn G_S0 (by omega)) (fun v11 S10 hP => ?_)
  obtain ⟨rfl, o12⟩ := hP
  refine zz_istore [some (.ref (zz_rf 5 t)), some (zl p0), none, some (zi p1), some (zi v2), some (zi (v5 - 1)), some (zi (v8 - 1)), some (zi v11)] zd_9_5_33 (by decide) rfl ?_
  refine zz_lload_n (x := p0) rfl zd_9_5_35 ?_
  refine zz_bipush (by decide) zd_9_5_36 ?_
  refine zz_callSI [zl p0, zi 9] zd_9_5_38 zk_Reaches_29 rfl rfl ⟨Nat.le_of_ble_eq_true rfl, Nat.le_of_ble_eq_true rfl⟩ ⟨rfl, rfl⟩ (Nat.zero_le _) (Nat.zero_le _) (zc_get_12_2x_9 p0 S0 n hn G_S0 (by omega)) (fun v14 S13 hP => ?_)
  obtain ⟨rfl, o15⟩ := hP
  refine zz_istore [some (.ref (zz_rf 5 t)), some (zl p0), none, some (zi p1), some (zi v2), some (zi (v5 - 1)), some (zi (v8 - 1)), some (zi v11), some (zi v14)] zd_9_5_41 (by decide) rfl ?_
  refine zz_lload_n (x := p0) rfl zd_9_5_43 ?_
  refine zz_bipush (by decide) zd_9_5_44 ?_
  refine zz_callSI [zl p0, zi 11] zd_9_5_46 zk_Reaches_29 rfl rfl ⟨Nat.le_of_ble_eq_true rfl, Nat.le_of_ble_eq_true rfl⟩ ⟨rfl, rfl⟩ (Nat.zero_le _) (Nat.zero_le _) (zc_get_12_2x_11 p0 S0 n hn G_S0 (by omega)) (fun v17 S16 hP => ?_)
  obtain ⟨rfl, o18⟩ := hP
  refine zz_istore [some (.ref (zz_rf 5 t)), some (zl p0), none, some (zi p1), some (zi v2), some (zi (v5 - 1)), some (zi (v8 - 1)), some (zi v11), some (zi v14), some (zi v17)] zd_9_5_49 (by decide) rfl ?_
  refine zz_iload (x := v5 - 1) rfl zd_9_5_51 ?_
  refine zz_iload_n (x := p1) rfl zd_9_5_53 ?_
  refine zz_imul zd_9_5_54 ?_
  have m19 := zz_mulh (a := v5 - 1) (b := p1) (-1) 62 8 (-8) 496 (by omega) (by omega) (by decide) (by decide) (by decide) (by decide)
  refine zz_iload (x := v8 - 1) rfl zd_9_5_55 ?_
  refine zz_iadd zd_9_5_57 ?_
  refine zz_istore [some (.ref (zz_rf 5 t)), some (zl p0), none, some (zi p1), some (zi v2), some (zi (v5 - 1)), some (zi (v8 - 1)), some (zi v11), some (zi v14), some (zi v17), some (zi (((v5 - 1) * p1) + (v8 - 1)))] zd_9_5_58 (by decide) rfl ?_
  refine zz_iload (x := v2) rfl zd_9_5_60 ?_
  refine zz_iconst zd_9_5_62 ?_
  refine zz_icmp_ne (by omega) (by omega) zd_9_5_63 (fun c20 => ?_) (fun c20 => ?_)
  · refine zz_iload (x := v2) rfl zd_9_5_130 ?_
    refine zz_bipush (by decide) zd_9_5_132 ?_
    refine zz_icmp_ne (by omega) (by omega) zd_9_5_134 (fun c21 => ?_) (fun c21 => ?_)
    · refine zz_iload (x := v2) rfl zd_9_5_167 ?_
      refine zz_bipush (by decide) zd_9_5_169 ?_
      refine zz_icmp_ne (by omega) (by omega) zd_9_5_171 (fun c22 => ?_) (fun c22 => ?_)
      · exact zz_vret zd_9_5_192 rfl (Nat.zero_le _) (Nat.zero_le _) ⟨_, rfl, G_S0, F_S0⟩
      · refine zz_aload_n (x := zz_rf 5 t) rfl zd_9_5_174 ?_
        refine zz_iconst zd_9_5_175 ?_
        refine zz_iload (x := v11) rfl zd_9_5_176 ?_
        refine zz_iload (x := ((v5 - 1) * p1) + (v8 - 1)) rfl zd_9_5_178 ?_
        refine zz_callVV [zi 3, zi v11, zi (((v5 - 1) * p1) + (v8 - 1))] zd_9_5_180 zk_Reaches_33 (zT_k5 (by omega)) (zN_k5 hn (by omega)) rfl rfl ⟨Nat.le_of_ble_eq_true rfl, Nat.le_of_ble_eq_true rfl⟩ ⟨rfl, rfl⟩ (Nat.zero_le _) (Nat.zero_le _) (zc_reads_9_8 t 3 v11 (((v5 - 1) * p1) + (v8 - 1)) S0 n hn G_S0 (by omega) (by omega) (by omega) (by omega)) (fun S23 hP => ?_)
        obtain ⟨G_S23, fS23⟩ := hP
        have F_S23 := zz_fr.trans F_S0 fS23 rfl (fun a i h => by rcases h with h | h; exact Or.inr (Or.inr (Or.inl h)); exact Or.inr (Or.inr (Or.inr (Or.inl h))))
        refine zz_aload_n (x := zz_rf 5 t) rfl zd_9_5_183 ?_
        refine zz_iconst zd_9_5_184 ?_
        refine zz_iload (x := v14) rfl zd_9_5_185 ?_
        refine zz_iload (x := ((v5 - 1) * p1) + (v8 - 1)) rfl zd_9_5_187 ?_
        refine zz_callVV [zi 4, zi v14, zi (((v5 - 1) * p1) + (v8 - 1))] zd_9_5_189 zk_Reaches_37 (zT_k5 (by omega)) (zN_k5 hn (by omega)) rfl rfl ⟨Nat.le_of_ble_eq_true rfl, Nat.le_of_ble_eq_true rfl⟩ ⟨rfl, rfl⟩ (Nat.zero_le _) (Nat.zero_le _) (zc_writes_9_9 t 4 v14 (((v5 - 1) * p1) + (v8 - 1)) S23 n hn G_S23 (by omega) (by omega) (by omega) (by omega)) (fun S25 hP => ?_)
        obtain ⟨G_S25, fS25⟩ := hP
        have F_S25 := zz_fr.trans F_S23 fS25 rfl (fun a i h => by rcases h with h | h; exact Or.inr (Or.inr (Or.inr (Or.inr (Or.inl h)))); exact Or.inr (Or.inr (Or.inr (Or.inr (Or.inr (h))))))
        exact zz_vret zd_9_5_192 rfl (Nat.zero_le _) (Nat.zero_le _) ⟨_, rfl, G_S25, F_S25⟩
    · refine zz_aload_n (x := zz_rf 5 t) rfl zd_9_5_137 ?_
      refine zz_iconst zd_9_5_138 ?_
      refine zz_iload (x := v11) rfl zd_9_5_139 ?_
      refine zz_iload (x := ((v5 - 1) * p1) + (v8 - 1)) rfl zd_9_5_141 ?_
      refine zz_callVV [zi 1, zi v11, zi (((v5 - 1) * p1) + (v8 - 1))] zd_9_5_143 zk_Reaches_33 (zT_k5 (by omega)) (zN_k5 hn (by omega)) rfl rfl ⟨Nat.le_of_ble_eq_true rfl, Nat.le_of_ble_eq_true rfl⟩ ⟨rfl, rfl⟩ (Nat.zero_le _) (Nat.zero_le _) (zc_reads_9_8 t 1 v11 (((v5 - 1) * p1) + (v8 - 1)) S0 n hn G_S0 (by omega) (by omega) (by omega) (by omega)) (fun S27 hP => ?_)
      obtain ⟨G_S27, fS27⟩ := hP
      have F_S27 := zz_fr.trans F_S0 fS27 rfl (fun a i h => by rcases h with h | h; exact Or.inr (Or.inr (Or.inl h)); exact Or.inr (Or.inr (Or.inr (Or.inl h))))
      refine zz_aload_n (x := zz_rf 5 t) rfl zd_9_5_146 ?_
      refine zz_iload (x := v14) rfl zd_9_5_147 ?_
      refine zz_iload (x := ((v5 - 1) * p1) + (v8 - 1)) rfl zd_9_5_149 ?_
      refine zz_iload (x := v17) rfl zd_9_5_151 ?_
      refine zz_if_le (by omega) zd_9_5_153 (fun c29 => ?_) (fun c29 => ?_)
      · refine zz_iconst zd_9_5_160 ?_
        refine zz_callVV [zi v14, zi (((v5 - 1) * p1) + (v8 - 1)), zi 0] zd_9_5_161 zk_Reaches_51 (zT_k5 (by omega)) (zN_k5 hn (by omega)) rfl rfl ⟨Nat.le_of_ble_eq_true rfl, Nat.le_of_ble_eq_true rfl⟩ ⟨rfl, rfl⟩ (Nat.zero_le _) (Nat.zero_le _) (zc_workOnSums_9_6 t v14 (((v5 - 1) * p1) + (v8 - 1)) 0 S27 n hn G_S27 (by omega) (by omega) (by omega) (by omega)) (fun S30 hP => ?_)
        obtain ⟨G_S30, fS30⟩ := hP
        have F_S30 := zz_fr.trans F_S27 fS30 rfl (fun a i h => by rcases h with h | h | h | h; exact Or.inr (Or.inr (Or.inl h)); exact Or.inr (Or.inr (Or.inr (Or.inl h))); exact Or.inr (Or.inr (Or.inr (Or.inr (Or.inl h)))); exact Or.inr (Or.inr (Or.inr (Or.inr (Or.inr (h))))))
        refine zz_goto zd_9_5_164 ?_
        exact zz_vret zd_9_5_192 rfl (Nat.zero_le _) (Nat.zero_le _) ⟨_, rfl, G_S30, F_S30⟩
      · refine zz_iconst zd_9_5_156 ?_
        refine zz_goto zd_9_5_157 ?_
        refine zz_callVV [zi v14, zi (((v5 - 1) * p1) + (v8 - 1)), zi 1] zd_9_5_161 zk_Reaches_51 (zT_k5 (by omega)) (zN_k5 hn (by omega)) rfl rfl ⟨Nat.le_of_ble_eq_true rfl, Nat.le_of_ble_eq_true rfl⟩ ⟨rfl, rfl⟩ (Nat.zero_le _) (Nat.zero_le _) (zc_workOnSums_9_6 t v14 (((v5 - 1) * p1) + (v8 - 1)) 1 S27 n hn G_S27 (by omega) (by omega) (by omega) (by omega)) (fun S32 hP => ?_)
        obtain ⟨G_S32, fS32⟩ := hP
        have F_S32 := zz_fr.trans F_S27 fS32 rfl (fun a i h => by rcases h with h | h | h | h; exact Or.inr (Or.inr (Or.inl h)); exact Or.inr (Or.inr (Or.inr (Or.inl h))); exact Or.inr (Or.inr (Or.inr (Or.inr (Or.inl h)))); exact Or.inr (Or.inr (Or.inr (Or.inr (Or.inr (h))))))
        refine zz_goto zd_9_5_164 ?_
        exact zz_vret zd_9_5_192 rfl (Nat.zero_le _) (Nat.zero_le _) ⟨_, rfl, G_S32, F_S32⟩
  · refine zz_iload (x := v17) rfl zd_9_5_66 ?_
    refine zz_iconst zd_9_5_68 ?_
    refine zz_idiv (by omega) (by omega) zd_9_5_69 (fun v34 hv34 av34 bv34 cv34 => ?_)
    refine zz_iconst zd_9_5_70 ?_
    refine zz_isub zd_9_5_71 ?_
    refine zz_istore [some (.ref (zz_rf 5 t)), some (zl p0), none, some (zi p1), some (zi v2), some (zi (v5 - 1)), some (zi (v8 - 1)), some (zi v11), some (zi v14), some (zi v17), some (zi (((v5 - 1) * p1) + (v8 - 1))), some (zi (v34 - 1))] zd_9_5_72 (by decide) rfl ?_
    refine zz_aload_n (x := zz_rf 5 t) rfl zd_9_5_74 ?_
    refine zz_iconst zd_9_5_75 ?_
    refine zz_iload (x := v11) rfl zd_9_5_76 ?_
    refine zz_iload (x := v5 - 1) rfl zd_9_5_78 ?_
    refine zz_iload_n (x := p1) rfl zd_9_5_80 ?_
    refine zz_imul zd_9_5_81 ?_
    have m35 := zz_mulh (a := v5 - 1) (b := p1) (-1) 62 8 (-8) 496 (by omega) (by omega) (by decide) (by decide) (by decide) (by decide)
    refine zz_iload (x := v34 - 1) rfl zd_9_5_82 ?_
    refine zz_iadd zd_9_5_84 ?_
    refine zz_callVV [zi 1, zi v11, zi (((v5 - 1) * p1) + (v34 - 1))] zd_9_5_85 zk_Reaches_33 (zT_k5 (by omega)) (zN_k5 hn (by omega)) rfl rfl ⟨Nat.le_of_ble_eq_true rfl, Nat.le_of_ble_eq_true rfl⟩ ⟨rfl, rfl⟩ (Nat.zero_le _) (Nat.zero_le _) (zc_reads_9_8 t 1 v11 (((v5 - 1) * p1) + (v34 - 1)) S0 n hn G_S0 (by omega) (by omega) (by omega) (by omega)) (fun S36 hP => ?_)
    obtain ⟨G_S36, fS36⟩ := hP
    have F_S36 := zz_fr.trans F_S0 fS36 rfl (fun a i h => by rcases h with h | h; exact Or.inr (Or.inr (Or.inl h)); exact Or.inr (Or.inr (Or.inr (Or.inl h))))
    refine zz_aload_n (x := zz_rf 5 t) rfl zd_9_5_88 ?_
    refine zz_iconst zd_9_5_89 ?_
    refine zz_lload_n (x := p0) rfl zd_9_5_90 ?_
    refine zz_bipush (by decide) zd_9_5_91 ?_
    refine zz_callSI [zl p0, zi 10] zd_9_5_93 zk_Reaches_29 rfl rfl ⟨Nat.le_of_ble_eq_true rfl, Nat.le_of_ble_eq_true rfl⟩ ⟨rfl, rfl⟩ (Nat.zero_le _) (Nat.zero_le _) (zc_get_12_2x_10 p0 S36 n hn G_S36 (by omega)) (fun v39 S38 hP => ?_)
    obtain ⟨rfl, o40⟩ := hP
    refine zz_iload (x := v34 - 1) rfl zd_9_5_96 ?_
    refine zz_iload_n (x := p1) rfl zd_9_5_98 ?_
    refine zz_imul zd_9_5_99 ?_
    have m41 := zz_mulh (a := v34 - 1) (b := p1) (-1) 14 8 (-8) 112 (by omega) (by omega) (by decide) (by decide) (by decide) (by decide)
    refine zz_iload (x := v8 - 1) rfl zd_9_5_100 ?_
    refine zz_iadd zd_9_5_102 ?_
    refine zz_callVV [zi 2, zi v39, zi (((v34 - 1) * p1) + (v8 - 1))] zd_9_5_103 zk_Reaches_33 (zT_k5 (by omega)) (zN_k5 hn (by omega)) rfl rfl ⟨Nat.le_of_ble_eq_true rfl, Nat.le_of_ble_eq_true rfl⟩ ⟨rfl, rfl⟩ (Nat.zero_le _) (Nat.zero_le _) (zc_reads_9_8 t 2 v39 (((v34 - 1) * p1) + (v8 - 1)) S36 n hn G_S36 (by omega) (by omega) (by omega) (by omega)) (fun S42 hP => ?_)
    obtain ⟨G_S42, fS42⟩ := hP
    have F_S42 := zz_fr.trans F_S36 fS42 rfl (fun a i h => by rcases h with h | h; exact Or.inr (Or.inr (Or.inl h)); exact Or.inr (Or.inr (Or.inr (Or.inl h))))
    refine zz_aload_n (x := zz_rf 5 t) rfl zd_9_5_106 ?_
    refine zz_iload (x := v14) rfl zd_9_5_107 ?_
    refine zz_iload (x := ((v5 - 1) * p1) + (v8 - 1)) rfl zd_9_5_109 ?_
    refine zz_iload (x := v17) rfl zd_9_5_111 ?_
    refine zz_iconst zd_9_5_113 ?_
    refine zz_iand (by omega) (by omega) zd_9_5_114 (fun v44 hv44 av44 bv44 ev44 => ?_)
    refine zz_iconst zd_9_5_115 ?_
    refine zz_icmp_ne (by omega) (by omega) zd_9_5_116 (fun c45 => ?_) (fun c45 => ?_)
    · refine zz_iconst zd_9_5_123 ?_
      refine zz_callVV [zi v14, zi (((v5 - 1) * p1) + (v8 - 1)), zi 0] zd_9_5_124 zk_Reaches_51 (zT_k5 (by omega)) (zN_k5 hn (by omega)) rfl rfl ⟨Nat.le_of_ble_eq_true rfl, Nat.le_of_ble_eq_true rfl⟩ ⟨rfl, rfl⟩ (Nat.zero_le _) (Nat.zero_le _) (zc_workOnSums_9_6 t v14 (((v5 - 1) * p1) + (v8 - 1)) 0 S42 n hn G_S42 (by omega) (by omega) (by omega) (by omega)) (fun S46 hP => ?_)
      obtain ⟨G_S46, fS46⟩ := hP
      have F_S46 := zz_fr.trans F_S42 fS46 rfl (fun a i h => by rcases h with h | h | h | h; exact Or.inr (Or.inr (Or.inl h)); exact Or.inr (Or.inr (Or.inr (Or.inl h))); exact Or.inr (Or.inr (Or.inr (Or.inr (Or.inl h)))); exact Or.inr (Or.inr (Or.inr (Or.inr (Or.inr (h))))))
      refine zz_goto zd_9_5_127 ?_
      exact zz_vret zd_9_5_192 rfl (Nat.zero_le _) (Nat.zero_le _) ⟨_, rfl, G_S46, F_S46⟩
    · refine zz_iconst zd_9_5_119 ?_
      refine zz_goto zd_9_5_120 ?_
      refine zz_callVV [zi v14, zi (((v5 - 1) * p1) + (v8 - 1)), zi 1] zd_9_5_124 zk_Reaches_51 (zT_k5 (by omega)) (zN_k5 hn (by omega)) rfl rfl ⟨Nat.le_of_ble_eq_true rfl, Nat.le_of_ble_eq_true rfl⟩ ⟨rfl, rfl⟩ (Nat.zero_le _) (Nat.zero_le _) (zc_workOnSums_9_6 t v14 (((v5 - 1) * p1) + (v8 - 1)) 1 S42 n hn G_S42 (by omega) (by omega) (by omega) (by omega)) (fun S48 hP => ?_)
      obtain ⟨G_S48, fS48⟩ := hP
      have F_S48 := zz_fr.trans F_S42 fS48 rfl (fun a i h => by rcases h with h | h | h | h; exact Or.inr (Or.inr (Or.inl h)); exact Or.inr (Or.inr (Or.inr (Or.inl h))); exact Or.inr (Or.inr (Or.inr (Or.inr (Or.inl h)))); exact Or.inr (Or.inr (Or.inr (Or.inr (Or.inr (h))))))
      refine zz_goto zd_9_5_127 ?_
      exact zz_vret zd_9_5_192 rfl (Nat.zero_le _) (Nat.zero_le _) ⟨_, rfl, G_S48, F_S48⟩
theorem zk_Reaches_40 : mm_Vl "TensorForge$Reaches" 40 4 2 zy_takeWork_9_5 := ⟨zyw_takeWork_9_5, (R_Reaches, F_Reaches, 4), rfl, mm_tb_1 543 (by decide +kernel) rfl, mm_tb_1 545 (by decide +kernel) rfl, mm_tb_s 5 (by decide +kernel) rfl⟩
theorem zd_9_2_205 : zz_D zy_take_9_2 205 (.aload_n 0) 1 206 := ⟨by decide +kernel, rfl⟩
theorem zd_9_2_206 : zz_D zy_take_9_2 206 (.iconst 4) 1 207 := ⟨by decide +kernel, rfl⟩
theorem zd_9_2_207 : zz_D zy_take_9_2 207 (.iload 9) 2 209 := ⟨by decide +kernel, rfl⟩
theorem zd_9_2_209 : zz_D zy_take_9_2 209 (.iload 10) 2 211 := ⟨by decide +kernel, rfl⟩
theorem zd_9_2_211 : zz_D zy_take_9_2 211 (.invokevirtual 33) 3 214 := ⟨by decide +kernel, rfl⟩
theorem zd_9_2_214 : zz_D zy_take_9_2 214 (.aload_n 0) 1 215 := ⟨by decide +kernel, rfl⟩
theorem zd_9_2_215 : zz_D zy_take_9_2 215 (.iconst 0) 1 216 := ⟨by decide +kernel, rfl⟩
theorem zd_9_2_216 : zz_D zy_take_9_2 216 (.iload 5) 2 218 := ⟨by decide +kernel, rfl⟩
theorem zd_9_2_218 : zz_D zy_take_9_2 218 (.iload 11) 2 220 := ⟨by decide +kernel, rfl⟩
theorem zd_9_2_220 : zz_D zy_take_9_2 220 (.invokevirtual 37) 3 223 := ⟨by decide +kernel, rfl⟩
theorem zd_9_2_223 : zz_B zy_take_9_2 223 Instr.goto 232 226 := ⟨9, by decide +kernel, rfl, rfl⟩
-- TensorForge$Reaches take (JI)V
abbrev zr_take_9_2 : Room := { frames := 3, cells := 0, slots := 0, locals := 53 }
def zp_take_9_2 (t : Int) (p0 : Int) (p1 : Int) (S0 : zz_S) : zz_S → Prop := fun S => zz_G S ∧ zz_fr [] [] (fun a i => a = zz_rf 5 t + 1 ∨ a = zz_rf 5 t + 2 ∨ a = zz_rf 5 t + 3 ∨ a = zz_rf 5 t + 4) S0 S
theorem zc_take_9_2 {g : mm_G} {l : Launch} (t : Int) (p0 : Int) (p1 : Int) (S0 : zz_S) (n : Nat) (hn : zz_end ≤ n) (G_S0 : zz_G S0) (ht : 0 ≤ t ∧ t ≤ 4) (hp0 : (-9223372036854775808) ≤ p0 ∧ p0 ≤ 9223372036854775807) (hp1 : 2 ≤ p1 ∧ p1 ≤ 8) : mm_Met g l zy_take_9_2 zr_take_9_2 [.ref (zz_rf 5 t), zl p0, zi p1] (zz_M S0 n) n (zz_QV n (zp_take_9_2 t p0 p1 S0)) := by
  refine zz_enter (by decide) (Nat.le_of_ble_eq_true rfl) (zz_less (ls1 := [some (.ref (zz_rf 5 t)), some (zl p0), none, some (zi p1)]) ⟨rfl, ⟨rfl, ⟨rfl, trivial⟩⟩⟩ ?_)
  have F_S0 : zz_fr [] [] (fun a i => a = zz_rf 5 t + 1 ∨ a = zz_rf 5 t + 2 ∨ a = zz_rf 5 t + 3 ∨ a = zz_rf 5 t + 4) S0 S0 := zz_fr.refl
  have b_t := zz_rf5 (z := t) (by omega)
  refine zz_aload_n (x := zz_rf 5 t) rfl zd_9_2_0 ?_
  refine zz_callVV [] zd_9_2_1 zk_Reaches_24 (zT_k5 (by omega)) (zN_k5 hn (by omega)) rfl rfl ⟨Nat.le_of_ble_eq_true rfl, Nat.le_of_ble_eq_true rfl⟩ ⟨rfl, rfl⟩ (Nat.zero_le _) (Nat.zero_le _) (zc_forget_9_7 t S0 n hn G_S0 (by omega)) (fun S1 hP => ?_)
  obtain ⟨G_S1, fS1⟩ := hP
  have F_S1 := zz_fr.trans F_S0 fS1 rfl (fun a i h => by rcases h with h | h | h | h; exact Or.inr (Or.inr (Or.inl h)); exact Or.inr (Or.inr (Or.inr (Or.inl h))); exact Or.inr (Or.inr (Or.inr (Or.inr (Or.inl h)))); exact Or.inr (Or.inr (Or.inr (Or.inr (Or.inr (h))))))
  refine zz_lload_n (x := p0) rfl zd_9_2_4 ?_
  refine zz_iconst zd_9_2_5 ?_
  refine zz_callSI [zl p0, zi 0] zd_9_2_6 zk_Reaches_29 rfl rfl ⟨Nat.le_of_ble_eq_true rfl, Nat.le_of_ble_eq_true rfl⟩ ⟨rfl, rfl⟩ (Nat.zero_le _) (Nat.zero_le _) (zc_get_12_2x_0 p0 S1 n hn G_S1 (by omega)) (fun v4 S3 hP => ?_)
  obtain ⟨rfl, o5⟩ := hP
  refine zz_istore [some (.ref (zz_rf 5 t)), some (zl p0), none, some (zi p1), some (zi v4)] zd_9_2_9 (by decide) rfl ?_
  refine zz_lload_n (x := p0) rfl zd_9_2_11 ?_
  refine zz_iconst zd_9_2_12 ?_
  refine zz_callSI [zl p0, zi 5] zd_9_2_13 zk_Reaches_29 rfl rfl ⟨Nat.le_of_ble_eq_true rfl, Nat.le_of_ble_eq_true rfl⟩ ⟨rfl, rfl⟩ (Nat.zero_le _) (Nat.zero_le _) (zc_get_12_2x_5 p0 S1 n hn G_S1 (by omega)) (fun v7 S6 hP => ?_)
  obtain ⟨rfl, o8⟩ := hP
  refine zz_istore [some (.ref (zz_rf 5 t)), some (zl p0), none, some (zi p1), some (zi v4), some (zi v7)] zd_9_2_16 (by decide) rfl ?_
  refine zz_lload_n (x := p0) rfl zd_9_2_18 ?_
  refine zz_bipush (by decide) zd_9_2_19 ?_
  refine zz_callSI [zl p0, zi 6] zd_9_2_21 zk_Reaches_29 rfl rfl ⟨Nat.le_of_ble_eq_true rfl, Nat.le_of_ble_eq_true rfl⟩ ⟨rfl, rfl⟩ (Nat.zero_le _) (Nat.zero_le _) (zc_get_12_2x_6 p0 S1 n hn G_S1 (by omega)) (fun v10 S9 hP => ?_)
  obtain ⟨rfl, o11⟩ := hP
  refine zz_iconst zd_9_2_24 ?_
  refine zz_isub zd_9_2_25 ?_
  refine zz_istore [some (.ref (zz_rf 5 t)), some (zl p0), none, some (zi p1), some (zi v4), some (zi v7), some (zi (v10 - 1))] zd_9_2_26 (by decide) rfl ?_
  refine zz_lload_n (x := p0) rfl zd_9_2_28 ?_
  refine zz_bipush (by decide) zd_9_2_29 ?_
  refine zz_callSI [zl p0, zi 7] zd_9_2_31 zk_Reaches_29 rfl rfl ⟨Nat.le_of_ble_eq_true rfl, Nat.le_of_ble_eq_true rfl⟩ ⟨rfl, rfl⟩ (Nat.zero_le _) (Nat.zero_le _) (zc_get_12_2x_7 p0 S1 n hn G_S1 (by omega)) (fun v13 S12 hP => ?_)
  obtain ⟨rfl, o14⟩ := hP
  refine zz_iconst zd_9_2_34 ?_
  refine zz_isub zd_9_2_35 ?_
  refine zz_istore [some (.ref (zz_rf 5 t)), some (zl p0), none, some (zi p1), some (zi v4), some (zi v7), some (zi (v10 - 1)), some (zi (v13 - 1))] zd_9_2_36 (by decide) rfl ?_
  refine zz_lload_n (x := p0) rfl zd_9_2_38 ?_
  refine zz_bipush (by decide) zd_9_2_39 ?_
  refine zz_callSI [zl p0, zi 10] zd_9_2_41 zk_Reaches_29 rfl rfl ⟨Nat.le_of_ble_eq_true rfl, Nat.le_of_ble_eq_true rfl⟩ ⟨rfl, rfl⟩ (Nat.zero_le _) (Nat.zero_le _) (zc_get_12_2x_10 p0 S1 n hn G_S1 (by omega)) (fun v16 S15 hP => ?_)
  obtain ⟨rfl, o17⟩ := hP
  refine zz_istore [some (.ref (zz_rf 5 t)), some (zl p0), none, some (zi p1), some (zi v4), some (zi v7), some (zi (v10 - 1)), some (zi (v13 - 1)), some (zi v16)] zd_9_2_44 (by decide) rfl ?_
  refine zz_lload_n (x := p0) rfl zd_9_2_46 ?_
  refine zz_bipush (by decide) zd_9_2_47 ?_
  refine zz_callSI [zl p0, zi 8] zd_9_2_49 zk_Reaches_29 rfl rfl ⟨Nat.le_of_ble_eq_true rfl, Nat.le_of_ble_eq_true rfl⟩ ⟨rfl, rfl⟩ (Nat.zero_le _) (Nat.zero_le _) (zc_get_12_2x_8 p0 S1 n hn G_S1 (by omega)) (fun v19 S18 hP => ?_)
  obtain ⟨rfl, o20⟩ := hP
  refine zz_istore [some (.ref (zz_rf 5 t)), some (zl p0), none, some (zi p1), some (zi v4), some (zi v7), some (zi (v10 - 1)), some (zi (v13 - 1)), some (zi v16), some (zi v19)] zd_9_2_52 (by decide) rfl ?_
  refine zz_iload (x := v10 - 1) rfl zd_9_2_54 ?_
  refine zz_iload_n (x := p1) rfl zd_9_2_56 ?_
  refine zz_imul zd_9_2_57 ?_
  have m21 := zz_mulh (a := v10 - 1) (b := p1) (-1) 62 8 (-8) 496 (by omega) (by omega) (by decide) (by decide) (by decide) (by decide)
  refine zz_iload (x := v13 - 1) rfl zd_9_2_58 ?_
  refine zz_iadd zd_9_2_60 ?_
  refine zz_istore [some (.ref (zz_rf 5 t)), some (zl p0), none, some (zi p1), some (zi v4), some (zi v7), some (zi (v10 - 1)), some (zi (v13 - 1)), some (zi v16), some (zi v19), some (zi (((v10 - 1) * p1) + (v13 - 1)))] zd_9_2_61 (by decide) rfl ?_
  refine zz_iload (x := v10 - 1) rfl zd_9_2_63 ?_
  refine zz_iload (x := v16) rfl zd_9_2_65 ?_
  refine zz_imul zd_9_2_67 ?_
  have m22 := zz_mulh (a := v10 - 1) (b := v16) (-1) 62 1023 (-1023) 63426 (by omega) (by omega) (by decide) (by decide) (by decide) (by decide)
  refine zz_iload (x := v13 - 1) rfl zd_9_2_68 ?_
  refine zz_iadd zd_9_2_70 ?_
  refine zz_istore [some (.ref (zz_rf 5 t)), some (zl p0), none, some (zi p1), some (zi v4), some (zi v7), some (zi (v10 - 1)), some (zi (v13 - 1)), some (zi v16), some (zi v19), some (zi (((v10 - 1) * p1) + (v13 - 1))), some (zi (((v10 - 1) * v16) + (v13 - 1)))] zd_9_2_71 (by decide) rfl ?_
  refine zz_iload (x := v4) rfl zd_9_2_73 ?_
  by_cases c23 : v4 = 1
  · refine zz_swIn 1 45 c23 (by decide) zd_9_2_75 rfl rfl ?_
    refine zz_aload_n (x := zz_rf 5 t) rfl zd_9_2_120 ?_
    refine zz_iconst zd_9_2_121 ?_
    refine zz_iload (x := v7) rfl zd_9_2_122 ?_
    refine zz_iload (x := ((v10 - 1) * v16) + (v13 - 1)) rfl zd_9_2_124 ?_
    refine zz_callVV [zi 0, zi v7, zi (((v10 - 1) * v16) + (v13 - 1))] zd_9_2_126 zk_Reaches_33 (zT_k5 (by omega)) (zN_k5 hn (by omega)) rfl rfl ⟨Nat.le_of_ble_eq_true rfl, Nat.le_of_ble_eq_true rfl⟩ ⟨rfl, rfl⟩ (Nat.zero_le _) (Nat.zero_le _) (zc_reads_9_8 t 0 v7 (((v10 - 1) * v16) + (v13 - 1)) S1 n hn G_S1 (by omega) (by omega) (by omega) (by omega)) (fun S24 hP => ?_)
    obtain ⟨G_S24, fS24⟩ := hP
    have F_S24 := zz_fr.trans F_S1 fS24 rfl (fun a i h => by rcases h with h | h; exact Or.inr (Or.inr (Or.inl h)); exact Or.inr (Or.inr (Or.inr (Or.inl h))))
    refine zz_aload_n (x := zz_rf 5 t) rfl zd_9_2_129 ?_
    refine zz_iconst zd_9_2_130 ?_
    refine zz_iload (x := v19) rfl zd_9_2_131 ?_
    refine zz_iload (x := ((v10 - 1) * p1) + (v13 - 1)) rfl zd_9_2_133 ?_
    refine zz_callVV [zi 1, zi v19, zi (((v10 - 1) * p1) + (v13 - 1))] zd_9_2_135 zk_Reaches_37 (zT_k5 (by omega)) (zN_k5 hn (by omega)) rfl rfl ⟨Nat.le_of_ble_eq_true rfl, Nat.le_of_ble_eq_true rfl⟩ ⟨rfl, rfl⟩ (Nat.zero_le _) (Nat.zero_le _) (zc_writes_9_9 t 1 v19 (((v10 - 1) * p1) + (v13 - 1)) S24 n hn G_S24 (by omega) (by omega) (by omega) (by omega)) (fun S26 hP => ?_)
    obtain ⟨G_S26, fS26⟩ := hP
    have F_S26 := zz_fr.trans F_S24 fS26 rfl (fun a i h => by rcases h with h | h; exact Or.inr (Or.inr (Or.inr (Or.inr (Or.inl h)))); exact Or.inr (Or.inr (Or.inr (Or.inr (Or.inr (h))))))
    refine zz_goto zd_9_2_138 ?_
    exact zz_vret zd_9_2_232 rfl (Nat.zero_le _) (Nat.zero_le _) ⟨_, rfl, G_S26, F_S26⟩
  by_cases c28 : v4 = 2
  · refine zz_swIn 2 66 c28 (by decide) zd_9_2_75 rfl rfl ?_
    refine zz_aload_n (x := zz_rf 5 t) rfl zd_9_2_141 ?_
    refine zz_iconst zd_9_2_142 ?_
    refine zz_iload (x := v7) rfl zd_9_2_143 ?_
    refine zz_iload (x := ((v10 - 1) * v16) + (v13 - 1)) rfl zd_9_2_145 ?_
    refine zz_callVV [zi 0, zi v7, zi (((v10 - 1) * v16) + (v13 - 1))] zd_9_2_147 zk_Reaches_33 (zT_k5 (by omega)) (zN_k5 hn (by omega)) rfl rfl ⟨Nat.le_of_ble_eq_true rfl, Nat.le_of_ble_eq_true rfl⟩ ⟨rfl, rfl⟩ (Nat.zero_le _) (Nat.zero_le _) (zc_reads_9_8 t 0 v7 (((v10 - 1) * v16) + (v13 - 1)) S1 n hn G_S1 (by omega) (by omega) (by omega) (by omega)) (fun S29 hP => ?_)
    obtain ⟨G_S29, fS29⟩ := hP
    have F_S29 := zz_fr.trans F_S1 fS29 rfl (fun a i h => by rcases h with h | h; exact Or.inr (Or.inr (Or.inl h)); exact Or.inr (Or.inr (Or.inr (Or.inl h))))
    refine zz_aload_n (x := zz_rf 5 t) rfl zd_9_2_150 ?_
    refine zz_iconst zd_9_2_151 ?_
    refine zz_iload (x := v19) rfl zd_9_2_152 ?_
    refine zz_iload (x := ((v10 - 1) * p1) + (v13 - 1)) rfl zd_9_2_154 ?_
    refine zz_callVV [zi 2, zi v19, zi (((v10 - 1) * p1) + (v13 - 1))] zd_9_2_156 zk_Reaches_37 (zT_k5 (by omega)) (zN_k5 hn (by omega)) rfl rfl ⟨Nat.le_of_ble_eq_true rfl, Nat.le_of_ble_eq_true rfl⟩ ⟨rfl, rfl⟩ (Nat.zero_le _) (Nat.zero_le _) (zc_writes_9_9 t 2 v19 (((v10 - 1) * p1) + (v13 - 1)) S29 n hn G_S29 (by omega) (by omega) (by omega) (by omega)) (fun S31 hP => ?_)
    obtain ⟨G_S31, fS31⟩ := hP
    have F_S31 := zz_fr.trans F_S29 fS31 rfl (fun a i h => by rcases h with h | h; exact Or.inr (Or.inr (Or.inr (Or.inr (Or.inl h)))); exact Or.inr (Or.inr (Or.inr (Or.inr (Or.inr (h))))))
    refine zz_goto zd_9_2_159 ?_
    exact zz_vret zd_9_2_232 rfl (Nat.zero_le _) (Nat.zero_le _) ⟨_, rfl, G_S31, F_S31⟩
  by_cases c33 : v4 = 3
  · refine zz_swIn 3 87 c33 (by decide) zd_9_2_75 rfl rfl ?_
    refine zz_aload_n (x := zz_rf 5 t) rfl zd_9_2_162 ?_
    refine zz_iconst zd_9_2_163 ?_
    refine zz_iload (x := v19) rfl zd_9_2_164 ?_
    refine zz_iload (x := ((v10 - 1) * p1) + (v13 - 1)) rfl zd_9_2_166 ?_
    refine zz_callVV [zi 1, zi v19, zi (((v10 - 1) * p1) + (v13 - 1))] zd_9_2_168 zk_Reaches_37 (zT_k5 (by omega)) (zN_k5 hn (by omega)) rfl rfl ⟨Nat.le_of_ble_eq_true rfl, Nat.le_of_ble_eq_true rfl⟩ ⟨rfl, rfl⟩ (Nat.zero_le _) (Nat.zero_le _) (zc_writes_9_9 t 1 v19 (((v10 - 1) * p1) + (v13 - 1)) S1 n hn G_S1 (by omega) (by omega) (by omega) (by omega)) (fun S34 hP => ?_)
    obtain ⟨G_S34, fS34⟩ := hP
    have F_S34 := zz_fr.trans F_S1 fS34 rfl (fun a i h => by rcases h with h | h; exact Or.inr (Or.inr (Or.inr (Or.inr (Or.inl h)))); exact Or.inr (Or.inr (Or.inr (Or.inr (Or.inr (h))))))
    refine zz_goto zd_9_2_171 ?_
    exact zz_vret zd_9_2_232 rfl (Nat.zero_le _) (Nat.zero_le _) ⟨_, rfl, G_S34, F_S34⟩
  by_cases c36 : v4 = 4
  · refine zz_swIn 4 99 c36 (by decide) zd_9_2_75 rfl rfl ?_
    refine zz_aload_n (x := zz_rf 5 t) rfl zd_9_2_174 ?_
    refine zz_iconst zd_9_2_175 ?_
    refine zz_iload (x := v7) rfl zd_9_2_176 ?_
    refine zz_iload (x := v10 - 1) rfl zd_9_2_178 ?_
    refine zz_iload (x := v16) rfl zd_9_2_180 ?_
    refine zz_imul zd_9_2_182 ?_
    have m37 := zz_mulh (a := v10 - 1) (b := v16) (-1) 62 1023 (-1023) 63426 (by omega) (by omega) (by decide) (by decide) (by decide) (by decide)
    refine zz_iconst zd_9_2_183 ?_
    refine zz_iload (x := v13 - 1) rfl zd_9_2_184 ?_
    refine zz_imul zd_9_2_186 ?_
    refine zz_iadd zd_9_2_187 ?_
    refine zz_iconst zd_9_2_188 ?_
    refine zz_iadd zd_9_2_189 ?_
    refine zz_callVV [zi 0, zi v7, zi ((((v10 - 1) * v16) + (4 * (v13 - 1))) + 3)] zd_9_2_190 zk_Reaches_33 (zT_k5 (by omega)) (zN_k5 hn (by omega)) rfl rfl ⟨Nat.le_of_ble_eq_true rfl, Nat.le_of_ble_eq_true rfl⟩ ⟨rfl, rfl⟩ (Nat.zero_le _) (Nat.zero_le _) (zc_reads_9_8 t 0 v7 ((((v10 - 1) * v16) + (4 * (v13 - 1))) + 3) S1 n hn G_S1 (by omega) (by omega) (by omega) (by omega)) (fun S38 hP => ?_)
    obtain ⟨G_S38, fS38⟩ := hP
    have F_S38 := zz_fr.trans F_S1 fS38 rfl (fun a i h => by rcases h with h | h; exact Or.inr (Or.inr (Or.inl h)); exact Or.inr (Or.inr (Or.inr (Or.inl h))))
    refine zz_aload_n (x := zz_rf 5 t) rfl zd_9_2_193 ?_
    refine zz_iconst zd_9_2_194 ?_
    refine zz_iload (x := v19) rfl zd_9_2_195 ?_
    refine zz_iload (x := ((v10 - 1) * p1) + (v13 - 1)) rfl zd_9_2_197 ?_
    refine zz_callVV [zi 3, zi v19, zi (((v10 - 1) * p1) + (v13 - 1))] zd_9_2_199 zk_Reaches_37 (zT_k5 (by omega)) (zN_k5 hn (by omega)) rfl rfl ⟨Nat.le_of_ble_eq_true rfl, Nat.le_of_ble_eq_true rfl⟩ ⟨rfl, rfl⟩ (Nat.zero_le _) (Nat.zero_le _) (zc_writes_9_9 t 3 v19 (((v10 - 1) * p1) + (v13 - 1)) S38 n hn G_S38 (by omega) (by omega) (by omega) (by omega)) (fun S40 hP => ?_)
    obtain ⟨G_S40, fS40⟩ := hP
    have F_S40 := zz_fr.trans F_S38 fS40 rfl (fun a i h => by rcases h with h | h; exact Or.inr (Or.inr (Or.inr (Or.inr (Or.inl h)))); exact Or.inr (Or.inr (Or.inr (Or.inr (Or.inr (h))))))
    refine zz_goto zd_9_2_202 ?_
    exact zz_vret zd_9_2_232 rfl (Nat.zero_le _) (Nat.zero_le _) ⟨_, rfl, G_S40, F_S40⟩
  by_cases c42 : v4 = 5
  · refine zz_swIn 5 151 c42 (by decide) zd_9_2_75 rfl rfl ?_
    refine zz_aload_n (x := zz_rf 5 t) rfl zd_9_2_226 ?_
    refine zz_lload_n (x := p0) rfl zd_9_2_227 ?_
    refine zz_iload_n (x := p1) rfl zd_9_2_228 ?_
    refine zz_callVV [zl p0, zi p1] zd_9_2_229 zk_Reaches_40 (zT_k5 (by omega)) (zN_k5 hn (by omega)) rfl rfl ⟨Nat.le_of_ble_eq_true rfl, Nat.le_of_ble_eq_true rfl⟩ ⟨rfl, rfl⟩ (Nat.zero_le _) (Nat.zero_le _) (zc_takeWork_9_5 t p0 p1 S1 n hn G_S1 (by omega) (by omega) (by omega)) (fun S43 hP => ?_)
    obtain ⟨G_S43, fS43⟩ := hP
    have F_S43 := zz_fr.trans F_S1 fS43 rfl (fun a i h => by rcases h with h | h | h | h; exact Or.inr (Or.inr (Or.inl h)); exact Or.inr (Or.inr (Or.inr (Or.inl h))); exact Or.inr (Or.inr (Or.inr (Or.inr (Or.inl h)))); exact Or.inr (Or.inr (Or.inr (Or.inr (Or.inr (h))))))
    exact zz_vret zd_9_2_232 rfl (Nat.zero_le _) (Nat.zero_le _) ⟨_, rfl, G_S43, F_S43⟩
  by_cases c45 : v4 = 6
  · refine zz_swIn 6 151 c45 (by decide) zd_9_2_75 rfl rfl ?_
    refine zz_aload_n (x := zz_rf 5 t) rfl zd_9_2_226 ?_
    refine zz_lload_n (x := p0) rfl zd_9_2_227 ?_
    refine zz_iload_n (x := p1) rfl zd_9_2_228 ?_
    refine zz_callVV [zl p0, zi p1] zd_9_2_229 zk_Reaches_40 (zT_k5 (by omega)) (zN_k5 hn (by omega)) rfl rfl ⟨Nat.le_of_ble_eq_true rfl, Nat.le_of_ble_eq_true rfl⟩ ⟨rfl, rfl⟩ (Nat.zero_le _) (Nat.zero_le _) (zc_takeWork_9_5 t p0 p1 S1 n hn G_S1 (by omega) (by omega) (by omega)) (fun S46 hP => ?_)
    obtain ⟨G_S46, fS46⟩ := hP
    have F_S46 := zz_fr.trans F_S1 fS46 rfl (fun a i h => by rcases h with h | h | h | h; exact Or.inr (Or.inr (Or.inl h)); exact Or.inr (Or.inr (Or.inr (Or.inl h))); exact Or.inr (Or.inr (Or.inr (Or.inr (Or.inl h)))); exact Or.inr (Or.inr (Or.inr (Or.inr (Or.inr (h))))))
    exact zz_vret zd_9_2_232 rfl (Nat.zero_le _) (Nat.zero_le _) ⟨_, rfl, G_S46, F_S46⟩
  by_cases c48 : v4 = 7
  · refine zz_swIn 7 151 c48 (by decide) zd_9_2_75 rfl rfl ?_
    refine zz_aload_n (x := zz_rf 5 t) rfl zd_9_2_226 ?_
    refine zz_lload_n (x := p0) rfl zd_9_2_227 ?_
    refine zz_iload_n (x := p1) rfl zd_9_2_228 ?_
    refine zz_callVV [zl p0, zi p1] zd_9_2_229 zk_Reaches_40 (zT_k5 (by omega)) (zN_k5 hn (by omega)) rfl rfl ⟨Nat.le_of_ble_eq_true rfl, Nat.le_of_ble_eq_true rfl⟩ ⟨rfl, rfl⟩ (Nat.zero_le _) (Nat.zero_le _) (zc_takeWork_9_5 t p0 p1 S1 n hn G_S1 (by omega) (by omega) (by omega)) (fun S49 hP => ?_)
    obtain ⟨G_S49, fS49⟩ := hP
    have F_S49 := zz_fr.trans F_S1 fS49 rfl (fun a i h => by rcases h with h | h | h | h; exact Or.inr (Or.inr (Or.inl h)); exact Or.inr (Or.inr (Or.inr (Or.inl h))); exact Or.inr (Or.inr (Or.inr (Or.inr (Or.inl h)))); exact Or.inr (Or.inr (Or.inr (Or.inr (Or.inr (h))))))
    exact zz_vret zd_9_2_232 rfl (Nat.zero_le _) (Nat.zero_le _) ⟨_, rfl, G_S49, F_S49⟩
  by_cases c51 : v4 = 8
  · refine zz_swIn 8 130 c51 (by decide) zd_9_2_75 rfl rfl ?_
    refine zz_aload_n (x := zz_rf 5 t) rfl zd_9_2_205 ?_
    refine zz_iconst zd_9_2_206 ?_
    refine zz_iload (x := v19) rfl zd_9_2_207 ?_
    refine zz_iload (x := ((v10 - 1) * p1) + (v13 - 1)) rfl zd_9_2_209 ?_
    refine zz_callVV [zi 4, zi v19, zi (((v10 - 1) * p1) + (v13 - 1))] zd_9_2_211 zk_Reaches_33 (zT_k5 (by omega)) (zN_k5 hn (by omega)) rfl rfl ⟨Nat.le_of_ble_eq_true rfl, Nat.le_of_ble_eq_true rfl⟩ ⟨rfl, rfl⟩ (Nat.zero_le _) (Nat.zero_le _) (zc_reads_9_8 t 4 v19 (((v10 - 1) * p1) + (v13 - 1)) S1 n hn G_S1 (by omega) (by omega) (by omega) (by omega)) (fun S52 hP => ?_)
    obtain ⟨G_S52, fS52⟩ := hP
    have F_S52 := zz_fr.trans F_S1 fS52 rfl (fun a i h => by rcases h with h | h; exact Or.inr (Or.inr (Or.inl h)); exact Or.inr (Or.inr (Or.inr (Or.inl h))))
    refine zz_aload_n (x := zz_rf 5 t) rfl zd_9_2_214 ?_
    refine zz_iconst zd_9_2_215 ?_
    refine zz_iload (x := v7) rfl zd_9_2_216 ?_
    refine zz_iload (x := ((v10 - 1) * v16) + (v13 - 1)) rfl zd_9_2_218 ?_
    refine zz_callVV [zi 0, zi v7, zi (((v10 - 1) * v16) + (v13 - 1))] zd_9_2_220 zk_Reaches_37 (zT_k5 (by omega)) (zN_k5 hn (by omega)) rfl rfl ⟨Nat.le_of_ble_eq_true rfl, Nat.le_of_ble_eq_true rfl⟩ ⟨rfl, rfl⟩ (Nat.zero_le _) (Nat.zero_le _) (zc_writes_9_9 t 0 v7 (((v10 - 1) * v16) + (v13 - 1)) S52 n hn G_S52 (by omega) (by omega) (by omega) (by omega)) (fun S54 hP => ?_)
    obtain ⟨G_S54, fS54⟩ := hP
    have F_S54 := zz_fr.trans F_S52 fS54 rfl (fun a i h => by rcases h with h | h; exact Or.inr (Or.inr (Or.inr (Or.inr (Or.inl h)))); exact Or.inr (Or.inr (Or.inr (Or.inr (Or.inr (h))))))
    refine zz_goto zd_9_2_223 ?_
    exact zz_vret zd_9_2_232 rfl (Nat.zero_le _) (Nat.zero_le _) ⟨_, rfl, G_S54, F_S54⟩
  refine zz_swOut (by omega) (by omega) zd_9_2_75 rfl ?_
  refine zz_aload_n (x := zz_rf 5 t) rfl zd_9_2_226 ?_
  refine zz_lload_n (x := p0) rfl zd_9_2_227 ?_
  refine zz_iload_n (x := p1) rfl zd_9_2_228 ?_
  refine zz_callVV [zl p0, zi p1] zd_9_2_229 zk_Reaches_40 (zT_k5 (by omega)) (zN_k5 hn (by omega)) rfl rfl ⟨Nat.le_of_ble_eq_true rfl, Nat.le_of_ble_eq_true rfl⟩ ⟨rfl, rfl⟩ (Nat.zero_le _) (Nat.zero_le _) (zc_takeWork_9_5 t p0 p1 S1 n hn G_S1 (by omega) (by omega) (by omega)) (fun S57 hP => ?_)
  obtain ⟨G_S57, fS57⟩ := hP
  have F_S57 := zz_fr.trans F_S1 fS57 rfl (fun a i h => by rcases h with h | h | h | h; exact Or.inr (Or.inr (Or.inl h)); exact Or.inr (Or.inr (Or.inr (Or.inl h))); exact Or.inr (Or.inr (Or.inr (Or.inr (Or.inl h)))); exact Or.inr (Or.inr (Or.inr (Or.inr (Or.inr (h))))))
  exact zz_vret zd_9_2_232 rfl (Nat.zero_le _) (Nat.zero_le _) ⟨_, rfl, G_S57, F_S57⟩
theorem zk_Machine_64 : mm_Vl "TensorForge$Machine" 64 4 2 zy_take_9_2 := ⟨zyw_take_9_2, (R_Reaches, F_Reaches, 4), rfl, mm_tb_1 523 (by decide +kernel) rfl, mm_tb_1 524 (by decide +kernel) rfl, mm_tb_1 525 (by decide +kernel) rfl⟩
theorem zd_6_6_44 : zz_D zy_forbids_6_6 44 (.aload_n 0) 1 45 := ⟨by decide +kernel, rfl⟩
theorem zd_6_6_45 : zz_D zy_forbids_6_6 45 (.getfield 32) 3 48 := ⟨by decide +kernel, rfl⟩
theorem zd_6_6_48 : zz_D zy_forbids_6_6 48 (.invokevirtual 68) 3 51 := ⟨by decide +kernel, rfl⟩
abbrev zy_areThere_9_3 : mm_Y := (⟨"TensorForge$Reaches", "areThere", "()Z"⟩, prog_9_method_3_code, 2, (some .boolean))
theorem zyw_areThere_9_3 : mm_Yw zy_areThere_9_3 0 := ⟨mm_tb_1 554 (by decide +kernel) rfl, mm_tb_1 5 (by decide +kernel) rfl, ⟨by decide, by decide⟩, by decide +kernel⟩
theorem zd_9_3_0 : zz_D zy_areThere_9_3 0 (.iconst 0) 1 1 := ⟨by decide +kernel, rfl⟩
theorem zd_9_3_1 : zz_D zy_areThere_9_3 1 (.istore_n 1) 1 2 := ⟨by decide +kernel, rfl⟩
theorem zd_9_3_2 : zz_D zy_areThere_9_3 2 (.iload_n 1) 1 3 := ⟨by decide +kernel, rfl⟩
theorem zd_9_3_3 : zz_D zy_areThere_9_3 3 (.iconst 5) 1 4 := ⟨by decide +kernel, rfl⟩
theorem zd_9_3_4 : zz_B zy_areThere_9_3 4 (Instr.if_icmp .ge) 43 7 := ⟨39, by decide +kernel, rfl, rfl⟩
theorem zd_9_3_7 : zz_D zy_areThere_9_3 7 (.aload_n 0) 1 8 := ⟨by decide +kernel, rfl⟩
theorem zd_9_3_8 : zz_D zy_areThere_9_3 8 (.getfield 15) 3 11 := ⟨by decide +kernel, rfl⟩
theorem zd_9_3_11 : zz_D zy_areThere_9_3 11 (.iload_n 1) 1 12 := ⟨by decide +kernel, rfl⟩
theorem zd_9_3_12 : zz_D zy_areThere_9_3 12 (.iaload) 1 13 := ⟨by decide +kernel, rfl⟩
theorem zd_9_3_13 : zz_D zy_areThere_9_3 13 (.getstatic 44) 3 16 := ⟨by decide +kernel, rfl⟩
theorem zs_Reaches_44 : Cond.fieldLink "TensorForge$Reaches" 44 "TensorForge$Reaches" "SIZES" "[I" ∈ mm_tb := mm_tb_1 555 (by decide +kernel) rfl
theorem zd_9_3_16 : zz_D zy_areThere_9_3 16 (.iload_n 1) 1 17 := ⟨by decide +kernel, rfl⟩
theorem zd_9_3_17 : zz_D zy_areThere_9_3 17 (.iaload) 1 18 := ⟨by decide +kernel, rfl⟩
theorem zd_9_3_18 : zz_B zy_areThere_9_3 18 (Instr.if_icmp .ge) 35 21 := ⟨17, by decide +kernel, rfl, rfl⟩
theorem zd_9_3_35 : zz_D zy_areThere_9_3 35 (.iconst 0) 1 36 := ⟨by decide +kernel, rfl⟩
theorem zd_9_3_36 : zz_D zy_areThere_9_3 36 (.ireturn) 1 37 := ⟨by decide +kernel, rfl⟩
theorem zd_9_3_21 : zz_D zy_areThere_9_3 21 (.aload_n 0) 1 22 := ⟨by decide +kernel, rfl⟩
theorem zd_9_3_22 : zz_D zy_areThere_9_3 22 (.getfield 21) 3 25 := ⟨by decide +kernel, rfl⟩
theorem zd_9_3_25 : zz_D zy_areThere_9_3 25 (.iload_n 1) 1 26 := ⟨by decide +kernel, rfl⟩
theorem zd_9_3_26 : zz_D zy_areThere_9_3 26 (.iaload) 1 27 := ⟨by decide +kernel, rfl⟩
theorem zd_9_3_27 : zz_D zy_areThere_9_3 27 (.getstatic 44) 3 30 := ⟨by decide +kernel, rfl⟩
theorem zd_9_3_30 : zz_D zy_areThere_9_3 30 (.iload_n 1) 1 31 := ⟨by decide +kernel, rfl⟩
theorem zd_9_3_31 : zz_D zy_areThere_9_3 31 (.iaload) 1 32 := ⟨by decide +kernel, rfl⟩
theorem zd_9_3_32 : zz_B zy_areThere_9_3 32 (Instr.if_icmp .lt) 37 35 := ⟨5, by decide +kernel, rfl, rfl⟩
theorem zd_9_3_37 : zz_D zy_areThere_9_3 37 (.iinc 1 1) 3 40 := ⟨by decide +kernel, rfl⟩
theorem zd_9_3_40 : zz_B zy_areThere_9_3 40 Instr.goto 2 43 := ⟨(-38), by decide +kernel, rfl, rfl⟩
theorem zd_9_3_43 : zz_D zy_areThere_9_3 43 (.iconst 1) 1 44 := ⟨by decide +kernel, rfl⟩
theorem zd_9_3_44 : zz_D zy_areThere_9_3 44 (.ireturn) 1 45 := ⟨by decide +kernel, rfl⟩
-- TensorForge$Reaches areThere ()Z
abbrev zr_areThere_9_3 : Room := { frames := 0, cells := 0, slots := 0, locals := 0 }
def zp_areThere_9_3 (t : Int) (S0 : zz_S) : Int → zz_S → Prop := fun r S => S0 = S ∧ (0 ≤ r ∧ r ≤ 1)
theorem zb_areThere_9_3_2 {g : mm_G} {l : Launch} (t : Int) (S0 : zz_S) (n : Nat) (hn : zz_end ≤ n) (G_S0 : zz_G S0) (ht : 0 ≤ t ∧ t ≤ 4) (x1 : Int) (S : zz_S) (G_S : zz_G S) (F_S : zz_fr [] [] (fun _ _ => False) S0 S) (i2_0 : 0 ≤ x1 ∧ x1 ≤ 5) (R : Nat) (hR : (5 - x1).toNat = R) (k2 : ∀ (x1 : Int) (S : zz_S), zz_G S → zz_fr [] [] (fun _ _ => False) S0 S → (0 ≤ x1 ∧ x1 ≤ 5) → (5 - x1).toNat < R → zz_E g l zy_areThere_9_3 zr_areThere_9_3 (zz_QI n (zp_areThere_9_3 t S0)) S n 2 [some (.ref (zz_rf 5 t)), some (zi x1)] [] 0 0) : zz_E g l zy_areThere_9_3 zr_areThere_9_3 (zz_QI n (zp_areThere_9_3 t S0)) S n 2 [some (.ref (zz_rf 5 t)), some (zi x1)] [] 0 0 := by
  have b_t := zz_rf5 (z := t) (by omega)
  refine zz_iload_n (x := x1) rfl zd_9_3_2 ?_
  refine zz_iconst zd_9_3_3 ?_
  refine zz_icmp_ge (by omega) (by omega) zd_9_3_4 (fun c1 => ?_) (fun c1 => ?_)
  · refine zz_iconst zd_9_3_43 ?_
    exact zz_zret zd_9_3_44 rfl (by omega) (Nat.zero_le _) (Nat.zero_le _) ⟨_, _, rfl, zz_fr.eq F_S, by omega⟩
  · refine zz_aload_n (x := zz_rf 5 t) rfl zd_9_3_7 ?_
    refine zz_getr (kd := 0) (z := ((zz_rf 5 t + 2 : Nat) : Int)) zd_9_3_8 zf_Reaches_15 (zT_k5 (by omega)) rfl (zN_k5 hn (by omega)) (zE_k5a2 G_S (by omega)) (Int.natCast_nonneg _) (zz_rf 5 t + 2) (Int.toNat_natCast _) ?_
    refine zz_iload_n (x := x1) rfl zd_9_3_11 ?_
    have g2 := zz_G.r G_S0 (zz_rf 5 t + 2) x1.toNat (-2147483648) 2147483647 (zR_k5a2 (by omega)) (zB_k5a2 (by omega))
    refine zz_iald (z := S0 (zz_rf 5 t + 2) x1.toNat) zd_9_3_12 (zT_k5a2 (by omega)) rfl (zN_k5a2 hn (by omega)) (by decide) (by omega) (zz_rc F_S (zP_k5a2 (by omega) rfl) (zQ_k5a2 (by omega) rfl) (fun h => h) rfl) ?_
    refine zz_gets (q0 := 0) zd_9_3_13 rfl (by decide) zs_Reaches_44 ?_
    refine zz_iload_n (x := x1) rfl zd_9_3_16 ?_
    obtain ⟨v3, hv3, tv3⟩ := zz_sta0 (i := x1) (by omega)
    refine zz_tiald (N := 5) v3 zd_9_3_17 rfl (by decide) rfl (by decide) (by omega) tv3 ?_
    refine zz_icmp_ge (by omega) (by omega) zd_9_3_18 (fun c4 => ?_) (fun c4 => ?_)
    · refine zz_iconst zd_9_3_35 ?_
      exact zz_zret zd_9_3_36 rfl (by omega) (Nat.zero_le _) (Nat.zero_le _) ⟨_, _, rfl, zz_fr.eq F_S, by omega⟩
    · refine zz_aload_n (x := zz_rf 5 t) rfl zd_9_3_21 ?_
      refine zz_getr (kd := 0) (z := ((zz_rf 5 t + 4 : Nat) : Int)) zd_9_3_22 zf_Reaches_21 (zT_k5 (by omega)) rfl (zN_k5 hn (by omega)) (zE_k5a4 G_S (by omega)) (Int.natCast_nonneg _) (zz_rf 5 t + 4) (Int.toNat_natCast _) ?_
      refine zz_iload_n (x := x1) rfl zd_9_3_25 ?_
      have g5 := zz_G.r G_S0 (zz_rf 5 t + 4) x1.toNat (-2147483648) 2147483647 (zR_k5a4 (by omega)) (zB_k5a4 (by omega))
      refine zz_iald (z := S0 (zz_rf 5 t + 4) x1.toNat) zd_9_3_26 (zT_k5a4 (by omega)) rfl (zN_k5a4 hn (by omega)) (by decide) (by omega) (zz_rc F_S (zP_k5a4 (by omega) rfl) (zQ_k5a4 (by omega) rfl) (fun h => h) rfl) ?_
      refine zz_gets (q0 := 0) zd_9_3_27 rfl (by decide) zs_Reaches_44 ?_
      refine zz_iload_n (x := x1) rfl zd_9_3_30 ?_
      obtain ⟨v6, hv6, tv6⟩ := zz_sta0 (i := x1) (by omega)
      refine zz_tiald (N := 5) v6 zd_9_3_31 rfl (by decide) rfl (by decide) (by omega) tv6 ?_
      refine zz_icmp_lt (by omega) (by omega) zd_9_3_32 (fun c7 => ?_) (fun c7 => ?_)
      · refine zz_iinc [some (.ref (zz_rf 5 t)), some (zi (x1 + 1))] zd_9_3_37 rfl rfl ?_
        refine zz_goto zd_9_3_40 ?_
        refine zz_less (ls1 := [some (.ref (zz_rf 5 t)), some (zi (x1 + 1))]) ⟨rfl, ⟨rfl, trivial⟩⟩ ?_
        exact k2 (x1 + 1) S G_S F_S (by omega) (by omega)
      · refine zz_iconst zd_9_3_35 ?_
        exact zz_zret zd_9_3_36 rfl (by omega) (Nat.zero_le _) (Nat.zero_le _) ⟨_, _, rfl, zz_fr.eq F_S, by omega⟩
theorem zi_areThere_9_3 {g : mm_G} {l : Launch} (t : Int) (S0 : zz_S) (n : Nat) (hn : zz_end ≤ n) (G_S0 : zz_G S0) (ht : 0 ≤ t ∧ t ≤ 4) : ∀ N : Nat, (∀ (x1 : Int) (S : zz_S), zz_G S → zz_fr [] [] (fun _ _ => False) S0 S → (0 ≤ x1 ∧ x1 ≤ 5) → (5 - x1).toNat < N → zz_E g l zy_areThere_9_3 zr_areThere_9_3 (zz_QI n (zp_areThere_9_3 t S0)) S n 2 [some (.ref (zz_rf 5 t)), some (zi x1)] [] 0 0) := by
  intro N
  induction N with
  | zero => exact fun x1 S _ _ _ h => absurd h (Nat.not_lt_zero _)
  | succ N ih =>
    exact fun x1 S a b j0 hR => zb_areThere_9_3_2 t S0 n hn G_S0 ht x1 S a b j0 _ rfl (fun x1 S a b j0 h => ih x1 S a b j0 (Nat.lt_of_lt_of_le h (Nat.le_of_lt_succ hR)))
theorem zc_areThere_9_3 {g : mm_G} {l : Launch} (t : Int) (S0 : zz_S) (n : Nat) (hn : zz_end ≤ n) (G_S0 : zz_G S0) (ht : 0 ≤ t ∧ t ≤ 4) : mm_Met g l zy_areThere_9_3 zr_areThere_9_3 [.ref (zz_rf 5 t)] (zz_M S0 n) n (zz_QI n (zp_areThere_9_3 t S0)) := by
  refine zz_enter (by decide) (Nat.le_of_ble_eq_true rfl) (zz_less (ls1 := [some (.ref (zz_rf 5 t))]) ⟨rfl, trivial⟩ ?_)
  have F_S0 : zz_fr [] [] (fun _ _ => False) S0 S0 := zz_fr.refl
  have k2 : ∀ (x1 : Int) (S : zz_S), zz_G S → zz_fr [] [] (fun _ _ => False) S0 S → (0 ≤ x1 ∧ x1 ≤ 5) → zz_E g l zy_areThere_9_3 zr_areThere_9_3 (zz_QI n (zp_areThere_9_3 t S0)) S n 2 [some (.ref (zz_rf 5 t)), some (zi x1)] [] 0 0 := fun x1 S a b j0 => (zi_areThere_9_3 (g := g) (l := l) t S0 n hn G_S0 ht _) x1 S a b j0 (Nat.lt_succ_self _)
  have b_t := zz_rf5 (z := t) (by omega)
  refine zz_iconst zd_9_3_0 ?_
  refine zz_istore_n [some (.ref (zz_rf 5 t)), some (zi 0)] zd_9_3_1 (by decide) rfl ?_
  refine zz_less (ls1 := [some (.ref (zz_rf 5 t)), some (zi 0)]) ⟨rfl, ⟨rfl, trivial⟩⟩ ?_
  exact k2 0 S0 G_S0 F_S0 (by omega)
theorem zk_Machine_68 : mm_Vl "TensorForge$Machine" 68 4 0 zy_areThere_9_3 := ⟨zyw_areThere_9_3, (R_Reaches, F_Reaches, 4), rfl, mm_tb_1 551 (by decide +kernel) rfl, mm_tb_1 552 (by decide +kernel) rfl, mm_tb_1 553 (by decide +kernel) rfl⟩
theorem zd_6_6_51 : zz_B zy_forbids_6_6 51 (Instr.ifCond .ne) 58 54 := ⟨7, by decide +kernel, rfl, rfl⟩
theorem zd_6_6_54 : zz_D zy_forbids_6_6 54 (.iconst 1) 1 55 := ⟨by decide +kernel, rfl⟩
theorem zd_6_6_55 : zz_B zy_forbids_6_6 55 Instr.goto 59 58 := ⟨4, by decide +kernel, rfl, rfl⟩
theorem zd_6_6_59 : zz_D zy_forbids_6_6 59 (.ireturn) 1 60 := ⟨by decide +kernel, rfl⟩
theorem zd_6_6_58 : zz_D zy_forbids_6_6 58 (.iconst 0) 1 59 := ⟨by decide +kernel, rfl⟩
-- TensorForge$Machine forbids (J)Z
abbrev zr_forbids_6_6 : Room := { frames := 4, cells := 0, slots := 0, locals := 76 }
def zp_forbids_6_6 (p0 : Int) (S0 : zz_S) : Int → zz_S → Prop := fun r S => zz_G S ∧ zz_fr [] [] (fun a i => a = zz_rf 5 4 + 1 ∨ a = zz_rf 5 4 + 2 ∨ a = zz_rf 5 4 + 3 ∨ a = zz_rf 5 4 + 4) S0 S ∧ (0 ≤ r ∧ r ≤ 1)
theorem zc_forbids_6_6 {g : mm_G} {l : Launch} (p0 : Int) (S0 : zz_S) (n : Nat) (hn : zz_end ≤ n) (G_S0 : zz_G S0) (hp0 : (-9223372036854775808) ≤ p0 ∧ p0 ≤ 9223372036854775807) : mm_Met g l zy_forbids_6_6 zr_forbids_6_6 [.ref 1031, zl p0] (zz_M S0 n) n (zz_QI n (zp_forbids_6_6 p0 S0)) := by
  refine zz_enter (by decide) (Nat.le_of_ble_eq_true rfl) (zz_less (ls1 := [some (.ref 1031), some (zl p0), none]) ⟨rfl, ⟨rfl, trivial⟩⟩ ?_)
  have F_S0 : zz_fr [] [] (fun a i => a = zz_rf 5 4 + 1 ∨ a = zz_rf 5 4 + 2 ∨ a = zz_rf 5 4 + 3 ∨ a = zz_rf 5 4 + 4) S0 S0 := zz_fr.refl
  refine zz_lload_n (x := p0) rfl zd_6_6_0 ?_
  refine zz_callSI [zl p0] zd_6_6_1 zk_Machine_49 rfl rfl ⟨Nat.le_of_ble_eq_true rfl, Nat.le_of_ble_eq_true rfl⟩ ⟨rfl, rfl⟩ (Nat.zero_le _) (Nat.zero_le _) (zc_hasStrangeField_12_9 p0 S0 n hn G_S0 (by omega)) (fun v2 S1 hP => ?_)
  obtain ⟨rfl, o3⟩ := hP
  rcases (by omega : v2 = 0 ∨ v2 = 1) with rfl | rfl
  · refine zz_if_ne (by omega) zd_6_6_4 (fun c4 => ?_) (fun c4 => ?_)
    · exfalso; omega
    · refine zz_aload_n (x := 1031) rfl zd_6_6_7 ?_
      refine zz_lload_n (x := p0) rfl zd_6_6_8 ?_
      refine zz_callVI [zl p0] zd_6_6_9 zk_Machine_55 zT_1031 (zz_ltn hn rfl) rfl rfl ⟨Nat.le_of_ble_eq_true rfl, Nat.le_of_ble_eq_true rfl⟩ ⟨rfl, rfl⟩ (Nat.zero_le _) (Nat.zero_le _) (zc_shapeFits_6_7 p0 S0 n hn G_S0 (by omega)) (fun v6 S5 hP => ?_)
      obtain ⟨rfl, o7⟩ := hP
      rcases (by omega : v6 = 0 ∨ v6 = 1) with rfl | rfl
      · refine zz_if_eq (by omega) zd_6_6_12 (fun c8 => ?_) (fun c8 => ?_)
        · refine zz_iconst zd_6_6_30 ?_
          exact zz_zret zd_6_6_31 rfl (by omega) (Nat.zero_le _) (Nat.zero_le _) ⟨_, _, rfl, G_S0, F_S0, by omega⟩
        · exfalso; omega
      · refine zz_if_eq (by omega) zd_6_6_12 (fun c9 => ?_) (fun c9 => ?_)
        · exfalso; omega
        · refine zz_aload_n (x := 1031) rfl zd_6_6_15 ?_
          refine zz_lload_n (x := p0) rfl zd_6_6_16 ?_
          refine zz_callVI [zl p0] zd_6_6_17 zk_Machine_58 zT_1031 (zz_ltn hn rfl) rfl rfl ⟨Nat.le_of_ble_eq_true rfl, Nat.le_of_ble_eq_true rfl⟩ ⟨rfl, rfl⟩ (Nat.zero_le _) (Nat.zero_le _) (zc_numberFits_6_8 p0 S0 n hn G_S0 (by omega)) (fun v11 S10 hP => ?_)
          obtain ⟨rfl, o12⟩ := hP
          rcases (by omega : v11 = 0 ∨ v11 = 1) with rfl | rfl
          · refine zz_if_eq (by omega) zd_6_6_20 (fun c13 => ?_) (fun c13 => ?_)
            · refine zz_iconst zd_6_6_30 ?_
              exact zz_zret zd_6_6_31 rfl (by omega) (Nat.zero_le _) (Nat.zero_le _) ⟨_, _, rfl, G_S0, F_S0, by omega⟩
            · exfalso; omega
          · refine zz_if_eq (by omega) zd_6_6_20 (fun c14 => ?_) (fun c14 => ?_)
            · exfalso; omega
            · refine zz_lload_n (x := p0) rfl zd_6_6_23 ?_
              refine zz_callSI [zl p0] zd_6_6_24 zk_Machine_61 rfl rfl ⟨Nat.le_of_ble_eq_true rfl, Nat.le_of_ble_eq_true rfl⟩ ⟨rfl, rfl⟩ (Nat.zero_le _) (Nat.zero_le _) (zc_tokensFit_6_9 p0 S0 n hn G_S0 (by omega)) (fun v16 S15 hP => ?_)
              obtain ⟨rfl, o17⟩ := hP
              rcases (by omega : v16 = 0 ∨ v16 = 1) with rfl | rfl
              · refine zz_if_ne (by omega) zd_6_6_27 (fun c18 => ?_) (fun c18 => ?_)
                · exfalso; omega
                · refine zz_iconst zd_6_6_30 ?_
                  exact zz_zret zd_6_6_31 rfl (by omega) (Nat.zero_le _) (Nat.zero_le _) ⟨_, _, rfl, G_S0, F_S0, by omega⟩
              · refine zz_if_ne (by omega) zd_6_6_27 (fun c19 => ?_) (fun c19 => ?_)
                · refine zz_aload_n (x := 1031) rfl zd_6_6_32 ?_
                  refine zz_getr (kd := 3) (z := 4) zd_6_6_33 zf_Machine_32 zT_1031 rfl (zz_ltn hn rfl) (zz_G.eq G_S0 1031 5 4 rfl rfl) (by decide) (zz_rf 5 4) rfl ?_
                  refine zz_lload_n (x := p0) rfl zd_6_6_36 ?_
                  refine zz_aload_n (x := 1031) rfl zd_6_6_37 ?_
                  have g20 := zz_G.r G_S0 1031 6 2 8 rfl rfl
                  refine zz_geti (z := S0 1031 6) zd_6_6_38 zf_Machine_36 zT_1031 rfl (zz_ltn hn rfl) rfl ?_
                  refine zz_callVV [zl p0, zi (S0 1031 6)] zd_6_6_41 zk_Machine_64 (zT_k5 (by omega)) (zN_k5 hn (by omega)) rfl rfl ⟨Nat.le_of_ble_eq_true rfl, Nat.le_of_ble_eq_true rfl⟩ ⟨rfl, rfl⟩ (Nat.zero_le _) (Nat.zero_le _) (zc_take_9_2 4 p0 (S0 1031 6) S0 n hn G_S0 (by omega) (by omega) (by omega)) (fun S21 hP => ?_)
                  obtain ⟨G_S21, fS21⟩ := hP
                  have F_S21 := zz_fr.trans F_S0 fS21 rfl (fun a i h => by rcases h with h | h | h | h; exact Or.inr (Or.inr (Or.inl h)); exact Or.inr (Or.inr (Or.inr (Or.inl h))); exact Or.inr (Or.inr (Or.inr (Or.inr (Or.inl h)))); exact Or.inr (Or.inr (Or.inr (Or.inr (Or.inr (h))))))
                  refine zz_aload_n (x := 1031) rfl zd_6_6_44 ?_
                  refine zz_getr (kd := 3) (z := 4) zd_6_6_45 zf_Machine_32 zT_1031 rfl (zz_ltn hn rfl) (zz_G.eq G_S21 1031 5 4 rfl rfl) (by decide) (zz_rf 5 4) rfl ?_
                  refine zz_callVI [] zd_6_6_48 zk_Machine_68 (zT_k5 (by omega)) (zN_k5 hn (by omega)) rfl rfl ⟨Nat.le_of_ble_eq_true rfl, Nat.le_of_ble_eq_true rfl⟩ ⟨rfl, rfl⟩ (Nat.zero_le _) (Nat.zero_le _) (zc_areThere_9_3 4 S21 n hn G_S21 (by omega)) (fun v24 S23 hP => ?_)
                  obtain ⟨rfl, o25⟩ := hP
                  rcases (by omega : v24 = 0 ∨ v24 = 1) with rfl | rfl
                  · refine zz_if_ne (by omega) zd_6_6_51 (fun c26 => ?_) (fun c26 => ?_)
                    · exfalso; omega
                    · refine zz_iconst zd_6_6_54 ?_
                      refine zz_goto zd_6_6_55 ?_
                      exact zz_zret zd_6_6_59 rfl (by omega) (Nat.zero_le _) (Nat.zero_le _) ⟨_, _, rfl, G_S21, F_S21, by omega⟩
                  · refine zz_if_ne (by omega) zd_6_6_51 (fun c27 => ?_) (fun c27 => ?_)
                    · refine zz_iconst zd_6_6_58 ?_
                      exact zz_zret zd_6_6_59 rfl (by omega) (Nat.zero_le _) (Nat.zero_le _) ⟨_, _, rfl, G_S21, F_S21, by omega⟩
                    · exfalso; omega
                · exfalso; omega
  · refine zz_if_ne (by omega) zd_6_6_4 (fun c28 => ?_) (fun c28 => ?_)
    · refine zz_iconst zd_6_6_30 ?_
      exact zz_zret zd_6_6_31 rfl (by omega) (Nat.zero_le _) (Nat.zero_le _) ⟨_, _, rfl, G_S0, F_S0, by omega⟩
    · exfalso; omega
theorem zk_TF_141 : mm_Vl "TensorForge" 141 3 1 zy_forbids_6_6 := ⟨zyw_forbids_6_6, (R_Machine, F_Machine, 14), rfl, mm_tb_1 485 (by decide +kernel) rfl, mm_tb_1 486 (by decide +kernel) rfl, mm_tb_1 487 (by decide +kernel) rfl⟩
theorem zd_1_10_8 : zz_D zy_illegal_1_10 8 (.ireturn) 1 9 := ⟨by decide +kernel, rfl⟩
-- TensorForge illegal (J)Z
abbrev zr_illegal_1_10 : Room := { frames := 5, cells := 0, slots := 0, locals := 90 }
def zp_illegal_1_10 (p0 : Int) (S0 : zz_S) : Int → zz_S → Prop := fun r S => zz_G S ∧ zz_fr [] [] (fun a i => a = zz_rf 5 4 + 1 ∨ a = zz_rf 5 4 + 2 ∨ a = zz_rf 5 4 + 3 ∨ a = zz_rf 5 4 + 4) S0 S ∧ (0 ≤ r ∧ r ≤ 1)
theorem zc_illegal_1_10 {g : mm_G} {l : Launch} (p0 : Int) (S0 : zz_S) (n : Nat) (hn : zz_end ≤ n) (G_S0 : zz_G S0) (hp0 : (-9223372036854775808) ≤ p0 ∧ p0 ≤ 9223372036854775807) : mm_Met g l zy_illegal_1_10 zr_illegal_1_10 [.ref 1000, zl p0] (zz_M S0 n) n (zz_QI n (zp_illegal_1_10 p0 S0)) := by
  refine zz_enter (by decide) (Nat.le_of_ble_eq_true rfl) (zz_less (ls1 := [some (.ref 1000), some (zl p0), none]) ⟨rfl, ⟨rfl, trivial⟩⟩ ?_)
  have F_S0 : zz_fr [] [] (fun a i => a = zz_rf 5 4 + 1 ∨ a = zz_rf 5 4 + 2 ∨ a = zz_rf 5 4 + 3 ∨ a = zz_rf 5 4 + 4) S0 S0 := zz_fr.refl
  refine zz_aload_n (x := 1000) rfl zd_1_10_0 ?_
  refine zz_getr (kd := 0) (z := 1031) zd_1_10_1 zf_TF_33 zT_1000 rfl (zz_ltn hn rfl) (zz_G.eq G_S0 1000 0 1031 rfl rfl) (by decide) 1031 rfl ?_
  refine zz_lload_n (x := p0) rfl zd_1_10_4 ?_
  refine zz_callVI [zl p0] zd_1_10_5 zk_TF_141 zT_1031 (zz_ltn hn rfl) rfl rfl ⟨Nat.le_of_ble_eq_true rfl, Nat.le_of_ble_eq_true rfl⟩ ⟨rfl, rfl⟩ (Nat.zero_le _) (Nat.zero_le _) (zc_forbids_6_6 p0 S0 n hn G_S0 (by omega)) (fun v2 S1 hP => ?_)
  obtain ⟨G_S1, fS1, o3⟩ := hP
  have F_S1 := zz_fr.trans F_S0 fS1 rfl (fun a i h => by rcases h with h | h | h | h; exact Or.inr (Or.inr (Or.inl h)); exact Or.inr (Or.inr (Or.inr (Or.inl h))); exact Or.inr (Or.inr (Or.inr (Or.inr (Or.inl h)))); exact Or.inr (Or.inr (Or.inr (Or.inr (Or.inr (h))))))
  rcases (by omega : v2 = 0 ∨ v2 = 1) with rfl | rfl
  · exact zz_zret zd_1_10_8 rfl (by omega) (Nat.zero_le _) (Nat.zero_le _) ⟨_, _, rfl, G_S1, F_S1, by omega⟩
  · exact zz_zret zd_1_10_8 rfl (by omega) (Nat.zero_le _) (Nat.zero_le _) ⟨_, _, rfl, G_S1, F_S1, by omega⟩
end
section
abbrev zy_put_1_11 : mm_Y := (⟨"TensorForge", "put", "(I)I"⟩, prog_1_method_11_code, 2, (some .int))
theorem zyw_put_1_11 : mm_Yw zy_put_1_11 1 := ⟨mm_tb_1 1222 (by decide +kernel) rfl, mm_tb_1 1 (by decide +kernel) rfl, ⟨by decide, by decide⟩, by decide +kernel⟩
theorem zd_1_11_0 : zz_D zy_put_1_11 0 (.iload_n 1) 1 1 := ⟨by decide +kernel, rfl⟩
theorem zd_1_11_1 : zz_D zy_put_1_11 1 (.invokestatic 145) 3 4 := ⟨by decide +kernel, rfl⟩
abbrev zy_areSigns_11_2 : mm_Y := (⟨"TensorForge$Text", "areSigns", "(I)Z"⟩, prog_11_method_2_code, 3, (some .boolean))
theorem zyw_areSigns_11_2 : mm_Yw zy_areSigns_11_2 1 := ⟨mm_tb_1 1225 (by decide +kernel) rfl, mm_tb_1 7 (by decide +kernel) rfl, ⟨by decide, by decide⟩, by decide +kernel⟩
theorem zd_11_2_0 : zz_D zy_areSigns_11_2 0 (.iconst 0) 1 1 := ⟨by decide +kernel, rfl⟩
theorem zd_11_2_1 : zz_D zy_areSigns_11_2 1 (.istore_n 1) 1 2 := ⟨by decide +kernel, rfl⟩
theorem zd_11_2_2 : zz_D zy_areSigns_11_2 2 (.iload_n 1) 1 3 := ⟨by decide +kernel, rfl⟩
theorem zd_11_2_3 : zz_D zy_areSigns_11_2 3 (.iconst 4) 1 4 := ⟨by decide +kernel, rfl⟩
theorem zd_11_2_4 : zz_B zy_areSigns_11_2 4 (Instr.if_icmp .ge) 48 7 := ⟨44, by decide +kernel, rfl, rfl⟩
theorem zd_11_2_7 : zz_D zy_areSigns_11_2 7 (.iload_n 0) 1 8 := ⟨by decide +kernel, rfl⟩
theorem zd_11_2_8 : zz_D zy_areSigns_11_2 8 (.bipush 8) 2 10 := ⟨by decide +kernel, rfl⟩
theorem zd_11_2_10 : zz_D zy_areSigns_11_2 10 (.iload_n 1) 1 11 := ⟨by decide +kernel, rfl⟩
theorem zd_11_2_11 : zz_D zy_areSigns_11_2 11 (.imul) 1 12 := ⟨by decide +kernel, rfl⟩
theorem zd_11_2_12 : zz_D zy_areSigns_11_2 12 (.iushr) 1 13 := ⟨by decide +kernel, rfl⟩
theorem zd_11_2_13 : zz_D zy_areSigns_11_2 13 (.sipush 255) 3 16 := ⟨by decide +kernel, rfl⟩
theorem zd_11_2_16 : zz_D zy_areSigns_11_2 16 (.iand) 1 17 := ⟨by decide +kernel, rfl⟩
theorem zd_11_2_17 : zz_D zy_areSigns_11_2 17 (.istore_n 2) 1 18 := ⟨by decide +kernel, rfl⟩
theorem zd_11_2_18 : zz_D zy_areSigns_11_2 18 (.iload_n 2) 1 19 := ⟨by decide +kernel, rfl⟩
theorem zd_11_2_19 : zz_B zy_areSigns_11_2 19 (Instr.ifCond .eq) 42 22 := ⟨23, by decide +kernel, rfl, rfl⟩
theorem zd_11_2_42 : zz_D zy_areSigns_11_2 42 (.iinc 1 1) 3 45 := ⟨by decide +kernel, rfl⟩
theorem zd_11_2_45 : zz_B zy_areSigns_11_2 45 Instr.goto 2 48 := ⟨(-43), by decide +kernel, rfl, rfl⟩
theorem zd_11_2_22 : zz_D zy_areSigns_11_2 22 (.iload_n 2) 1 23 := ⟨by decide +kernel, rfl⟩
theorem zd_11_2_23 : zz_D zy_areSigns_11_2 23 (.bipush 10) 2 25 := ⟨by decide +kernel, rfl⟩
theorem zd_11_2_25 : zz_B zy_areSigns_11_2 25 (Instr.if_icmp .eq) 42 28 := ⟨17, by decide +kernel, rfl, rfl⟩
theorem zd_11_2_28 : zz_D zy_areSigns_11_2 28 (.iload_n 2) 1 29 := ⟨by decide +kernel, rfl⟩
theorem zd_11_2_29 : zz_D zy_areSigns_11_2 29 (.bipush 32) 2 31 := ⟨by decide +kernel, rfl⟩
theorem zd_11_2_31 : zz_B zy_areSigns_11_2 31 (Instr.if_icmp .lt) 40 34 := ⟨9, by decide +kernel, rfl, rfl⟩
theorem zd_11_2_40 : zz_D zy_areSigns_11_2 40 (.iconst 0) 1 41 := ⟨by decide +kernel, rfl⟩
theorem zd_11_2_41 : zz_D zy_areSigns_11_2 41 (.ireturn) 1 42 := ⟨by decide +kernel, rfl⟩
theorem zd_11_2_34 : zz_D zy_areSigns_11_2 34 (.iload_n 2) 1 35 := ⟨by decide +kernel, rfl⟩
theorem zd_11_2_35 : zz_D zy_areSigns_11_2 35 (.bipush 126) 2 37 := ⟨by decide +kernel, rfl⟩
theorem zd_11_2_37 : zz_B zy_areSigns_11_2 37 (Instr.if_icmp .le) 42 40 := ⟨5, by decide +kernel, rfl, rfl⟩
theorem zd_11_2_48 : zz_D zy_areSigns_11_2 48 (.iconst 1) 1 49 := ⟨by decide +kernel, rfl⟩
theorem zd_11_2_49 : zz_D zy_areSigns_11_2 49 (.ireturn) 1 50 := ⟨by decide +kernel, rfl⟩
-- TensorForge$Text areSigns (I)Z
abbrev zr_areSigns_11_2 : Room := { frames := 0, cells := 0, slots := 0, locals := 0 }
def zp_areSigns_11_2 (p0 : Int) (S0 : zz_S) : Int → zz_S → Prop := fun r S => S0 = S ∧ (0 ≤ r ∧ r ≤ 1)
theorem zb_areSigns_11_2_2 {g : mm_G} {l : Launch} (p0 : Int) (S0 : zz_S) (n : Nat) (hn : zz_end ≤ n) (G_S0 : zz_G S0) (hp0 : (-2147483648) ≤ p0 ∧ p0 ≤ 2147483647) (x1 : Int) (S : zz_S) (G_S : zz_G S) (F_S : zz_fr [] [] (fun _ _ => False) S0 S) (i2_0 : 0 ≤ x1 ∧ x1 ≤ 4) (R : Nat) (hR : (4 - x1).toNat = R) (k2 : ∀ (x1 : Int) (S : zz_S), zz_G S → zz_fr [] [] (fun _ _ => False) S0 S → (0 ≤ x1 ∧ x1 ≤ 4) → (4 - x1).toNat < R → zz_E g l zy_areSigns_11_2 zr_areSigns_11_2 (zz_QI n (zp_areSigns_11_2 p0 S0)) S n 2 [some (zi p0), some (zi x1)] [] 0 0) : zz_E g l zy_areSigns_11_2 zr_areSigns_11_2 (zz_QI n (zp_areSigns_11_2 p0 S0)) S n 2 [some (zi p0), some (zi x1)] [] 0 0 := by
  refine zz_iload_n (x := x1) rfl zd_11_2_2 ?_
  refine zz_iconst zd_11_2_3 ?_
  refine zz_icmp_ge (by omega) (by omega) zd_11_2_4 (fun c1 => ?_) (fun c1 => ?_)
  · refine zz_iconst zd_11_2_48 ?_
    exact zz_zret zd_11_2_49 rfl (by omega) (Nat.zero_le _) (Nat.zero_le _) ⟨_, _, rfl, zz_fr.eq F_S, by omega⟩
  · refine zz_iload_n (x := p0) rfl zd_11_2_7 ?_
    refine zz_bipush (by decide) zd_11_2_8 ?_
    refine zz_iload_n (x := x1) rfl zd_11_2_10 ?_
    refine zz_imul zd_11_2_11 ?_
    refine zz_iushr zd_11_2_12 (fun v2 hv2 ev2 => ?_)
    refine zz_sipush (by decide) zd_11_2_13 ?_
    refine zz_iand (by omega) (by omega) zd_11_2_16 (fun v3 hv3 av3 bv3 ev3 => ?_)
    refine zz_istore_n [some (zi p0), some (zi x1), some (zi v3)] zd_11_2_17 (by decide) rfl ?_
    refine zz_iload_n (x := v3) rfl zd_11_2_18 ?_
    refine zz_if_eq (by omega) zd_11_2_19 (fun c4 => ?_) (fun c4 => ?_)
    · refine zz_iinc [some (zi p0), some (zi (x1 + 1)), some (zi v3)] zd_11_2_42 rfl rfl ?_
      refine zz_goto zd_11_2_45 ?_
      refine zz_less (ls1 := [some (zi p0), some (zi (x1 + 1))]) ⟨rfl, ⟨rfl, trivial⟩⟩ ?_
      exact k2 (x1 + 1) S G_S F_S (by omega) (by omega)
    · refine zz_iload_n (x := v3) rfl zd_11_2_22 ?_
      refine zz_bipush (by decide) zd_11_2_23 ?_
      refine zz_icmp_eq (by omega) (by omega) zd_11_2_25 (fun c5 => ?_) (fun c5 => ?_)
      · refine zz_iinc [some (zi p0), some (zi (x1 + 1)), some (zi v3)] zd_11_2_42 rfl rfl ?_
        refine zz_goto zd_11_2_45 ?_
        refine zz_less (ls1 := [some (zi p0), some (zi (x1 + 1))]) ⟨rfl, ⟨rfl, trivial⟩⟩ ?_
        exact k2 (x1 + 1) S G_S F_S (by omega) (by omega)
      · refine zz_iload_n (x := v3) rfl zd_11_2_28 ?_
        refine zz_bipush (by decide) zd_11_2_29 ?_
        refine zz_icmp_lt (by omega) (by omega) zd_11_2_31 (fun c6 => ?_) (fun c6 => ?_)
        · refine zz_iconst zd_11_2_40 ?_
          exact zz_zret zd_11_2_41 rfl (by omega) (Nat.zero_le _) (Nat.zero_le _) ⟨_, _, rfl, zz_fr.eq F_S, by omega⟩
        · refine zz_iload_n (x := v3) rfl zd_11_2_34 ?_
          refine zz_bipush (by decide) zd_11_2_35 ?_
          refine zz_icmp_le (by omega) (by omega) zd_11_2_37 (fun c7 => ?_) (fun c7 => ?_)
          · refine zz_iinc [some (zi p0), some (zi (x1 + 1)), some (zi v3)] zd_11_2_42 rfl rfl ?_
            refine zz_goto zd_11_2_45 ?_
            refine zz_less (ls1 := [some (zi p0), some (zi (x1 + 1))]) ⟨rfl, ⟨rfl, trivial⟩⟩ ?_
            exact k2 (x1 + 1) S G_S F_S (by omega) (by omega)
          · refine zz_iconst zd_11_2_40 ?_
            exact zz_zret zd_11_2_41 rfl (by omega) (Nat.zero_le _) (Nat.zero_le _) ⟨_, _, rfl, zz_fr.eq F_S, by omega⟩
theorem zi_areSigns_11_2 {g : mm_G} {l : Launch} (p0 : Int) (S0 : zz_S) (n : Nat) (hn : zz_end ≤ n) (G_S0 : zz_G S0) (hp0 : (-2147483648) ≤ p0 ∧ p0 ≤ 2147483647) : ∀ N : Nat, (∀ (x1 : Int) (S : zz_S), zz_G S → zz_fr [] [] (fun _ _ => False) S0 S → (0 ≤ x1 ∧ x1 ≤ 4) → (4 - x1).toNat < N → zz_E g l zy_areSigns_11_2 zr_areSigns_11_2 (zz_QI n (zp_areSigns_11_2 p0 S0)) S n 2 [some (zi p0), some (zi x1)] [] 0 0) := by
  intro N
  induction N with
  | zero => exact fun x1 S _ _ _ h => absurd h (Nat.not_lt_zero _)
  | succ N ih =>
    exact fun x1 S a b j0 hR => zb_areSigns_11_2_2 p0 S0 n hn G_S0 hp0 x1 S a b j0 _ rfl (fun x1 S a b j0 h => ih x1 S a b j0 (Nat.lt_of_lt_of_le h (Nat.le_of_lt_succ hR)))
theorem zc_areSigns_11_2 {g : mm_G} {l : Launch} (p0 : Int) (S0 : zz_S) (n : Nat) (hn : zz_end ≤ n) (G_S0 : zz_G S0) (hp0 : (-2147483648) ≤ p0 ∧ p0 ≤ 2147483647) : mm_Met g l zy_areSigns_11_2 zr_areSigns_11_2 [zi p0] (zz_M S0 n) n (zz_QI n (zp_areSigns_11_2 p0 S0)) := by
  refine zz_enter (by decide) (Nat.le_of_ble_eq_true rfl) (zz_less (ls1 := [some (zi p0)]) ⟨rfl, trivial⟩ ?_)
  have F_S0 : zz_fr [] [] (fun _ _ => False) S0 S0 := zz_fr.refl
  have k2 : ∀ (x1 : Int) (S : zz_S), zz_G S → zz_fr [] [] (fun _ _ => False) S0 S → (0 ≤ x1 ∧ x1 ≤ 4) → zz_E g l zy_areSigns_11_2 zr_areSigns_11_2 (zz_QI n (zp_areSigns_11_2 p0 S0)) S n 2 [some (zi p0), some (zi x1)] [] 0 0 := fun x1 S a b j0 => (zi_areSigns_11_2 (g := g) (l := l) p0 S0 n hn G_S0 hp0 _) x1 S a b j0 (Nat.lt_succ_self _)
  refine zz_iconst zd_11_2_0 ?_
  refine zz_istore_n [some (zi p0), some (zi 0)] zd_11_2_1 (by decide) rfl ?_
  refine zz_less (ls1 := [some (zi p0), some (zi 0)]) ⟨rfl, ⟨rfl, trivial⟩⟩ ?_
  exact k2 0 S0 G_S0 F_S0 (by omega)
theorem zk_TF_145 : mm_Sl "TensorForge" 145 1 zy_areSigns_11_2 := ⟨zyw_areSigns_11_2, mm_tb_1 1223 (by decide +kernel) rfl, mm_tb_1 1224 (by decide +kernel) rfl⟩
theorem zd_1_11_4 : zz_B zy_put_1_11 4 (Instr.ifCond .ne) 17 7 := ⟨13, by decide +kernel, rfl, rfl⟩
theorem zt_1_11_7 : zz_Thr zy_put_1_11 7 87 149 91 := ⟨by decide +kernel, by decide +kernel, by decide +kernel, by decide +kernel, by decide +kernel⟩
theorem zxl_TF_87_149_91 : mm_Xl "TensorForge" 87 149 91 0 := ⟨mm_tb_1 1048 (by decide +kernel) rfl, mm_tb_1 1049 (by decide +kernel) rfl, mm_tb_1 16 (by decide +kernel) rfl, ⟨38, by decide +kernel⟩, zxa_TF_91⟩
theorem zd_1_11_17 : zz_D zy_put_1_11 17 (.aload_n 0) 1 18 := ⟨by decide +kernel, rfl⟩
theorem zd_1_11_18 : zz_D zy_put_1_11 18 (.getfield 49) 3 21 := ⟨by decide +kernel, rfl⟩
theorem zf_TF_49 : mm_Fl "TensorForge" 49 0 2 (.object "TensorForge$Text") true := ⟨R_TF, F_TF, 12, t_TF, rfl, i_TF, by decide, mm_tb_1 442 (by decide +kernel) rfl, rfl, t_TF_ok, n_TF, rfl, by decide +kernel⟩
theorem zd_1_11_21 : zz_D zy_put_1_11 21 (.iload_n 1) 1 22 := ⟨by decide +kernel, rfl⟩
theorem zd_1_11_22 : zz_D zy_put_1_11 22 (.invokevirtual 151) 3 25 := ⟨by decide +kernel, rfl⟩
abbrev zy_hasRoomFor_11_3 : mm_Y := (⟨"TensorForge$Text", "hasRoomFor", "(I)Z"⟩, prog_11_method_3_code, 4, (some .boolean))
theorem zyw_hasRoomFor_11_3 : mm_Yw zy_hasRoomFor_11_3 1 := ⟨mm_tb_1 1230 (by decide +kernel) rfl, mm_tb_1 7 (by decide +kernel) rfl, ⟨by decide, by decide⟩, by decide +kernel⟩
theorem zd_11_3_0 : zz_D zy_hasRoomFor_11_3 0 (.iconst 0) 1 1 := ⟨by decide +kernel, rfl⟩
theorem zd_11_3_1 : zz_D zy_hasRoomFor_11_3 1 (.istore_n 2) 1 2 := ⟨by decide +kernel, rfl⟩
theorem zd_11_3_2 : zz_D zy_hasRoomFor_11_3 2 (.iconst 0) 1 3 := ⟨by decide +kernel, rfl⟩
theorem zd_11_3_3 : zz_D zy_hasRoomFor_11_3 3 (.istore_n 3) 1 4 := ⟨by decide +kernel, rfl⟩
theorem zd_11_3_4 : zz_D zy_hasRoomFor_11_3 4 (.iload_n 3) 1 5 := ⟨by decide +kernel, rfl⟩
theorem zd_11_3_5 : zz_D zy_hasRoomFor_11_3 5 (.iconst 4) 1 6 := ⟨by decide +kernel, rfl⟩
theorem zd_11_3_6 : zz_B zy_hasRoomFor_11_3 6 (Instr.if_icmp .ge) 31 9 := ⟨25, by decide +kernel, rfl, rfl⟩
theorem zd_11_3_9 : zz_D zy_hasRoomFor_11_3 9 (.iload_n 1) 1 10 := ⟨by decide +kernel, rfl⟩
theorem zd_11_3_10 : zz_D zy_hasRoomFor_11_3 10 (.bipush 8) 2 12 := ⟨by decide +kernel, rfl⟩
theorem zd_11_3_12 : zz_D zy_hasRoomFor_11_3 12 (.iload_n 3) 1 13 := ⟨by decide +kernel, rfl⟩
theorem zd_11_3_13 : zz_D zy_hasRoomFor_11_3 13 (.imul) 1 14 := ⟨by decide +kernel, rfl⟩
theorem zd_11_3_14 : zz_D zy_hasRoomFor_11_3 14 (.iushr) 1 15 := ⟨by decide +kernel, rfl⟩
theorem zd_11_3_15 : zz_D zy_hasRoomFor_11_3 15 (.sipush 255) 3 18 := ⟨by decide +kernel, rfl⟩
theorem zd_11_3_18 : zz_D zy_hasRoomFor_11_3 18 (.iand) 1 19 := ⟨by decide +kernel, rfl⟩
theorem zd_11_3_19 : zz_B zy_hasRoomFor_11_3 19 (Instr.ifCond .eq) 25 22 := ⟨6, by decide +kernel, rfl, rfl⟩
theorem zd_11_3_25 : zz_D zy_hasRoomFor_11_3 25 (.iinc 3 1) 3 28 := ⟨by decide +kernel, rfl⟩
theorem zd_11_3_28 : zz_B zy_hasRoomFor_11_3 28 Instr.goto 4 31 := ⟨(-24), by decide +kernel, rfl, rfl⟩
theorem zd_11_3_22 : zz_D zy_hasRoomFor_11_3 22 (.iinc 2 1) 3 25 := ⟨by decide +kernel, rfl⟩
theorem zd_11_3_31 : zz_D zy_hasRoomFor_11_3 31 (.aload_n 0) 1 32 := ⟨by decide +kernel, rfl⟩
theorem zd_11_3_32 : zz_D zy_hasRoomFor_11_3 32 (.getfield 15) 3 35 := ⟨by decide +kernel, rfl⟩
theorem zf_Text_15 : mm_Fl "TensorForge$Text" 15 6 1 .int false := ⟨R_Text, F_Text, 7, t_Text, rfl, i_Text, by decide, mm_tb_1 286 (by decide +kernel) rfl, rfl, t_Text_ok, n_Text, rfl, by decide +kernel⟩
theorem zd_11_3_35 : zz_D zy_hasRoomFor_11_3 35 (.iload_n 2) 1 36 := ⟨by decide +kernel, rfl⟩
theorem zd_11_3_36 : zz_D zy_hasRoomFor_11_3 36 (.iadd) 1 37 := ⟨by decide +kernel, rfl⟩
theorem zd_11_3_37 : zz_D zy_hasRoomFor_11_3 37 (.sipush 1500) 3 40 := ⟨by decide +kernel, rfl⟩
theorem zd_11_3_40 : zz_B zy_hasRoomFor_11_3 40 (Instr.if_icmp .gt) 47 43 := ⟨7, by decide +kernel, rfl, rfl⟩
theorem zd_11_3_47 : zz_D zy_hasRoomFor_11_3 47 (.iconst 0) 1 48 := ⟨by decide +kernel, rfl⟩
theorem zd_11_3_48 : zz_D zy_hasRoomFor_11_3 48 (.ireturn) 1 49 := ⟨by decide +kernel, rfl⟩
theorem zd_11_3_43 : zz_D zy_hasRoomFor_11_3 43 (.iconst 1) 1 44 := ⟨by decide +kernel, rfl⟩
theorem zd_11_3_44 : zz_B zy_hasRoomFor_11_3 44 Instr.goto 48 47 := ⟨4, by decide +kernel, rfl, rfl⟩
-- TensorForge$Text hasRoomFor (I)Z
abbrev zr_hasRoomFor_11_3 : Room := { frames := 0, cells := 0, slots := 0, locals := 0 }
def zp_hasRoomFor_11_3 (p0 : Int) (S0 : zz_S) : Int → zz_S → Prop := fun r S => S0 = S ∧ (0 ≤ r ∧ r ≤ 1)
theorem zb_hasRoomFor_11_3_4 {g : mm_G} {l : Launch} (p0 : Int) (S0 : zz_S) (n : Nat) (hn : zz_end ≤ n) (G_S0 : zz_G S0) (hp0 : (-2147483648) ≤ p0 ∧ p0 ≤ 2147483647) (x2 : Int) (x3 : Int) (S : zz_S) (G_S : zz_G S) (F_S : zz_fr [] [] (fun _ _ => False) S0 S) (i4_0 : (-2147483648) ≤ x2 ∧ x2 ≤ 2147483647) (i4_1 : 0 ≤ x3 ∧ x3 ≤ 4) (R : Nat) (hR : (4 - x3).toNat = R) (k4 : ∀ (x2 : Int) (x3 : Int) (S : zz_S), zz_G S → zz_fr [] [] (fun _ _ => False) S0 S → ((-2147483648) ≤ x2 ∧ x2 ≤ 2147483647) → (0 ≤ x3 ∧ x3 ≤ 4) → (4 - x3).toNat < R → zz_E g l zy_hasRoomFor_11_3 zr_hasRoomFor_11_3 (zz_QI n (zp_hasRoomFor_11_3 p0 S0)) S n 4 [some (.ref 1070), some (zi p0), some (zi x2), some (zi x3)] [] 0 0) : zz_E g l zy_hasRoomFor_11_3 zr_hasRoomFor_11_3 (zz_QI n (zp_hasRoomFor_11_3 p0 S0)) S n 4 [some (.ref 1070), some (zi p0), some (zi x2), some (zi x3)] [] 0 0 := by
  refine zz_iload_n (x := x3) rfl zd_11_3_4 ?_
  refine zz_iconst zd_11_3_5 ?_
  refine zz_icmp_ge (by omega) (by omega) zd_11_3_6 (fun c1 => ?_) (fun c1 => ?_)
  · refine zz_aload_n (x := 1070) rfl zd_11_3_31 ?_
    have g2 := zz_G.r G_S0 1070 1 0 1500 rfl rfl
    refine zz_geti (z := S0 1070 1) zd_11_3_32 zf_Text_15 zT_1070 rfl (zz_ltn hn rfl) (zz_rc F_S rfl rfl (fun h => h) rfl) ?_
    refine zz_iload_n (x := x2) rfl zd_11_3_35 ?_
    refine zz_iadd zd_11_3_36 ?_
    refine zz_nrm (fun v3 hv3 ev3 => ?_)
    refine zz_sipush (by decide) zd_11_3_37 ?_
    refine zz_icmp_gt (by omega) (by omega) zd_11_3_40 (fun c4 => ?_) (fun c4 => ?_)
    · refine zz_iconst zd_11_3_47 ?_
      exact zz_zret zd_11_3_48 rfl (by omega) (Nat.zero_le _) (Nat.zero_le _) ⟨_, _, rfl, zz_fr.eq F_S, by omega⟩
    · refine zz_iconst zd_11_3_43 ?_
      refine zz_goto zd_11_3_44 ?_
      exact zz_zret zd_11_3_48 rfl (by omega) (Nat.zero_le _) (Nat.zero_le _) ⟨_, _, rfl, zz_fr.eq F_S, by omega⟩
  · refine zz_iload_n (x := p0) rfl zd_11_3_9 ?_
    refine zz_bipush (by decide) zd_11_3_10 ?_
    refine zz_iload_n (x := x3) rfl zd_11_3_12 ?_
    refine zz_imul zd_11_3_13 ?_
    refine zz_iushr zd_11_3_14 (fun v5 hv5 ev5 => ?_)
    refine zz_sipush (by decide) zd_11_3_15 ?_
    refine zz_iand (by omega) (by omega) zd_11_3_18 (fun v6 hv6 av6 bv6 ev6 => ?_)
    refine zz_if_eq (by omega) zd_11_3_19 (fun c7 => ?_) (fun c7 => ?_)
    · refine zz_iinc [some (.ref 1070), some (zi p0), some (zi x2), some (zi (x3 + 1))] zd_11_3_25 rfl rfl ?_
      refine zz_goto zd_11_3_28 ?_
      refine zz_less (ls1 := [some (.ref 1070), some (zi p0), some (zi x2), some (zi (x3 + 1))]) ⟨rfl, ⟨rfl, ⟨rfl, ⟨rfl, trivial⟩⟩⟩⟩ ?_
      exact k4 x2 (x3 + 1) S G_S F_S (by omega) (by omega) (by omega)
    · refine zz_iincN (fun v8 => [some (.ref 1070), some (zi p0), some (zi v8), some (zi x3)]) zd_11_3_22 rfl (fun _ => rfl) (fun v8 hv8 ev8 => ?_)
      refine zz_iinc [some (.ref 1070), some (zi p0), some (zi v8), some (zi (x3 + 1))] zd_11_3_25 rfl rfl ?_
      refine zz_goto zd_11_3_28 ?_
      refine zz_less (ls1 := [some (.ref 1070), some (zi p0), some (zi v8), some (zi (x3 + 1))]) ⟨rfl, ⟨rfl, ⟨rfl, ⟨rfl, trivial⟩⟩⟩⟩ ?_
      exact k4 v8 (x3 + 1) S G_S F_S (by omega) (by omega) (by omega)
theorem zi_hasRoomFor_11_3 {g : mm_G} {l : Launch} (p0 : Int) (S0 : zz_S) (n : Nat) (hn : zz_end ≤ n) (G_S0 : zz_G S0) (hp0 : (-2147483648) ≤ p0 ∧ p0 ≤ 2147483647) : ∀ N : Nat, (∀ (x2 : Int) (x3 : Int) (S : zz_S), zz_G S → zz_fr [] [] (fun _ _ => False) S0 S → ((-2147483648) ≤ x2 ∧ x2 ≤ 2147483647) → (0 ≤ x3 ∧ x3 ≤ 4) → (4 - x3).toNat < N → zz_E g l zy_hasRoomFor_11_3 zr_hasRoomFor_11_3 (zz_QI n (zp_hasRoomFor_11_3 p0 S0)) S n 4 [some (.ref 1070), some (zi p0), some (zi x2), some (zi x3)] [] 0 0) := by
  intro N
  induction N with
  | zero => exact fun x2 x3 S _ _ _ _ h => absurd h (Nat.not_lt_zero _)
  | succ N ih =>
    exact fun x2 x3 S a b j0 j1 hR => zb_hasRoomFor_11_3_4 p0 S0 n hn G_S0 hp0 x2 x3 S a b j0 j1 _ rfl (fun x2 x3 S a b j0 j1 h => ih x2 x3 S a b j0 j1 (Nat.lt_of_lt_of_le h (Nat.le_of_lt_succ hR)))
theorem zc_hasRoomFor_11_3 {g : mm_G} {l : Launch} (p0 : Int) (S0 : zz_S) (n : Nat) (hn : zz_end ≤ n) (G_S0 : zz_G S0) (hp0 : (-2147483648) ≤ p0 ∧ p0 ≤ 2147483647) : mm_Met g l zy_hasRoomFor_11_3 zr_hasRoomFor_11_3 [.ref 1070, zi p0] (zz_M S0 n) n (zz_QI n (zp_hasRoomFor_11_3 p0 S0)) := by
  refine zz_enter (by decide) (Nat.le_of_ble_eq_true rfl) (zz_less (ls1 := [some (.ref 1070), some (zi p0)]) ⟨rfl, ⟨rfl, trivial⟩⟩ ?_)
  have F_S0 : zz_fr [] [] (fun _ _ => False) S0 S0 := zz_fr.refl
  have k4 : ∀ (x2 : Int) (x3 : Int) (S : zz_S), zz_G S → zz_fr [] [] (fun _ _ => False) S0 S → ((-2147483648) ≤ x2 ∧ x2 ≤ 2147483647) → (0 ≤ x3 ∧ x3 ≤ 4) → zz_E g l zy_hasRoomFor_11_3 zr_hasRoomFor_11_3 (zz_QI n (zp_hasRoomFor_11_3 p0 S0)) S n 4 [some (.ref 1070), some (zi p0), some (zi x2), some (zi x3)] [] 0 0 := fun x2 x3 S a b j0 j1 => (zi_hasRoomFor_11_3 (g := g) (l := l) p0 S0 n hn G_S0 hp0 _) x2 x3 S a b j0 j1 (Nat.lt_succ_self _)
  refine zz_iconst zd_11_3_0 ?_
  refine zz_istore_n [some (.ref 1070), some (zi p0), some (zi 0)] zd_11_3_1 (by decide) rfl ?_
  refine zz_iconst zd_11_3_2 ?_
  refine zz_istore_n [some (.ref 1070), some (zi p0), some (zi 0), some (zi 0)] zd_11_3_3 (by decide) rfl ?_
  refine zz_less (ls1 := [some (.ref 1070), some (zi p0), some (zi 0), some (zi 0)]) ⟨rfl, ⟨rfl, ⟨rfl, ⟨rfl, trivial⟩⟩⟩⟩ ?_
  exact k4 0 0 S0 G_S0 F_S0 (by omega) (by omega)
theorem zk_TF_151 : mm_Vl "TensorForge" 151 6 1 zy_hasRoomFor_11_3 := ⟨zyw_hasRoomFor_11_3, (R_Text, F_Text, 7), rfl, mm_tb_1 1227 (by decide +kernel) rfl, mm_tb_1 1228 (by decide +kernel) rfl, mm_tb_1 1229 (by decide +kernel) rfl⟩
theorem zd_1_11_25 : zz_B zy_put_1_11 25 (Instr.ifCond .ne) 38 28 := ⟨13, by decide +kernel, rfl, rfl⟩
theorem zt_1_11_28 : zz_Thr zy_put_1_11 28 126 154 130 := ⟨by decide +kernel, by decide +kernel, by decide +kernel, by decide +kernel, by decide +kernel⟩
theorem zxl_TF_126_154_130 : mm_Xl "TensorForge" 126 154 130 2 := ⟨mm_tb_1 1176 (by decide +kernel) rfl, mm_tb_1 1177 (by decide +kernel) rfl, mm_tb_1 19 (by decide +kernel) rfl, ⟨39, by decide +kernel⟩, zxa_TF_130⟩
theorem zd_1_11_38 : zz_D zy_put_1_11 38 (.aload_n 0) 1 39 := ⟨by decide +kernel, rfl⟩
theorem zd_1_11_39 : zz_D zy_put_1_11 39 (.getfield 49) 3 42 := ⟨by decide +kernel, rfl⟩
theorem zd_1_11_42 : zz_D zy_put_1_11 42 (.iload_n 1) 1 43 := ⟨by decide +kernel, rfl⟩
theorem zd_1_11_43 : zz_D zy_put_1_11 43 (.invokevirtual 156) 3 46 := ⟨by decide +kernel, rfl⟩
abbrev zy_append_11_4 : mm_Y := (⟨"TensorForge$Text", "append", "(I)V"⟩, prog_11_method_4_code, 4, none)
theorem zyw_append_11_4 : mm_Yw zy_append_11_4 1 := ⟨mm_tb_1 1235 (by decide +kernel) rfl, mm_tb_1 7 (by decide +kernel) rfl, ⟨by decide, by decide⟩, by decide +kernel⟩
theorem zd_11_4_0 : zz_D zy_append_11_4 0 (.iconst 0) 1 1 := ⟨by decide +kernel, rfl⟩
theorem zd_11_4_1 : zz_D zy_append_11_4 1 (.istore_n 2) 1 2 := ⟨by decide +kernel, rfl⟩
theorem zd_11_4_2 : zz_D zy_append_11_4 2 (.iload_n 2) 1 3 := ⟨by decide +kernel, rfl⟩
theorem zd_11_4_3 : zz_D zy_append_11_4 3 (.iconst 4) 1 4 := ⟨by decide +kernel, rfl⟩
theorem zd_11_4_4 : zz_B zy_append_11_4 4 (Instr.if_icmp .ge) 61 7 := ⟨57, by decide +kernel, rfl, rfl⟩
theorem zd_11_4_7 : zz_D zy_append_11_4 7 (.iload_n 1) 1 8 := ⟨by decide +kernel, rfl⟩
theorem zd_11_4_8 : zz_D zy_append_11_4 8 (.bipush 8) 2 10 := ⟨by decide +kernel, rfl⟩
theorem zd_11_4_10 : zz_D zy_append_11_4 10 (.iload_n 2) 1 11 := ⟨by decide +kernel, rfl⟩
theorem zd_11_4_11 : zz_D zy_append_11_4 11 (.imul) 1 12 := ⟨by decide +kernel, rfl⟩
theorem zd_11_4_12 : zz_D zy_append_11_4 12 (.iushr) 1 13 := ⟨by decide +kernel, rfl⟩
theorem zd_11_4_13 : zz_D zy_append_11_4 13 (.sipush 255) 3 16 := ⟨by decide +kernel, rfl⟩
theorem zd_11_4_16 : zz_D zy_append_11_4 16 (.iand) 1 17 := ⟨by decide +kernel, rfl⟩
theorem zd_11_4_17 : zz_D zy_append_11_4 17 (.istore_n 3) 1 18 := ⟨by decide +kernel, rfl⟩
theorem zd_11_4_18 : zz_D zy_append_11_4 18 (.iload_n 3) 1 19 := ⟨by decide +kernel, rfl⟩
theorem zd_11_4_19 : zz_B zy_append_11_4 19 (Instr.ifCond .eq) 55 22 := ⟨36, by decide +kernel, rfl, rfl⟩
theorem zd_11_4_55 : zz_D zy_append_11_4 55 (.iinc 2 1) 3 58 := ⟨by decide +kernel, rfl⟩
theorem zd_11_4_58 : zz_B zy_append_11_4 58 Instr.goto 2 61 := ⟨(-56), by decide +kernel, rfl, rfl⟩
theorem zd_11_4_22 : zz_D zy_append_11_4 22 (.aload_n 0) 1 23 := ⟨by decide +kernel, rfl⟩
theorem zd_11_4_23 : zz_D zy_append_11_4 23 (.getfield 15) 3 26 := ⟨by decide +kernel, rfl⟩
theorem zd_11_4_26 : zz_D zy_append_11_4 26 (.aload_n 0) 1 27 := ⟨by decide +kernel, rfl⟩
theorem zd_11_4_27 : zz_D zy_append_11_4 27 (.getfield 9) 3 30 := ⟨by decide +kernel, rfl⟩
theorem zf_Text_9 : mm_Fl "TensorForge$Text" 9 6 0 (.array .char) true := ⟨R_Text, F_Text, 7, t_Text, rfl, i_Text, by decide, mm_tb_1 285 (by decide +kernel) rfl, rfl, t_Text_ok, n_Text, rfl, by decide +kernel⟩
theorem zd_11_4_30 : zz_D zy_append_11_4 30 (.arraylength) 1 31 := ⟨by decide +kernel, rfl⟩
theorem zd_11_4_31 : zz_B zy_append_11_4 31 (Instr.if_icmp .ge) 55 34 := ⟨24, by decide +kernel, rfl, rfl⟩
theorem zd_11_4_34 : zz_D zy_append_11_4 34 (.aload_n 0) 1 35 := ⟨by decide +kernel, rfl⟩
theorem zd_11_4_35 : zz_D zy_append_11_4 35 (.getfield 9) 3 38 := ⟨by decide +kernel, rfl⟩
theorem zd_11_4_38 : zz_D zy_append_11_4 38 (.aload_n 0) 1 39 := ⟨by decide +kernel, rfl⟩
theorem zd_11_4_39 : zz_D zy_append_11_4 39 (.getfield 15) 3 42 := ⟨by decide +kernel, rfl⟩
theorem zd_11_4_42 : zz_D zy_append_11_4 42 (.iload_n 3) 1 43 := ⟨by decide +kernel, rfl⟩
theorem zd_11_4_43 : zz_D zy_append_11_4 43 (.i2c) 1 44 := ⟨by decide +kernel, rfl⟩
theorem zd_11_4_44 : zz_D zy_append_11_4 44 (.castore) 1 45 := ⟨by decide +kernel, rfl⟩
theorem zd_11_4_45 : zz_D zy_append_11_4 45 (.aload_n 0) 1 46 := ⟨by decide +kernel, rfl⟩
theorem zd_11_4_46 : zz_D zy_append_11_4 46 (.dup) 1 47 := ⟨by decide +kernel, rfl⟩
theorem zd_11_4_47 : zz_D zy_append_11_4 47 (.getfield 15) 3 50 := ⟨by decide +kernel, rfl⟩
theorem zd_11_4_50 : zz_D zy_append_11_4 50 (.iconst 1) 1 51 := ⟨by decide +kernel, rfl⟩
theorem zd_11_4_51 : zz_D zy_append_11_4 51 (.iadd) 1 52 := ⟨by decide +kernel, rfl⟩
theorem zd_11_4_52 : zz_D zy_append_11_4 52 (.putfield 15) 3 55 := ⟨by decide +kernel, rfl⟩
theorem zd_11_4_61 : zz_D zy_append_11_4 61 (.return_) 1 62 := ⟨by decide +kernel, rfl⟩
-- TensorForge$Text append (I)V
abbrev zr_append_11_4 : Room := { frames := 0, cells := 0, slots := 0, locals := 0 }
def zp_append_11_4 (p0 : Int) (S0 : zz_S) : zz_S → Prop := fun S => zz_G S ∧ zz_fr [(1070, 1)] [1071] (fun _ _ => False) S0 S
theorem zb_append_11_4_2 {g : mm_G} {l : Launch} (p0 : Int) (S0 : zz_S) (n : Nat) (hn : zz_end ≤ n) (G_S0 : zz_G S0) (hp0 : (-2147483648) ≤ p0 ∧ p0 ≤ 2147483647) (x2 : Int) (S : zz_S) (G_S : zz_G S) (F_S : zz_fr [(1070, 1)] [1071] (fun _ _ => False) S0 S) (i2_0 : 0 ≤ x2 ∧ x2 ≤ 4) (R : Nat) (hR : (4 - x2).toNat = R) (k2 : ∀ (x2 : Int) (S : zz_S), zz_G S → zz_fr [(1070, 1)] [1071] (fun _ _ => False) S0 S → (0 ≤ x2 ∧ x2 ≤ 4) → (4 - x2).toNat < R → zz_E g l zy_append_11_4 zr_append_11_4 (zz_QV n (zp_append_11_4 p0 S0)) S n 2 [some (.ref 1070), some (zi p0), some (zi x2)] [] 0 0) : zz_E g l zy_append_11_4 zr_append_11_4 (zz_QV n (zp_append_11_4 p0 S0)) S n 2 [some (.ref 1070), some (zi p0), some (zi x2)] [] 0 0 := by
  refine zz_iload_n (x := x2) rfl zd_11_4_2 ?_
  refine zz_iconst zd_11_4_3 ?_
  refine zz_icmp_ge (by omega) (by omega) zd_11_4_4 (fun c1 => ?_) (fun c1 => ?_)
  · exact zz_vret zd_11_4_61 rfl (Nat.zero_le _) (Nat.zero_le _) ⟨_, rfl, G_S, F_S⟩
  · refine zz_iload_n (x := p0) rfl zd_11_4_7 ?_
    refine zz_bipush (by decide) zd_11_4_8 ?_
    refine zz_iload_n (x := x2) rfl zd_11_4_10 ?_
    refine zz_imul zd_11_4_11 ?_
    refine zz_iushr zd_11_4_12 (fun v2 hv2 ev2 => ?_)
    refine zz_sipush (by decide) zd_11_4_13 ?_
    refine zz_iand (by omega) (by omega) zd_11_4_16 (fun v3 hv3 av3 bv3 ev3 => ?_)
    refine zz_istore_n [some (.ref 1070), some (zi p0), some (zi x2), some (zi v3)] zd_11_4_17 (by decide) rfl ?_
    refine zz_iload_n (x := v3) rfl zd_11_4_18 ?_
    refine zz_if_eq (by omega) zd_11_4_19 (fun c4 => ?_) (fun c4 => ?_)
    · refine zz_iinc [some (.ref 1070), some (zi p0), some (zi (x2 + 1)), some (zi v3)] zd_11_4_55 rfl rfl ?_
      refine zz_goto zd_11_4_58 ?_
      refine zz_less (ls1 := [some (.ref 1070), some (zi p0), some (zi (x2 + 1))]) ⟨rfl, ⟨rfl, ⟨rfl, trivial⟩⟩⟩ ?_
      exact k2 (x2 + 1) S G_S F_S (by omega) (by omega)
    · refine zz_aload_n (x := 1070) rfl zd_11_4_22 ?_
      have g5 := zz_G.r G_S 1070 1 0 1500 rfl rfl
      refine zz_geti (z := S 1070 1) zd_11_4_23 zf_Text_15 zT_1070 rfl (zz_ltn hn rfl) rfl ?_
      refine zz_aload_n (x := 1070) rfl zd_11_4_26 ?_
      refine zz_getr (kd := 0) (z := 1071) zd_11_4_27 zf_Text_9 zT_1070 rfl (zz_ltn hn rfl) (zz_G.eq G_S 1070 0 1071 rfl rfl) (by decide) 1071 rfl ?_
      refine zz_alen zd_11_4_30 zT_1071 rfl (zz_ltn hn rfl) ?_
      refine zz_icmp_ge (by omega) (by omega) zd_11_4_31 (fun c6 => ?_) (fun c6 => ?_)
      · refine zz_iinc [some (.ref 1070), some (zi p0), some (zi (x2 + 1)), some (zi v3)] zd_11_4_55 rfl rfl ?_
        refine zz_goto zd_11_4_58 ?_
        refine zz_less (ls1 := [some (.ref 1070), some (zi p0), some (zi (x2 + 1))]) ⟨rfl, ⟨rfl, ⟨rfl, trivial⟩⟩⟩ ?_
        exact k2 (x2 + 1) S G_S F_S (by omega) (by omega)
      · refine zz_aload_n (x := 1070) rfl zd_11_4_34 ?_
        refine zz_getr (kd := 0) (z := 1071) zd_11_4_35 zf_Text_9 zT_1070 rfl (zz_ltn hn rfl) (zz_G.eq G_S 1070 0 1071 rfl rfl) (by decide) 1071 rfl ?_
        refine zz_aload_n (x := 1070) rfl zd_11_4_38 ?_
        refine zz_geti (z := S 1070 1) zd_11_4_39 zf_Text_15 zT_1070 rfl (zz_ltn hn rfl) rfl ?_
        refine zz_iload_n (x := v3) rfl zd_11_4_42 ?_
        refine zz_i2c (by omega) zd_11_4_43 ?_
        refine zz_cast zd_11_4_44 zT_1071 rfl (zz_ltn hn rfl) (by decide) (by omega) (by omega) (fun S7 qS7 => ?_)
        have G_S7 := zz_G.put G_S qS7 0 65535 rfl (by omega)
        have F_S7 := zz_fr.putc F_S qS7 rfl
        refine zz_aload_n (x := 1070) rfl zd_11_4_45 ?_
        refine zz_dup rfl zd_11_4_46 ?_
        refine zz_geti (z := S 1070 1) zd_11_4_47 zf_Text_15 zT_1070 rfl (zz_ltn hn rfl) (zz_ro qS7 (fun h => absurd h.1 (by decide)) rfl) ?_
        refine zz_iconst zd_11_4_50 ?_
        refine zz_iadd zd_11_4_51 ?_
        refine zz_puti zd_11_4_52 zf_Text_15 zT_1070 rfl (zz_ltn hn rfl) (fun S8 qS8 => ?_)
        have G_S8 := zz_G.put G_S7 qS8 0 1500 rfl (by omega)
        have F_S8 := zz_fr.puts F_S7 qS8 rfl
        refine zz_iinc [some (.ref 1070), some (zi p0), some (zi (x2 + 1)), some (zi v3)] zd_11_4_55 rfl rfl ?_
        refine zz_goto zd_11_4_58 ?_
        refine zz_less (ls1 := [some (.ref 1070), some (zi p0), some (zi (x2 + 1))]) ⟨rfl, ⟨rfl, ⟨rfl, trivial⟩⟩⟩ ?_
        exact k2 (x2 + 1) S8 G_S8 F_S8 (by omega) (by omega)
theorem zi_append_11_4 {g : mm_G} {l : Launch} (p0 : Int) (S0 : zz_S) (n : Nat) (hn : zz_end ≤ n) (G_S0 : zz_G S0) (hp0 : (-2147483648) ≤ p0 ∧ p0 ≤ 2147483647) : ∀ N : Nat, (∀ (x2 : Int) (S : zz_S), zz_G S → zz_fr [(1070, 1)] [1071] (fun _ _ => False) S0 S → (0 ≤ x2 ∧ x2 ≤ 4) → (4 - x2).toNat < N → zz_E g l zy_append_11_4 zr_append_11_4 (zz_QV n (zp_append_11_4 p0 S0)) S n 2 [some (.ref 1070), some (zi p0), some (zi x2)] [] 0 0) := by
  intro N
  induction N with
  | zero => exact fun x2 S _ _ _ h => absurd h (Nat.not_lt_zero _)
  | succ N ih =>
    exact fun x2 S a b j0 hR => zb_append_11_4_2 p0 S0 n hn G_S0 hp0 x2 S a b j0 _ rfl (fun x2 S a b j0 h => ih x2 S a b j0 (Nat.lt_of_lt_of_le h (Nat.le_of_lt_succ hR)))
theorem zc_append_11_4 {g : mm_G} {l : Launch} (p0 : Int) (S0 : zz_S) (n : Nat) (hn : zz_end ≤ n) (G_S0 : zz_G S0) (hp0 : (-2147483648) ≤ p0 ∧ p0 ≤ 2147483647) : mm_Met g l zy_append_11_4 zr_append_11_4 [.ref 1070, zi p0] (zz_M S0 n) n (zz_QV n (zp_append_11_4 p0 S0)) := by
  refine zz_enter (by decide) (Nat.le_of_ble_eq_true rfl) (zz_less (ls1 := [some (.ref 1070), some (zi p0)]) ⟨rfl, ⟨rfl, trivial⟩⟩ ?_)
  have F_S0 : zz_fr [(1070, 1)] [1071] (fun _ _ => False) S0 S0 := zz_fr.refl
  have k2 : ∀ (x2 : Int) (S : zz_S), zz_G S → zz_fr [(1070, 1)] [1071] (fun _ _ => False) S0 S → (0 ≤ x2 ∧ x2 ≤ 4) → zz_E g l zy_append_11_4 zr_append_11_4 (zz_QV n (zp_append_11_4 p0 S0)) S n 2 [some (.ref 1070), some (zi p0), some (zi x2)] [] 0 0 := fun x2 S a b j0 => (zi_append_11_4 (g := g) (l := l) p0 S0 n hn G_S0 hp0 _) x2 S a b j0 (Nat.lt_succ_self _)
  refine zz_iconst zd_11_4_0 ?_
  refine zz_istore_n [some (.ref 1070), some (zi p0), some (zi 0)] zd_11_4_1 (by decide) rfl ?_
  refine zz_less (ls1 := [some (.ref 1070), some (zi p0), some (zi 0)]) ⟨rfl, ⟨rfl, ⟨rfl, trivial⟩⟩⟩ ?_
  exact k2 0 S0 G_S0 F_S0 (by omega)
theorem zk_TF_156 : mm_Vl "TensorForge" 156 6 1 zy_append_11_4 := ⟨zyw_append_11_4, (R_Text, F_Text, 7), rfl, mm_tb_1 1232 (by decide +kernel) rfl, mm_tb_1 1233 (by decide +kernel) rfl, mm_tb_1 1234 (by decide +kernel) rfl⟩
theorem zd_1_11_46 : zz_D zy_put_1_11 46 (.aload_n 0) 1 47 := ⟨by decide +kernel, rfl⟩
theorem zd_1_11_47 : zz_D zy_put_1_11 47 (.getfield 49) 3 50 := ⟨by decide +kernel, rfl⟩
theorem zd_1_11_50 : zz_D zy_put_1_11 50 (.getfield 159) 3 53 := ⟨by decide +kernel, rfl⟩
theorem zf_TF_159 : mm_Fl "TensorForge" 159 6 1 .int false := ⟨R_Text, F_Text, 7, t_Text, rfl, i_Text, by decide, mm_tb_1 287 (by decide +kernel) rfl, rfl, t_Text_ok, n_Text, rfl, by decide +kernel⟩
theorem zd_1_11_53 : zz_D zy_put_1_11 53 (.ireturn) 1 54 := ⟨by decide +kernel, rfl⟩
-- TensorForge put (I)I
abbrev zr_put_1_11 : Room := { frames := 6, cells := 1, slots := 6, locals := 82 }
def zp_put_1_11 (p0 : Int) (S0 : zz_S) : Int → zz_S → Prop := fun r S => zz_G S ∧ zz_fr [(1070, 1)] [1071] (fun _ _ => False) S0 S ∧ ((-2147483648) ≤ r ∧ r ≤ 2147483647)
def zx_put_1_11 (p0 : Int) (S0 : zz_S) : Nat → zz_S → Prop := fun i S => zz_G S ∧ zz_fr [(1070, 1)] [1071] (fun _ _ => False) S0 S ∧ (i < 4)
theorem zc_put_1_11 {g : mm_G} {l : Launch} (p0 : Int) (S0 : zz_S) (n : Nat) (hn : zz_end ≤ n) (hfl : l.flags = flags0) (G_S0 : zz_G S0) (hp0 : (-2147483648) ≤ p0 ∧ p0 ≤ 2147483647) : mm_Met g l zy_put_1_11 zr_put_1_11 [.ref 1000, zi p0] (zz_M S0 n) n (zz_XI n (zp_put_1_11 p0 S0) (zx_put_1_11 p0 S0)) := by
  refine zz_enter (by decide) (Nat.le_of_ble_eq_true rfl) (zz_less (ls1 := [some (.ref 1000), some (zi p0)]) ⟨rfl, ⟨rfl, trivial⟩⟩ ?_)
  have F_S0 : zz_fr [(1070, 1)] [1071] (fun _ _ => False) S0 S0 := zz_fr.refl
  refine zz_iload_n (x := p0) rfl zd_1_11_0 ?_
  refine zz_callSI [zi p0] zd_1_11_1 zk_TF_145 rfl rfl ⟨Nat.le_of_ble_eq_true rfl, Nat.le_of_ble_eq_true rfl⟩ ⟨rfl, rfl⟩ (Nat.zero_le _) (Nat.zero_le _) (zc_areSigns_11_2 p0 S0 n hn G_S0 (by omega)) (fun v2 S1 hP => ?_)
  obtain ⟨rfl, o3⟩ := hP
  rcases (by omega : v2 = 0 ∨ v2 = 1) with rfl | rfl
  · refine zz_if_ne (by omega) zd_1_11_4 (fun c4 => ?_) (fun c4 => ?_)
    · exfalso; omega
    · exact zz_throw (i := 0) hfl hn zt_1_11_7 zyw_put_1_11 zxl_TF_87_149_91 (Nat.le_of_ble_eq_true rfl) (Nat.le_of_ble_eq_true rfl) ⟨Nat.le_of_ble_eq_true rfl, Nat.le_of_ble_eq_true rfl⟩ (Or.inr ⟨_, _, rfl, G_S0, F_S0, by omega⟩)
  · refine zz_if_ne (by omega) zd_1_11_4 (fun c5 => ?_) (fun c5 => ?_)
    · refine zz_aload_n (x := 1000) rfl zd_1_11_17 ?_
      refine zz_getr (kd := 0) (z := 1070) zd_1_11_18 zf_TF_49 zT_1000 rfl (zz_ltn hn rfl) (zz_G.eq G_S0 1000 2 1070 rfl rfl) (by decide) 1070 rfl ?_
      refine zz_iload_n (x := p0) rfl zd_1_11_21 ?_
      refine zz_callVI [zi p0] zd_1_11_22 zk_TF_151 zT_1070 (zz_ltn hn rfl) rfl rfl ⟨Nat.le_of_ble_eq_true rfl, Nat.le_of_ble_eq_true rfl⟩ ⟨rfl, rfl⟩ (Nat.zero_le _) (Nat.zero_le _) (zc_hasRoomFor_11_3 p0 S0 n hn G_S0 (by omega)) (fun v7 S6 hP => ?_)
      obtain ⟨rfl, o8⟩ := hP
      rcases (by omega : v7 = 0 ∨ v7 = 1) with rfl | rfl
      · refine zz_if_ne (by omega) zd_1_11_25 (fun c9 => ?_) (fun c9 => ?_)
        · exfalso; omega
        · exact zz_throw (i := 2) hfl hn zt_1_11_28 zyw_put_1_11 zxl_TF_126_154_130 (Nat.le_of_ble_eq_true rfl) (Nat.le_of_ble_eq_true rfl) ⟨Nat.le_of_ble_eq_true rfl, Nat.le_of_ble_eq_true rfl⟩ (Or.inr ⟨_, _, rfl, G_S0, F_S0, by omega⟩)
      · refine zz_if_ne (by omega) zd_1_11_25 (fun c10 => ?_) (fun c10 => ?_)
        · refine zz_aload_n (x := 1000) rfl zd_1_11_38 ?_
          refine zz_getr (kd := 0) (z := 1070) zd_1_11_39 zf_TF_49 zT_1000 rfl (zz_ltn hn rfl) (zz_G.eq G_S0 1000 2 1070 rfl rfl) (by decide) 1070 rfl ?_
          refine zz_iload_n (x := p0) rfl zd_1_11_42 ?_
          refine zz_callVV [zi p0] zd_1_11_43 zk_TF_156 zT_1070 (zz_ltn hn rfl) rfl rfl ⟨Nat.le_of_ble_eq_true rfl, Nat.le_of_ble_eq_true rfl⟩ ⟨rfl, rfl⟩ (Nat.zero_le _) (Nat.zero_le _) (zc_append_11_4 p0 S0 n hn G_S0 (by omega)) (fun S11 hP => ?_)
          obtain ⟨G_S11, fS11⟩ := hP
          have F_S11 := zz_fr.trans F_S0 fS11 rfl zz_nv
          refine zz_aload_n (x := 1000) rfl zd_1_11_46 ?_
          refine zz_getr (kd := 0) (z := 1070) zd_1_11_47 zf_TF_49 zT_1000 rfl (zz_ltn hn rfl) (zz_G.eq G_S11 1000 2 1070 rfl rfl) (by decide) 1070 rfl ?_
          have g13 := zz_G.r G_S11 1070 1 0 1500 rfl rfl
          refine zz_geti (z := S11 1070 1) zd_1_11_50 zf_TF_159 zT_1070 rfl (zz_ltn hn rfl) rfl ?_
          exact zz_iret zd_1_11_53 rfl (Nat.le_of_ble_eq_true rfl) (Nat.le_of_ble_eq_true rfl) (Or.inl ⟨_, _, rfl, G_S11, F_S11, by omega⟩)
        · exfalso; omega
    · exfalso; omega
abbrev zy_end_1_12 : mm_Y := (⟨"TensorForge", "end", "(I)V"⟩, prog_1_method_12_code, 2, none)
theorem zyw_end_1_12 : mm_Yw zy_end_1_12 1 := ⟨mm_tb_1 1242 (by decide +kernel) rfl, mm_tb_1 1 (by decide +kernel) rfl, ⟨by decide, by decide⟩, by decide +kernel⟩
theorem zd_1_12_0 : zz_D zy_end_1_12 0 (.iload_n 1) 1 1 := ⟨by decide +kernel, rfl⟩
theorem zd_1_12_1 : zz_B zy_end_1_12 1 (Instr.ifCond .lt) 15 4 := ⟨14, by decide +kernel, rfl, rfl⟩
theorem zt_1_12_15 : zz_Thr zy_end_1_12 15 87 160 91 := ⟨by decide +kernel, by decide +kernel, by decide +kernel, by decide +kernel, by decide +kernel⟩
theorem zxl_TF_87_160_91 : mm_Xl "TensorForge" 87 160 91 0 := ⟨mm_tb_1 1048 (by decide +kernel) rfl, mm_tb_1 1049 (by decide +kernel) rfl, mm_tb_1 16 (by decide +kernel) rfl, ⟨40, by decide +kernel⟩, zxa_TF_91⟩
theorem zd_1_12_4 : zz_D zy_end_1_12 4 (.iload_n 1) 1 5 := ⟨by decide +kernel, rfl⟩
theorem zd_1_12_5 : zz_D zy_end_1_12 5 (.aload_n 0) 1 6 := ⟨by decide +kernel, rfl⟩
theorem zd_1_12_6 : zz_D zy_end_1_12 6 (.getfield 49) 3 9 := ⟨by decide +kernel, rfl⟩
theorem zd_1_12_9 : zz_D zy_end_1_12 9 (.getfield 159) 3 12 := ⟨by decide +kernel, rfl⟩
theorem zd_1_12_12 : zz_B zy_end_1_12 12 (Instr.if_icmp .le) 25 15 := ⟨13, by decide +kernel, rfl, rfl⟩
theorem zd_1_12_25 : zz_D zy_end_1_12 25 (.aload_n 0) 1 26 := ⟨by decide +kernel, rfl⟩
theorem zd_1_12_26 : zz_D zy_end_1_12 26 (.getfield 49) 3 29 := ⟨by decide +kernel, rfl⟩
theorem zd_1_12_29 : zz_D zy_end_1_12 29 (.iload_n 1) 1 30 := ⟨by decide +kernel, rfl⟩
theorem zd_1_12_30 : zz_D zy_end_1_12 30 (.putfield 159) 3 33 := ⟨by decide +kernel, rfl⟩
theorem zd_1_12_33 : zz_D zy_end_1_12 33 (.return_) 1 34 := ⟨by decide +kernel, rfl⟩
-- TensorForge end (I)V
abbrev zr_end_1_12 : Room := { frames := 6, cells := 1, slots := 6, locals := 82 }
def zp_end_1_12 (p0 : Int) (S0 : zz_S) : zz_S → Prop := fun S => zz_G S ∧ zz_fr [(1070, 1)] [] (fun _ _ => False) S0 S
def zx_end_1_12 (p0 : Int) (S0 : zz_S) : Nat → zz_S → Prop := fun i S => zz_G S ∧ zz_fr [(1070, 1)] [] (fun _ _ => False) S0 S ∧ (i < 4)
theorem zc_end_1_12 {g : mm_G} {l : Launch} (p0 : Int) (S0 : zz_S) (n : Nat) (hn : zz_end ≤ n) (hfl : l.flags = flags0) (G_S0 : zz_G S0) (hp0 : (-2147483648) ≤ p0 ∧ p0 ≤ 2147483647) : mm_Met g l zy_end_1_12 zr_end_1_12 [.ref 1000, zi p0] (zz_M S0 n) n (zz_XV n (zp_end_1_12 p0 S0) (zx_end_1_12 p0 S0)) := by
  refine zz_enter (by decide) (Nat.le_of_ble_eq_true rfl) (zz_less (ls1 := [some (.ref 1000), some (zi p0)]) ⟨rfl, ⟨rfl, trivial⟩⟩ ?_)
  have F_S0 : zz_fr [(1070, 1)] [] (fun _ _ => False) S0 S0 := zz_fr.refl
  refine zz_iload_n (x := p0) rfl zd_1_12_0 ?_
  refine zz_if_lt (by omega) zd_1_12_1 (fun c1 => ?_) (fun c1 => ?_)
  · exact zz_throw (i := 0) hfl hn zt_1_12_15 zyw_end_1_12 zxl_TF_87_160_91 (Nat.le_of_ble_eq_true rfl) (Nat.le_of_ble_eq_true rfl) ⟨Nat.le_of_ble_eq_true rfl, Nat.le_of_ble_eq_true rfl⟩ (Or.inr ⟨_, _, rfl, G_S0, F_S0, by omega⟩)
  · refine zz_iload_n (x := p0) rfl zd_1_12_4 ?_
    refine zz_aload_n (x := 1000) rfl zd_1_12_5 ?_
    refine zz_getr (kd := 0) (z := 1070) zd_1_12_6 zf_TF_49 zT_1000 rfl (zz_ltn hn rfl) (zz_G.eq G_S0 1000 2 1070 rfl rfl) (by decide) 1070 rfl ?_
    have g2 := zz_G.r G_S0 1070 1 0 1500 rfl rfl
    refine zz_geti (z := S0 1070 1) zd_1_12_9 zf_TF_159 zT_1070 rfl (zz_ltn hn rfl) rfl ?_
    refine zz_icmp_le (by omega) (by omega) zd_1_12_12 (fun c3 => ?_) (fun c3 => ?_)
    · refine zz_aload_n (x := 1000) rfl zd_1_12_25 ?_
      refine zz_getr (kd := 0) (z := 1070) zd_1_12_26 zf_TF_49 zT_1000 rfl (zz_ltn hn rfl) (zz_G.eq G_S0 1000 2 1070 rfl rfl) (by decide) 1070 rfl ?_
      refine zz_iload_n (x := p0) rfl zd_1_12_29 ?_
      refine zz_puti zd_1_12_30 zf_TF_159 zT_1070 rfl (zz_ltn hn rfl) (fun S4 qS4 => ?_)
      have G_S4 := zz_G.put G_S0 qS4 0 1500 rfl (by omega)
      have F_S4 := zz_fr.puts F_S0 qS4 rfl
      exact zz_vret zd_1_12_33 rfl (Nat.le_of_ble_eq_true rfl) (Nat.le_of_ble_eq_true rfl) (Or.inl ⟨_, rfl, G_S4, F_S4⟩)
    · exact zz_throw (i := 0) hfl hn zt_1_12_15 zyw_end_1_12 zxl_TF_87_160_91 (Nat.le_of_ble_eq_true rfl) (Nat.le_of_ble_eq_true rfl) ⟨Nat.le_of_ble_eq_true rfl, Nat.le_of_ble_eq_true rfl⟩ (Or.inr ⟨_, _, rfl, G_S0, F_S0, by omega⟩)
abbrev zy_assemble_1_13 : mm_Y := (⟨"TensorForge", "assemble", "()I"⟩, prog_1_method_13_code, 2, (some .int))
theorem zyw_assemble_1_13 : mm_Yw zy_assemble_1_13 0 := ⟨mm_tb_1 559 (by decide +kernel) rfl, mm_tb_1 1 (by decide +kernel) rfl, ⟨by decide, by decide⟩, by decide +kernel⟩
theorem zd_1_13_0 : zz_D zy_assemble_1_13 0 (.aload_n 0) 1 1 := ⟨by decide +kernel, rfl⟩
theorem zd_1_13_1 : zz_D zy_assemble_1_13 1 (.getfield 58) 3 4 := ⟨by decide +kernel, rfl⟩
theorem zf_TF_58 : mm_Fl "TensorForge" 58 0 3 (.object "TensorForge$Assembler") true := ⟨R_TF, F_TF, 12, t_TF, rfl, i_TF, by decide, mm_tb_1 443 (by decide +kernel) rfl, rfl, t_TF_ok, n_TF, rfl, by decide +kernel⟩
theorem zd_1_13_4 : zz_D zy_assemble_1_13 4 (.aload_n 0) 1 5 := ⟨by decide +kernel, rfl⟩
theorem zd_1_13_5 : zz_D zy_assemble_1_13 5 (.getfield 23) 3 8 := ⟨by decide +kernel, rfl⟩
theorem zf_TF_23 : mm_Fl "TensorForge" 23 0 10 (.array .long) false := ⟨R_TF, F_TF, 12, t_TF, rfl, i_TF, by decide, mm_tb_1 450 (by decide +kernel) rfl, rfl, t_TF_ok, n_TF, rfl, by decide +kernel⟩
theorem zd_1_13_8 : zz_D zy_assemble_1_13 8 (.invokevirtual 162) 3 11 := ⟨by decide +kernel, rfl⟩
abbrev zy_readInto_2_2 : mm_Y := (⟨"TensorForge$Assembler", "readInto", "([J)I"⟩, prog_2_method_2_code, 3, (some .int))
theorem zyw_readInto_2_2 : mm_Yw zy_readInto_2_2 1 := ⟨mm_tb_1 563 (by decide +kernel) rfl, mm_tb_1 8 (by decide +kernel) rfl, ⟨by decide, by decide⟩, by decide +kernel⟩
theorem zd_2_2_0 : zz_D zy_readInto_2_2 0 (.aload_n 0) 1 1 := ⟨by decide +kernel, rfl⟩
theorem zd_2_2_1 : zz_D zy_readInto_2_2 1 (.iconst 0) 1 2 := ⟨by decide +kernel, rfl⟩
theorem zd_2_2_2 : zz_D zy_readInto_2_2 2 (.putfield 15) 3 5 := ⟨by decide +kernel, rfl⟩
theorem zf_Assembler_15 : mm_Fl "TensorForge$Assembler" 15 7 1 .int false := ⟨R_Assembler, F_Assembler, 4, t_Assembler, rfl, i_Assembler, by decide, mm_tb_1 321 (by decide +kernel) rfl, rfl, t_Assembler_ok, n_Assembler, rfl, by decide +kernel⟩
theorem zd_2_2_5 : zz_D zy_readInto_2_2 5 (.aload_n 0) 1 6 := ⟨by decide +kernel, rfl⟩
theorem zd_2_2_6 : zz_D zy_readInto_2_2 6 (.getfield 9) 3 9 := ⟨by decide +kernel, rfl⟩
theorem zf_Assembler_9 : mm_Fl "TensorForge$Assembler" 9 7 0 (.object "TensorForge$Text") true := ⟨R_Assembler, F_Assembler, 4, t_Assembler, rfl, i_Assembler, by decide, mm_tb_1 320 (by decide +kernel) rfl, rfl, t_Assembler_ok, n_Assembler, rfl, by decide +kernel⟩
theorem zd_2_2_9 : zz_D zy_readInto_2_2 9 (.invokevirtual 26) 3 12 := ⟨by decide +kernel, rfl⟩
abbrev zy_rewind_11_5 : mm_Y := (⟨"TensorForge$Text", "rewind", "()V"⟩, prog_11_method_5_code, 1, none)
theorem zyw_rewind_11_5 : mm_Yw zy_rewind_11_5 0 := ⟨mm_tb_1 284 (by decide +kernel) rfl, mm_tb_1 7 (by decide +kernel) rfl, ⟨by decide, by decide⟩, by decide +kernel⟩
theorem zd_11_5_0 : zz_D zy_rewind_11_5 0 (.aload_n 0) 1 1 := ⟨by decide +kernel, rfl⟩
theorem zd_11_5_1 : zz_D zy_rewind_11_5 1 (.iconst (-1)) 1 2 := ⟨by decide +kernel, rfl⟩
theorem zd_11_5_2 : zz_D zy_rewind_11_5 2 (.putfield 22) 3 5 := ⟨by decide +kernel, rfl⟩
theorem zf_Text_22 : mm_Fl "TensorForge$Text" 22 6 2 .int false := ⟨R_Text, F_Text, 7, t_Text, rfl, i_Text, by decide, mm_tb_1 288 (by decide +kernel) rfl, rfl, t_Text_ok, n_Text, rfl, by decide +kernel⟩
theorem zd_11_5_5 : zz_D zy_rewind_11_5 5 (.aload_n 0) 1 6 := ⟨by decide +kernel, rfl⟩
theorem zd_11_5_6 : zz_D zy_rewind_11_5 6 (.iconst 0) 1 7 := ⟨by decide +kernel, rfl⟩
theorem zd_11_5_7 : zz_D zy_rewind_11_5 7 (.putfield 25) 3 10 := ⟨by decide +kernel, rfl⟩
theorem zf_Text_25 : mm_Fl "TensorForge$Text" 25 6 3 .int false := ⟨R_Text, F_Text, 7, t_Text, rfl, i_Text, by decide, mm_tb_1 289 (by decide +kernel) rfl, rfl, t_Text_ok, n_Text, rfl, by decide +kernel⟩
theorem zd_11_5_10 : zz_D zy_rewind_11_5 10 (.aload_n 0) 1 11 := ⟨by decide +kernel, rfl⟩
theorem zd_11_5_11 : zz_D zy_rewind_11_5 11 (.iconst 0) 1 12 := ⟨by decide +kernel, rfl⟩
theorem zd_11_5_12 : zz_D zy_rewind_11_5 12 (.putfield 28) 3 15 := ⟨by decide +kernel, rfl⟩
theorem zf_Text_28 : mm_Fl "TensorForge$Text" 28 6 4 .int false := ⟨R_Text, F_Text, 7, t_Text, rfl, i_Text, by decide, mm_tb_1 292 (by decide +kernel) rfl, rfl, t_Text_ok, n_Text, rfl, by decide +kernel⟩
theorem zd_11_5_15 : zz_D zy_rewind_11_5 15 (.aload_n 0) 1 16 := ⟨by decide +kernel, rfl⟩
theorem zd_11_5_16 : zz_D zy_rewind_11_5 16 (.iconst 0) 1 17 := ⟨by decide +kernel, rfl⟩
theorem zd_11_5_17 : zz_D zy_rewind_11_5 17 (.putfield 31) 3 20 := ⟨by decide +kernel, rfl⟩
theorem zf_Text_31 : mm_Fl "TensorForge$Text" 31 6 5 .int false := ⟨R_Text, F_Text, 7, t_Text, rfl, i_Text, by decide, mm_tb_1 293 (by decide +kernel) rfl, rfl, t_Text_ok, n_Text, rfl, by decide +kernel⟩
theorem zd_11_5_20 : zz_D zy_rewind_11_5 20 (.aload_n 0) 1 21 := ⟨by decide +kernel, rfl⟩
theorem zd_11_5_21 : zz_D zy_rewind_11_5 21 (.iconst 0) 1 22 := ⟨by decide +kernel, rfl⟩
theorem zd_11_5_22 : zz_D zy_rewind_11_5 22 (.putfield 34) 3 25 := ⟨by decide +kernel, rfl⟩
theorem zf_Text_34 : mm_Fl "TensorForge$Text" 34 6 6 .int false := ⟨R_Text, F_Text, 7, t_Text, rfl, i_Text, by decide, mm_tb_1 296 (by decide +kernel) rfl, rfl, t_Text_ok, n_Text, rfl, by decide +kernel⟩
theorem zd_11_5_25 : zz_D zy_rewind_11_5 25 (.return_) 1 26 := ⟨by decide +kernel, rfl⟩
-- TensorForge$Text rewind ()V
abbrev zr_rewind_11_5 : Room := { frames := 0, cells := 0, slots := 0, locals := 0 }
def zp_rewind_11_5  (S0 : zz_S) : zz_S → Prop := fun S => zz_G S ∧ zz_fr [(1070, 2), (1070, 3), (1070, 4), (1070, 5), (1070, 6)] [] (fun _ _ => False) S0 S
theorem zc_rewind_11_5 {g : mm_G} {l : Launch}  (S0 : zz_S) (n : Nat) (hn : zz_end ≤ n) (G_S0 : zz_G S0)  : mm_Met g l zy_rewind_11_5 zr_rewind_11_5 [.ref 1070] (zz_M S0 n) n (zz_QV n (zp_rewind_11_5  S0)) := by
  refine zz_enter (by decide) (Nat.le_of_ble_eq_true rfl) (zz_less (ls1 := [some (.ref 1070)]) ⟨rfl, trivial⟩ ?_)
  have F_S0 : zz_fr [(1070, 2), (1070, 3), (1070, 4), (1070, 5), (1070, 6)] [] (fun _ _ => False) S0 S0 := zz_fr.refl
  refine zz_aload_n (x := 1070) rfl zd_11_5_0 ?_
  refine zz_iconst zd_11_5_1 ?_
  refine zz_puti zd_11_5_2 zf_Text_22 zT_1070 rfl (zz_ltn hn rfl) (fun S1 qS1 => ?_)
  have G_S1 := zz_G.put G_S0 qS1 (-1) 1500 rfl (by omega)
  have F_S1 := zz_fr.puts F_S0 qS1 rfl
  refine zz_aload_n (x := 1070) rfl zd_11_5_5 ?_
  refine zz_iconst zd_11_5_6 ?_
  refine zz_puti zd_11_5_7 zf_Text_25 zT_1070 rfl (zz_ltn hn rfl) (fun S2 qS2 => ?_)
  have G_S2 := zz_G.put G_S1 qS2 0 1500 rfl (by omega)
  have F_S2 := zz_fr.puts F_S1 qS2 rfl
  refine zz_aload_n (x := 1070) rfl zd_11_5_10 ?_
  refine zz_iconst zd_11_5_11 ?_
  refine zz_puti zd_11_5_12 zf_Text_28 zT_1070 rfl (zz_ltn hn rfl) (fun S3 qS3 => ?_)
  have G_S3 := zz_G.put G_S2 qS3 (-2147483648) 2147483647 rfl (by omega)
  have F_S3 := zz_fr.puts F_S2 qS3 rfl
  refine zz_aload_n (x := 1070) rfl zd_11_5_15 ?_
  refine zz_iconst zd_11_5_16 ?_
  refine zz_puti zd_11_5_17 zf_Text_31 zT_1070 rfl (zz_ltn hn rfl) (fun S4 qS4 => ?_)
  have G_S4 := zz_G.put G_S3 qS4 0 1500 rfl (by omega)
  have F_S4 := zz_fr.puts F_S3 qS4 rfl
  refine zz_aload_n (x := 1070) rfl zd_11_5_20 ?_
  refine zz_iconst zd_11_5_21 ?_
  refine zz_puti zd_11_5_22 zf_Text_34 zT_1070 rfl (zz_ltn hn rfl) (fun S5 qS5 => ?_)
  have G_S5 := zz_G.put G_S4 qS5 (-2147483648) 2147483647 rfl (by omega)
  have F_S5 := zz_fr.puts F_S4 qS5 rfl
  exact zz_vret zd_11_5_25 rfl (Nat.zero_le _) (Nat.zero_le _) ⟨_, rfl, G_S5, F_S5⟩
theorem zk_Assembler_26 : mm_Vl "TensorForge$Assembler" 26 6 0 zy_rewind_11_5 := ⟨zyw_rewind_11_5, (R_Text, F_Text, 7), rfl, mm_tb_1 564 (by decide +kernel) rfl, mm_tb_1 282 (by decide +kernel) rfl, mm_tb_1 283 (by decide +kernel) rfl⟩
theorem zd_2_2_12 : zz_D zy_readInto_2_2 12 (.iconst 0) 1 13 := ⟨by decide +kernel, rfl⟩
theorem zd_2_2_13 : zz_D zy_readInto_2_2 13 (.istore_n 2) 1 14 := ⟨by decide +kernel, rfl⟩
theorem zd_2_2_14 : zz_D zy_readInto_2_2 14 (.iload_n 2) 1 15 := ⟨by decide +kernel, rfl⟩
theorem zd_2_2_15 : zz_D zy_readInto_2_2 15 (.sipush 1500) 3 18 := ⟨by decide +kernel, rfl⟩
theorem zd_2_2_18 : zz_B zy_readInto_2_2 18 (Instr.if_icmp .gt) 102 21 := ⟨84, by decide +kernel, rfl, rfl⟩
theorem zd_2_2_21 : zz_D zy_readInto_2_2 21 (.aload_n 0) 1 22 := ⟨by decide +kernel, rfl⟩
theorem zd_2_2_22 : zz_D zy_readInto_2_2 22 (.getfield 9) 3 25 := ⟨by decide +kernel, rfl⟩
theorem zd_2_2_25 : zz_D zy_readInto_2_2 25 (.invokevirtual 31) 3 28 := ⟨by decide +kernel, rfl⟩
abbrev zy_nextLine_11_6 : mm_Y := (⟨"TensorForge$Text", "nextLine", "()Z"⟩, prog_11_method_6_code, 1, (some .boolean))
theorem zyw_nextLine_11_6 : mm_Yw zy_nextLine_11_6 0 := ⟨mm_tb_1 568 (by decide +kernel) rfl, mm_tb_1 7 (by decide +kernel) rfl, ⟨by decide, by decide⟩, by decide +kernel⟩
theorem zd_11_6_0 : zz_D zy_nextLine_11_6 0 (.aload_n 0) 1 1 := ⟨by decide +kernel, rfl⟩
theorem zd_11_6_1 : zz_D zy_nextLine_11_6 1 (.getfield 22) 3 4 := ⟨by decide +kernel, rfl⟩
theorem zd_11_6_4 : zz_D zy_nextLine_11_6 4 (.aload_n 0) 1 5 := ⟨by decide +kernel, rfl⟩
theorem zd_11_6_5 : zz_D zy_nextLine_11_6 5 (.getfield 15) 3 8 := ⟨by decide +kernel, rfl⟩
theorem zd_11_6_8 : zz_B zy_nextLine_11_6 8 (Instr.if_icmp .lt) 13 11 := ⟨5, by decide +kernel, rfl, rfl⟩
theorem zd_11_6_13 : zz_D zy_nextLine_11_6 13 (.aload_n 0) 1 14 := ⟨by decide +kernel, rfl⟩
theorem zd_11_6_14 : zz_D zy_nextLine_11_6 14 (.aload_n 0) 1 15 := ⟨by decide +kernel, rfl⟩
theorem zd_11_6_15 : zz_D zy_nextLine_11_6 15 (.getfield 22) 3 18 := ⟨by decide +kernel, rfl⟩
theorem zd_11_6_18 : zz_D zy_nextLine_11_6 18 (.iconst 1) 1 19 := ⟨by decide +kernel, rfl⟩
theorem zd_11_6_19 : zz_D zy_nextLine_11_6 19 (.iadd) 1 20 := ⟨by decide +kernel, rfl⟩
theorem zd_11_6_20 : zz_D zy_nextLine_11_6 20 (.putfield 25) 3 23 := ⟨by decide +kernel, rfl⟩
theorem zd_11_6_23 : zz_D zy_nextLine_11_6 23 (.aload_n 0) 1 24 := ⟨by decide +kernel, rfl⟩
theorem zd_11_6_24 : zz_D zy_nextLine_11_6 24 (.aload_n 0) 1 25 := ⟨by decide +kernel, rfl⟩
theorem zd_11_6_25 : zz_D zy_nextLine_11_6 25 (.getfield 25) 3 28 := ⟨by decide +kernel, rfl⟩
theorem zd_11_6_28 : zz_D zy_nextLine_11_6 28 (.putfield 22) 3 31 := ⟨by decide +kernel, rfl⟩
theorem zd_11_6_11 : zz_D zy_nextLine_11_6 11 (.iconst 0) 1 12 := ⟨by decide +kernel, rfl⟩
theorem zd_11_6_12 : zz_D zy_nextLine_11_6 12 (.ireturn) 1 13 := ⟨by decide +kernel, rfl⟩
theorem zd_11_6_31 : zz_D zy_nextLine_11_6 31 (.aload_n 0) 1 32 := ⟨by decide +kernel, rfl⟩
theorem zd_11_6_32 : zz_D zy_nextLine_11_6 32 (.getfield 22) 3 35 := ⟨by decide +kernel, rfl⟩
theorem zd_11_6_35 : zz_D zy_nextLine_11_6 35 (.aload_n 0) 1 36 := ⟨by decide +kernel, rfl⟩
theorem zd_11_6_36 : zz_D zy_nextLine_11_6 36 (.getfield 15) 3 39 := ⟨by decide +kernel, rfl⟩
theorem zd_11_6_39 : zz_B zy_nextLine_11_6 39 (Instr.if_icmp .ge) 69 42 := ⟨30, by decide +kernel, rfl, rfl⟩
theorem zd_11_6_69 : zz_D zy_nextLine_11_6 69 (.iconst 1) 1 70 := ⟨by decide +kernel, rfl⟩
theorem zd_11_6_70 : zz_D zy_nextLine_11_6 70 (.ireturn) 1 71 := ⟨by decide +kernel, rfl⟩
theorem zd_11_6_42 : zz_D zy_nextLine_11_6 42 (.aload_n 0) 1 43 := ⟨by decide +kernel, rfl⟩
theorem zd_11_6_43 : zz_D zy_nextLine_11_6 43 (.getfield 9) 3 46 := ⟨by decide +kernel, rfl⟩
theorem zd_11_6_46 : zz_D zy_nextLine_11_6 46 (.aload_n 0) 1 47 := ⟨by decide +kernel, rfl⟩
theorem zd_11_6_47 : zz_D zy_nextLine_11_6 47 (.getfield 22) 3 50 := ⟨by decide +kernel, rfl⟩
theorem zd_11_6_50 : zz_D zy_nextLine_11_6 50 (.caload) 1 51 := ⟨by decide +kernel, rfl⟩
theorem zd_11_6_51 : zz_D zy_nextLine_11_6 51 (.bipush 10) 2 53 := ⟨by decide +kernel, rfl⟩
theorem zd_11_6_53 : zz_B zy_nextLine_11_6 53 (Instr.if_icmp .eq) 69 56 := ⟨16, by decide +kernel, rfl, rfl⟩
theorem zd_11_6_56 : zz_D zy_nextLine_11_6 56 (.aload_n 0) 1 57 := ⟨by decide +kernel, rfl⟩
theorem zd_11_6_57 : zz_D zy_nextLine_11_6 57 (.dup) 1 58 := ⟨by decide +kernel, rfl⟩
theorem zd_11_6_58 : zz_D zy_nextLine_11_6 58 (.getfield 22) 3 61 := ⟨by decide +kernel, rfl⟩
theorem zd_11_6_61 : zz_D zy_nextLine_11_6 61 (.iconst 1) 1 62 := ⟨by decide +kernel, rfl⟩
theorem zd_11_6_62 : zz_D zy_nextLine_11_6 62 (.iadd) 1 63 := ⟨by decide +kernel, rfl⟩
theorem zd_11_6_63 : zz_D zy_nextLine_11_6 63 (.putfield 22) 3 66 := ⟨by decide +kernel, rfl⟩
theorem zd_11_6_66 : zz_B zy_nextLine_11_6 66 Instr.goto 31 69 := ⟨(-35), by decide +kernel, rfl, rfl⟩
-- TensorForge$Text nextLine ()Z
abbrev zr_nextLine_11_6 : Room := { frames := 0, cells := 0, slots := 0, locals := 0 }
def zp_nextLine_11_6  (S0 : zz_S) : Int → zz_S → Prop := fun r S => zz_G S ∧ zz_fr [(1070, 2), (1070, 3)] [] (fun _ _ => False) S0 S ∧ (0 ≤ r ∧ r ≤ 1)
theorem zb_nextLine_11_6_31 {g : mm_G} {l : Launch}  (S0 : zz_S) (n : Nat) (hn : zz_end ≤ n) (G_S0 : zz_G S0)   (S : zz_S) (G_S : zz_G S) (F_S : zz_fr [(1070, 2), (1070, 3)] [] (fun _ _ => False) S0 S) (i31_0 : S0 1070 2 < S0 1070 1) (i31_1 : 0 ≤ S 1070 2) (R : Nat) (hR : (S0 1070 1 - S 1070 2).toNat = R) (k31 : ∀  (S : zz_S), zz_G S → zz_fr [(1070, 2), (1070, 3)] [] (fun _ _ => False) S0 S → (S0 1070 2 < S0 1070 1) → (0 ≤ S 1070 2) → (S0 1070 1 - S 1070 2).toNat < R → zz_E g l zy_nextLine_11_6 zr_nextLine_11_6 (zz_QI n (zp_nextLine_11_6  S0)) S n 31 [some (.ref 1070)] [] 0 0) : zz_E g l zy_nextLine_11_6 zr_nextLine_11_6 (zz_QI n (zp_nextLine_11_6  S0)) S n 31 [some (.ref 1070)] [] 0 0 := by
  refine zz_aload_n (x := 1070) rfl zd_11_6_31 ?_
  have g7 := zz_G.r G_S 1070 2 (-1) 1500 rfl rfl
  refine zz_geti (z := S 1070 2) zd_11_6_32 zf_Text_22 zT_1070 rfl (zz_ltn hn rfl) rfl ?_
  refine zz_aload_n (x := 1070) rfl zd_11_6_35 ?_
  have g8 := zz_G.r G_S0 1070 1 0 1500 rfl rfl
  refine zz_geti (z := S0 1070 1) zd_11_6_36 zf_Text_15 zT_1070 rfl (zz_ltn hn rfl) (zz_rc F_S rfl rfl (fun h => h) rfl) ?_
  refine zz_icmp_ge (by omega) (by omega) zd_11_6_39 (fun c9 => ?_) (fun c9 => ?_)
  · refine zz_iconst zd_11_6_69 ?_
    exact zz_zret zd_11_6_70 rfl (by omega) (Nat.zero_le _) (Nat.zero_le _) ⟨_, _, rfl, G_S, F_S, by omega⟩
  · refine zz_aload_n (x := 1070) rfl zd_11_6_42 ?_
    refine zz_getr (kd := 0) (z := 1071) zd_11_6_43 zf_Text_9 zT_1070 rfl (zz_ltn hn rfl) (zz_G.eq G_S 1070 0 1071 rfl rfl) (by decide) 1071 rfl ?_
    refine zz_aload_n (x := 1070) rfl zd_11_6_46 ?_
    refine zz_geti (z := S 1070 2) zd_11_6_47 zf_Text_22 zT_1070 rfl (zz_ltn hn rfl) rfl ?_
    have g10 := zz_G.r G_S0 1071 ((S 1070 2).toNat) 0 65535 rfl rfl
    refine zz_cald (z := S0 1071 ((S 1070 2).toNat)) zd_11_6_50 zT_1071 rfl (zz_ltn hn rfl) (by decide) (by omega) (zz_rc F_S (zz_nc1 rfl) rfl (fun h => h) rfl) ?_
    refine zz_bipush (by decide) zd_11_6_51 ?_
    refine zz_icmp_eq (by omega) (by omega) zd_11_6_53 (fun c11 => ?_) (fun c11 => ?_)
    · refine zz_iconst zd_11_6_69 ?_
      exact zz_zret zd_11_6_70 rfl (by omega) (Nat.zero_le _) (Nat.zero_le _) ⟨_, _, rfl, G_S, F_S, by omega⟩
    · refine zz_aload_n (x := 1070) rfl zd_11_6_56 ?_
      refine zz_dup rfl zd_11_6_57 ?_
      refine zz_geti (z := S 1070 2) zd_11_6_58 zf_Text_22 zT_1070 rfl (zz_ltn hn rfl) rfl ?_
      refine zz_iconst zd_11_6_61 ?_
      refine zz_iadd zd_11_6_62 ?_
      refine zz_puti zd_11_6_63 zf_Text_22 zT_1070 rfl (zz_ltn hn rfl) (fun S12 qS12 => ?_)
      have G_S12 := zz_G.put G_S qS12 (-1) 1500 rfl (by omega)
      have F_S12 := zz_fr.puts F_S qS12 rfl
      refine zz_goto zd_11_6_66 ?_
      have e13 : S12 1070 2 = (S 1070 2) + 1 := (zz_rs qS12)
      exact k31 S12 G_S12 F_S12 (by omega) (by omega) (by omega)
theorem zi_nextLine_11_6 {g : mm_G} {l : Launch}  (S0 : zz_S) (n : Nat) (hn : zz_end ≤ n) (G_S0 : zz_G S0)  : ∀ N : Nat, (∀  (S : zz_S), zz_G S → zz_fr [(1070, 2), (1070, 3)] [] (fun _ _ => False) S0 S → (S0 1070 2 < S0 1070 1) → (0 ≤ S 1070 2) → (S0 1070 1 - S 1070 2).toNat < N → zz_E g l zy_nextLine_11_6 zr_nextLine_11_6 (zz_QI n (zp_nextLine_11_6  S0)) S n 31 [some (.ref 1070)] [] 0 0) := by
  intro N
  induction N with
  | zero => exact fun  S _ _ _ _ h => absurd h (Nat.not_lt_zero _)
  | succ N ih =>
    exact fun  S a b j0 j1 hR => zb_nextLine_11_6_31  S0 n hn G_S0   S a b j0 j1 _ rfl (fun  S a b j0 j1 h => ih  S a b j0 j1 (Nat.lt_of_lt_of_le h (Nat.le_of_lt_succ hR)))
theorem zc_nextLine_11_6 {g : mm_G} {l : Launch}  (S0 : zz_S) (n : Nat) (hn : zz_end ≤ n) (G_S0 : zz_G S0)  : mm_Met g l zy_nextLine_11_6 zr_nextLine_11_6 [.ref 1070] (zz_M S0 n) n (zz_QI n (zp_nextLine_11_6  S0)) := by
  refine zz_enter (by decide) (Nat.le_of_ble_eq_true rfl) (zz_less (ls1 := [some (.ref 1070)]) ⟨rfl, trivial⟩ ?_)
  have F_S0 : zz_fr [(1070, 2), (1070, 3)] [] (fun _ _ => False) S0 S0 := zz_fr.refl
  have k31 : ∀  (S : zz_S), zz_G S → zz_fr [(1070, 2), (1070, 3)] [] (fun _ _ => False) S0 S → (S0 1070 2 < S0 1070 1) → (0 ≤ S 1070 2) → zz_E g l zy_nextLine_11_6 zr_nextLine_11_6 (zz_QI n (zp_nextLine_11_6  S0)) S n 31 [some (.ref 1070)] [] 0 0 := fun  S a b j0 j1 => (zi_nextLine_11_6 (g := g) (l := l)  S0 n hn G_S0  _)  S a b j0 j1 (Nat.lt_succ_self _)
  refine zz_aload_n (x := 1070) rfl zd_11_6_0 ?_
  have g1 := zz_G.r G_S0 1070 2 (-1) 1500 rfl rfl
  refine zz_geti (z := S0 1070 2) zd_11_6_1 zf_Text_22 zT_1070 rfl (zz_ltn hn rfl) rfl ?_
  refine zz_aload_n (x := 1070) rfl zd_11_6_4 ?_
  have g2 := zz_G.r G_S0 1070 1 0 1500 rfl rfl
  refine zz_geti (z := S0 1070 1) zd_11_6_5 zf_Text_15 zT_1070 rfl (zz_ltn hn rfl) rfl ?_
  refine zz_icmp_lt (by omega) (by omega) zd_11_6_8 (fun c3 => ?_) (fun c3 => ?_)
  · refine zz_aload_n (x := 1070) rfl zd_11_6_13 ?_
    refine zz_aload_n (x := 1070) rfl zd_11_6_14 ?_
    refine zz_geti (z := S0 1070 2) zd_11_6_15 zf_Text_22 zT_1070 rfl (zz_ltn hn rfl) rfl ?_
    refine zz_iconst zd_11_6_18 ?_
    refine zz_iadd zd_11_6_19 ?_
    refine zz_puti zd_11_6_20 zf_Text_25 zT_1070 rfl (zz_ltn hn rfl) (fun S4 qS4 => ?_)
    have G_S4 := zz_G.put G_S0 qS4 0 1500 rfl (by omega)
    have F_S4 := zz_fr.puts F_S0 qS4 rfl
    refine zz_aload_n (x := 1070) rfl zd_11_6_23 ?_
    refine zz_aload_n (x := 1070) rfl zd_11_6_24 ?_
    refine zz_geti (z := (S0 1070 2) + 1) zd_11_6_25 zf_Text_25 zT_1070 rfl (zz_ltn hn rfl) (zz_rs qS4) ?_
    refine zz_puti zd_11_6_28 zf_Text_22 zT_1070 rfl (zz_ltn hn rfl) (fun S5 qS5 => ?_)
    have G_S5 := zz_G.put G_S4 qS5 (-1) 1500 rfl (by omega)
    have F_S5 := zz_fr.puts F_S4 qS5 rfl
    have e6 : S5 1070 2 = (S0 1070 2) + 1 := (zz_rs qS5)
    exact k31 S5 G_S5 F_S5 (by omega) (by omega)
  · refine zz_iconst zd_11_6_11 ?_
    exact zz_zret zd_11_6_12 rfl (by omega) (Nat.zero_le _) (Nat.zero_le _) ⟨_, _, rfl, G_S0, F_S0, by omega⟩
theorem zk_Assembler_31 : mm_Vl "TensorForge$Assembler" 31 6 0 zy_nextLine_11_6 := ⟨zyw_nextLine_11_6, (R_Text, F_Text, 7), rfl, mm_tb_1 565 (by decide +kernel) rfl, mm_tb_1 566 (by decide +kernel) rfl, mm_tb_1 567 (by decide +kernel) rfl⟩
theorem zd_2_2_28 : zz_B zy_readInto_2_2 28 (Instr.ifCond .eq) 102 31 := ⟨74, by decide +kernel, rfl, rfl⟩
theorem zd_2_2_102 : zz_D zy_readInto_2_2 102 (.iconst (-1)) 1 103 := ⟨by decide +kernel, rfl⟩
theorem zd_2_2_103 : zz_D zy_readInto_2_2 103 (.ireturn) 1 104 := ⟨by decide +kernel, rfl⟩
theorem zd_2_2_31 : zz_D zy_readInto_2_2 31 (.aload_n 0) 1 32 := ⟨by decide +kernel, rfl⟩
theorem zd_2_2_32 : zz_D zy_readInto_2_2 32 (.getfield 9) 3 35 := ⟨by decide +kernel, rfl⟩
theorem zd_2_2_35 : zz_D zy_readInto_2_2 35 (.invokevirtual 35) 3 38 := ⟨by decide +kernel, rfl⟩
abbrev zy_nextToken_11_7 : mm_Y := (⟨"TensorForge$Text", "nextToken", "()V"⟩, prog_11_method_7_code, 1, none)
theorem zyw_nextToken_11_7 : mm_Yw zy_nextToken_11_7 0 := ⟨mm_tb_1 572 (by decide +kernel) rfl, mm_tb_1 7 (by decide +kernel) rfl, ⟨by decide, by decide⟩, by decide +kernel⟩
theorem zd_11_7_0 : zz_D zy_nextToken_11_7 0 (.aload_n 0) 1 1 := ⟨by decide +kernel, rfl⟩
theorem zd_11_7_1 : zz_D zy_nextToken_11_7 1 (.getfield 25) 3 4 := ⟨by decide +kernel, rfl⟩
theorem zd_11_7_4 : zz_D zy_nextToken_11_7 4 (.aload_n 0) 1 5 := ⟨by decide +kernel, rfl⟩
theorem zd_11_7_5 : zz_D zy_nextToken_11_7 5 (.getfield 22) 3 8 := ⟨by decide +kernel, rfl⟩
theorem zd_11_7_8 : zz_B zy_nextToken_11_7 8 (Instr.if_icmp .ge) 38 11 := ⟨30, by decide +kernel, rfl, rfl⟩
theorem zd_11_7_38 : zz_D zy_nextToken_11_7 38 (.aload_n 0) 1 39 := ⟨by decide +kernel, rfl⟩
theorem zd_11_7_39 : zz_D zy_nextToken_11_7 39 (.aload_n 0) 1 40 := ⟨by decide +kernel, rfl⟩
theorem zd_11_7_40 : zz_D zy_nextToken_11_7 40 (.getfield 25) 3 43 := ⟨by decide +kernel, rfl⟩
theorem zd_11_7_43 : zz_D zy_nextToken_11_7 43 (.putfield 31) 3 46 := ⟨by decide +kernel, rfl⟩
theorem zd_11_7_46 : zz_D zy_nextToken_11_7 46 (.aload_n 0) 1 47 := ⟨by decide +kernel, rfl⟩
theorem zd_11_7_47 : zz_D zy_nextToken_11_7 47 (.iconst 0) 1 48 := ⟨by decide +kernel, rfl⟩
theorem zd_11_7_48 : zz_D zy_nextToken_11_7 48 (.putfield 34) 3 51 := ⟨by decide +kernel, rfl⟩
theorem zd_11_7_51 : zz_D zy_nextToken_11_7 51 (.aload_n 0) 1 52 := ⟨by decide +kernel, rfl⟩
theorem zd_11_7_52 : zz_D zy_nextToken_11_7 52 (.getfield 25) 3 55 := ⟨by decide +kernel, rfl⟩
theorem zd_11_7_55 : zz_D zy_nextToken_11_7 55 (.aload_n 0) 1 56 := ⟨by decide +kernel, rfl⟩
theorem zd_11_7_56 : zz_D zy_nextToken_11_7 56 (.getfield 22) 3 59 := ⟨by decide +kernel, rfl⟩
theorem zd_11_7_59 : zz_B zy_nextToken_11_7 59 (Instr.if_icmp .ge) 76 62 := ⟨17, by decide +kernel, rfl, rfl⟩
theorem zd_11_7_76 : zz_D zy_nextToken_11_7 76 (.aload_n 0) 1 77 := ⟨by decide +kernel, rfl⟩
theorem zd_11_7_77 : zz_D zy_nextToken_11_7 77 (.iconst 0) 1 78 := ⟨by decide +kernel, rfl⟩
theorem zd_11_7_78 : zz_D zy_nextToken_11_7 78 (.putfield 28) 3 81 := ⟨by decide +kernel, rfl⟩
theorem zd_11_7_81 : zz_B zy_nextToken_11_7 81 Instr.goto 281 84 := ⟨200, by decide +kernel, rfl, rfl⟩
theorem zd_11_7_281 : zz_D zy_nextToken_11_7 281 (.return_) 1 282 := ⟨by decide +kernel, rfl⟩
theorem zd_11_7_62 : zz_D zy_nextToken_11_7 62 (.aload_n 0) 1 63 := ⟨by decide +kernel, rfl⟩
theorem zd_11_7_63 : zz_D zy_nextToken_11_7 63 (.getfield 9) 3 66 := ⟨by decide +kernel, rfl⟩
theorem zd_11_7_66 : zz_D zy_nextToken_11_7 66 (.aload_n 0) 1 67 := ⟨by decide +kernel, rfl⟩
theorem zd_11_7_67 : zz_D zy_nextToken_11_7 67 (.getfield 25) 3 70 := ⟨by decide +kernel, rfl⟩
theorem zd_11_7_70 : zz_D zy_nextToken_11_7 70 (.caload) 1 71 := ⟨by decide +kernel, rfl⟩
theorem zd_11_7_71 : zz_D zy_nextToken_11_7 71 (.bipush 35) 2 73 := ⟨by decide +kernel, rfl⟩
theorem zd_11_7_73 : zz_B zy_nextToken_11_7 73 (Instr.if_icmp .ne) 84 76 := ⟨11, by decide +kernel, rfl, rfl⟩
theorem zd_11_7_84 : zz_D zy_nextToken_11_7 84 (.aload_n 0) 1 85 := ⟨by decide +kernel, rfl⟩
theorem zd_11_7_85 : zz_D zy_nextToken_11_7 85 (.getfield 9) 3 88 := ⟨by decide +kernel, rfl⟩
theorem zd_11_7_88 : zz_D zy_nextToken_11_7 88 (.aload_n 0) 1 89 := ⟨by decide +kernel, rfl⟩
theorem zd_11_7_89 : zz_D zy_nextToken_11_7 89 (.getfield 25) 3 92 := ⟨by decide +kernel, rfl⟩
theorem zd_11_7_92 : zz_D zy_nextToken_11_7 92 (.caload) 1 93 := ⟨by decide +kernel, rfl⟩
theorem zd_11_7_93 : zz_D zy_nextToken_11_7 93 (.bipush 97) 2 95 := ⟨by decide +kernel, rfl⟩
theorem zd_11_7_95 : zz_B zy_nextToken_11_7 95 (Instr.if_icmp .lt) 172 98 := ⟨77, by decide +kernel, rfl, rfl⟩
theorem zd_11_7_98 : zz_D zy_nextToken_11_7 98 (.aload_n 0) 1 99 := ⟨by decide +kernel, rfl⟩
theorem zd_11_7_99 : zz_D zy_nextToken_11_7 99 (.getfield 9) 3 102 := ⟨by decide +kernel, rfl⟩
theorem zd_11_7_102 : zz_D zy_nextToken_11_7 102 (.aload_n 0) 1 103 := ⟨by decide +kernel, rfl⟩
theorem zd_11_7_103 : zz_D zy_nextToken_11_7 103 (.getfield 25) 3 106 := ⟨by decide +kernel, rfl⟩
theorem zd_11_7_106 : zz_D zy_nextToken_11_7 106 (.caload) 1 107 := ⟨by decide +kernel, rfl⟩
theorem zd_11_7_107 : zz_D zy_nextToken_11_7 107 (.bipush 122) 2 109 := ⟨by decide +kernel, rfl⟩
theorem zd_11_7_109 : zz_B zy_nextToken_11_7 109 (Instr.if_icmp .gt) 172 112 := ⟨63, by decide +kernel, rfl, rfl⟩
theorem zd_11_7_11 : zz_D zy_nextToken_11_7 11 (.aload_n 0) 1 12 := ⟨by decide +kernel, rfl⟩
theorem zd_11_7_12 : zz_D zy_nextToken_11_7 12 (.getfield 9) 3 15 := ⟨by decide +kernel, rfl⟩
theorem zd_11_7_15 : zz_D zy_nextToken_11_7 15 (.aload_n 0) 1 16 := ⟨by decide +kernel, rfl⟩
theorem zd_11_7_16 : zz_D zy_nextToken_11_7 16 (.getfield 25) 3 19 := ⟨by decide +kernel, rfl⟩
theorem zd_11_7_19 : zz_D zy_nextToken_11_7 19 (.caload) 1 20 := ⟨by decide +kernel, rfl⟩
theorem zd_11_7_20 : zz_D zy_nextToken_11_7 20 (.bipush 32) 2 22 := ⟨by decide +kernel, rfl⟩
theorem zd_11_7_22 : zz_B zy_nextToken_11_7 22 (Instr.if_icmp .ne) 38 25 := ⟨16, by decide +kernel, rfl, rfl⟩
theorem zd_11_7_25 : zz_D zy_nextToken_11_7 25 (.aload_n 0) 1 26 := ⟨by decide +kernel, rfl⟩
theorem zd_11_7_26 : zz_D zy_nextToken_11_7 26 (.dup) 1 27 := ⟨by decide +kernel, rfl⟩
theorem zd_11_7_27 : zz_D zy_nextToken_11_7 27 (.getfield 25) 3 30 := ⟨by decide +kernel, rfl⟩
theorem zd_11_7_30 : zz_D zy_nextToken_11_7 30 (.iconst 1) 1 31 := ⟨by decide +kernel, rfl⟩
theorem zd_11_7_31 : zz_D zy_nextToken_11_7 31 (.iadd) 1 32 := ⟨by decide +kernel, rfl⟩
theorem zd_11_7_32 : zz_D zy_nextToken_11_7 32 (.putfield 25) 3 35 := ⟨by decide +kernel, rfl⟩
theorem zd_11_7_35 : zz_B zy_nextToken_11_7 35 Instr.goto 0 38 := ⟨(-35), by decide +kernel, rfl, rfl⟩
theorem zd_11_7_172 : zz_D zy_nextToken_11_7 172 (.aload_n 0) 1 173 := ⟨by decide +kernel, rfl⟩
theorem zd_11_7_173 : zz_D zy_nextToken_11_7 173 (.getfield 25) 3 176 := ⟨by decide +kernel, rfl⟩
theorem zd_11_7_176 : zz_D zy_nextToken_11_7 176 (.aload_n 0) 1 177 := ⟨by decide +kernel, rfl⟩
theorem zd_11_7_177 : zz_D zy_nextToken_11_7 177 (.getfield 22) 3 180 := ⟨by decide +kernel, rfl⟩
theorem zd_11_7_180 : zz_B zy_nextToken_11_7 180 (Instr.if_icmp .ge) 248 183 := ⟨68, by decide +kernel, rfl, rfl⟩
theorem zd_11_7_248 : zz_D zy_nextToken_11_7 248 (.aload_n 0) 1 249 := ⟨by decide +kernel, rfl⟩
theorem zd_11_7_249 : zz_D zy_nextToken_11_7 249 (.aload_n 0) 1 250 := ⟨by decide +kernel, rfl⟩
theorem zd_11_7_250 : zz_D zy_nextToken_11_7 250 (.getfield 25) 3 253 := ⟨by decide +kernel, rfl⟩
theorem zd_11_7_253 : zz_D zy_nextToken_11_7 253 (.aload_n 0) 1 254 := ⟨by decide +kernel, rfl⟩
theorem zd_11_7_254 : zz_D zy_nextToken_11_7 254 (.getfield 31) 3 257 := ⟨by decide +kernel, rfl⟩
theorem zd_11_7_257 : zz_B zy_nextToken_11_7 257 (Instr.if_icmp .le) 277 260 := ⟨20, by decide +kernel, rfl, rfl⟩
theorem zd_11_7_277 : zz_D zy_nextToken_11_7 277 (.iconst 3) 1 278 := ⟨by decide +kernel, rfl⟩
theorem zd_11_7_278 : zz_D zy_nextToken_11_7 278 (.putfield 28) 3 281 := ⟨by decide +kernel, rfl⟩
theorem zd_11_7_260 : zz_D zy_nextToken_11_7 260 (.aload_n 0) 1 261 := ⟨by decide +kernel, rfl⟩
theorem zd_11_7_261 : zz_D zy_nextToken_11_7 261 (.getfield 25) 3 264 := ⟨by decide +kernel, rfl⟩
theorem zd_11_7_264 : zz_D zy_nextToken_11_7 264 (.aload_n 0) 1 265 := ⟨by decide +kernel, rfl⟩
theorem zd_11_7_265 : zz_D zy_nextToken_11_7 265 (.getfield 31) 3 268 := ⟨by decide +kernel, rfl⟩
theorem zd_11_7_268 : zz_D zy_nextToken_11_7 268 (.isub) 1 269 := ⟨by decide +kernel, rfl⟩
theorem zd_11_7_269 : zz_D zy_nextToken_11_7 269 (.iconst 4) 1 270 := ⟨by decide +kernel, rfl⟩
theorem zd_11_7_270 : zz_B zy_nextToken_11_7 270 (Instr.if_icmp .gt) 277 273 := ⟨7, by decide +kernel, rfl, rfl⟩
theorem zd_11_7_273 : zz_D zy_nextToken_11_7 273 (.iconst 2) 1 274 := ⟨by decide +kernel, rfl⟩
theorem zd_11_7_274 : zz_B zy_nextToken_11_7 274 Instr.goto 278 277 := ⟨4, by decide +kernel, rfl, rfl⟩
theorem zd_11_7_183 : zz_D zy_nextToken_11_7 183 (.aload_n 0) 1 184 := ⟨by decide +kernel, rfl⟩
theorem zd_11_7_184 : zz_D zy_nextToken_11_7 184 (.getfield 9) 3 187 := ⟨by decide +kernel, rfl⟩
theorem zd_11_7_187 : zz_D zy_nextToken_11_7 187 (.aload_n 0) 1 188 := ⟨by decide +kernel, rfl⟩
theorem zd_11_7_188 : zz_D zy_nextToken_11_7 188 (.getfield 25) 3 191 := ⟨by decide +kernel, rfl⟩
theorem zd_11_7_191 : zz_D zy_nextToken_11_7 191 (.caload) 1 192 := ⟨by decide +kernel, rfl⟩
theorem zd_11_7_192 : zz_D zy_nextToken_11_7 192 (.bipush 48) 2 194 := ⟨by decide +kernel, rfl⟩
theorem zd_11_7_194 : zz_B zy_nextToken_11_7 194 (Instr.if_icmp .lt) 248 197 := ⟨54, by decide +kernel, rfl, rfl⟩
theorem zd_11_7_197 : zz_D zy_nextToken_11_7 197 (.aload_n 0) 1 198 := ⟨by decide +kernel, rfl⟩
theorem zd_11_7_198 : zz_D zy_nextToken_11_7 198 (.getfield 9) 3 201 := ⟨by decide +kernel, rfl⟩
theorem zd_11_7_201 : zz_D zy_nextToken_11_7 201 (.aload_n 0) 1 202 := ⟨by decide +kernel, rfl⟩
theorem zd_11_7_202 : zz_D zy_nextToken_11_7 202 (.getfield 25) 3 205 := ⟨by decide +kernel, rfl⟩
theorem zd_11_7_205 : zz_D zy_nextToken_11_7 205 (.caload) 1 206 := ⟨by decide +kernel, rfl⟩
theorem zd_11_7_206 : zz_D zy_nextToken_11_7 206 (.bipush 57) 2 208 := ⟨by decide +kernel, rfl⟩
theorem zd_11_7_208 : zz_B zy_nextToken_11_7 208 (Instr.if_icmp .gt) 248 211 := ⟨40, by decide +kernel, rfl, rfl⟩
theorem zd_11_7_211 : zz_D zy_nextToken_11_7 211 (.aload_n 0) 1 212 := ⟨by decide +kernel, rfl⟩
theorem zd_11_7_212 : zz_D zy_nextToken_11_7 212 (.bipush 10) 2 214 := ⟨by decide +kernel, rfl⟩
theorem zd_11_7_214 : zz_D zy_nextToken_11_7 214 (.aload_n 0) 1 215 := ⟨by decide +kernel, rfl⟩
theorem zd_11_7_215 : zz_D zy_nextToken_11_7 215 (.getfield 34) 3 218 := ⟨by decide +kernel, rfl⟩
theorem zd_11_7_218 : zz_D zy_nextToken_11_7 218 (.imul) 1 219 := ⟨by decide +kernel, rfl⟩
theorem zd_11_7_219 : zz_D zy_nextToken_11_7 219 (.aload_n 0) 1 220 := ⟨by decide +kernel, rfl⟩
theorem zd_11_7_220 : zz_D zy_nextToken_11_7 220 (.getfield 9) 3 223 := ⟨by decide +kernel, rfl⟩
theorem zd_11_7_223 : zz_D zy_nextToken_11_7 223 (.aload_n 0) 1 224 := ⟨by decide +kernel, rfl⟩
theorem zd_11_7_224 : zz_D zy_nextToken_11_7 224 (.getfield 25) 3 227 := ⟨by decide +kernel, rfl⟩
theorem zd_11_7_227 : zz_D zy_nextToken_11_7 227 (.caload) 1 228 := ⟨by decide +kernel, rfl⟩
theorem zd_11_7_228 : zz_D zy_nextToken_11_7 228 (.iadd) 1 229 := ⟨by decide +kernel, rfl⟩
theorem zd_11_7_229 : zz_D zy_nextToken_11_7 229 (.bipush 48) 2 231 := ⟨by decide +kernel, rfl⟩
theorem zd_11_7_231 : zz_D zy_nextToken_11_7 231 (.isub) 1 232 := ⟨by decide +kernel, rfl⟩
theorem zd_11_7_232 : zz_D zy_nextToken_11_7 232 (.putfield 34) 3 235 := ⟨by decide +kernel, rfl⟩
theorem zd_11_7_235 : zz_D zy_nextToken_11_7 235 (.aload_n 0) 1 236 := ⟨by decide +kernel, rfl⟩
theorem zd_11_7_236 : zz_D zy_nextToken_11_7 236 (.dup) 1 237 := ⟨by decide +kernel, rfl⟩
theorem zd_11_7_237 : zz_D zy_nextToken_11_7 237 (.getfield 25) 3 240 := ⟨by decide +kernel, rfl⟩
theorem zd_11_7_240 : zz_D zy_nextToken_11_7 240 (.iconst 1) 1 241 := ⟨by decide +kernel, rfl⟩
theorem zd_11_7_241 : zz_D zy_nextToken_11_7 241 (.iadd) 1 242 := ⟨by decide +kernel, rfl⟩
theorem zd_11_7_242 : zz_D zy_nextToken_11_7 242 (.putfield 25) 3 245 := ⟨by decide +kernel, rfl⟩
theorem zd_11_7_245 : zz_B zy_nextToken_11_7 245 Instr.goto 172 248 := ⟨(-73), by decide +kernel, rfl, rfl⟩
theorem zd_11_7_112 : zz_D zy_nextToken_11_7 112 (.aload_n 0) 1 113 := ⟨by decide +kernel, rfl⟩
theorem zd_11_7_113 : zz_D zy_nextToken_11_7 113 (.getfield 25) 3 116 := ⟨by decide +kernel, rfl⟩
theorem zd_11_7_116 : zz_D zy_nextToken_11_7 116 (.aload_n 0) 1 117 := ⟨by decide +kernel, rfl⟩
theorem zd_11_7_117 : zz_D zy_nextToken_11_7 117 (.getfield 22) 3 120 := ⟨by decide +kernel, rfl⟩
theorem zd_11_7_120 : zz_B zy_nextToken_11_7 120 (Instr.if_icmp .ge) 164 123 := ⟨44, by decide +kernel, rfl, rfl⟩
theorem zd_11_7_164 : zz_D zy_nextToken_11_7 164 (.aload_n 0) 1 165 := ⟨by decide +kernel, rfl⟩
theorem zd_11_7_165 : zz_D zy_nextToken_11_7 165 (.iconst 1) 1 166 := ⟨by decide +kernel, rfl⟩
theorem zd_11_7_166 : zz_D zy_nextToken_11_7 166 (.putfield 28) 3 169 := ⟨by decide +kernel, rfl⟩
theorem zd_11_7_169 : zz_B zy_nextToken_11_7 169 Instr.goto 281 172 := ⟨112, by decide +kernel, rfl, rfl⟩
theorem zd_11_7_123 : zz_D zy_nextToken_11_7 123 (.aload_n 0) 1 124 := ⟨by decide +kernel, rfl⟩
theorem zd_11_7_124 : zz_D zy_nextToken_11_7 124 (.getfield 9) 3 127 := ⟨by decide +kernel, rfl⟩
theorem zd_11_7_127 : zz_D zy_nextToken_11_7 127 (.aload_n 0) 1 128 := ⟨by decide +kernel, rfl⟩
theorem zd_11_7_128 : zz_D zy_nextToken_11_7 128 (.getfield 25) 3 131 := ⟨by decide +kernel, rfl⟩
theorem zd_11_7_131 : zz_D zy_nextToken_11_7 131 (.caload) 1 132 := ⟨by decide +kernel, rfl⟩
theorem zd_11_7_132 : zz_D zy_nextToken_11_7 132 (.bipush 97) 2 134 := ⟨by decide +kernel, rfl⟩
theorem zd_11_7_134 : zz_B zy_nextToken_11_7 134 (Instr.if_icmp .lt) 164 137 := ⟨30, by decide +kernel, rfl, rfl⟩
theorem zd_11_7_137 : zz_D zy_nextToken_11_7 137 (.aload_n 0) 1 138 := ⟨by decide +kernel, rfl⟩
theorem zd_11_7_138 : zz_D zy_nextToken_11_7 138 (.getfield 9) 3 141 := ⟨by decide +kernel, rfl⟩
theorem zd_11_7_141 : zz_D zy_nextToken_11_7 141 (.aload_n 0) 1 142 := ⟨by decide +kernel, rfl⟩
theorem zd_11_7_142 : zz_D zy_nextToken_11_7 142 (.getfield 25) 3 145 := ⟨by decide +kernel, rfl⟩
theorem zd_11_7_145 : zz_D zy_nextToken_11_7 145 (.caload) 1 146 := ⟨by decide +kernel, rfl⟩
theorem zd_11_7_146 : zz_D zy_nextToken_11_7 146 (.bipush 122) 2 148 := ⟨by decide +kernel, rfl⟩
theorem zd_11_7_148 : zz_B zy_nextToken_11_7 148 (Instr.if_icmp .gt) 164 151 := ⟨16, by decide +kernel, rfl, rfl⟩
theorem zd_11_7_151 : zz_D zy_nextToken_11_7 151 (.aload_n 0) 1 152 := ⟨by decide +kernel, rfl⟩
theorem zd_11_7_152 : zz_D zy_nextToken_11_7 152 (.dup) 1 153 := ⟨by decide +kernel, rfl⟩
theorem zd_11_7_153 : zz_D zy_nextToken_11_7 153 (.getfield 25) 3 156 := ⟨by decide +kernel, rfl⟩
theorem zd_11_7_156 : zz_D zy_nextToken_11_7 156 (.iconst 1) 1 157 := ⟨by decide +kernel, rfl⟩
theorem zd_11_7_157 : zz_D zy_nextToken_11_7 157 (.iadd) 1 158 := ⟨by decide +kernel, rfl⟩
theorem zd_11_7_158 : zz_D zy_nextToken_11_7 158 (.putfield 25) 3 161 := ⟨by decide +kernel, rfl⟩
theorem zd_11_7_161 : zz_B zy_nextToken_11_7 161 Instr.goto 112 164 := ⟨(-49), by decide +kernel, rfl, rfl⟩
-- TensorForge$Text nextToken ()V
abbrev zr_nextToken_11_7 : Room := { frames := 0, cells := 0, slots := 0, locals := 0 }
def zp_nextToken_11_7  (S0 : zz_S) : zz_S → Prop := fun S => zz_G S ∧ zz_fr [(1070, 3), (1070, 4), (1070, 5), (1070, 6)] [] (fun _ _ => False) S0 S
theorem zb_nextToken_11_7_0 {g : mm_G} {l : Launch}  (S0 : zz_S) (n : Nat) (hn : zz_end ≤ n) (G_S0 : zz_G S0)   (S : zz_S) (G_S : zz_G S) (F_S : zz_fr [(1070, 3), (1070, 4), (1070, 5), (1070, 6)] [] (fun _ _ => False) S0 S) (i0_0 : S0 1070 3 < S0 1070 2) (i0_1 : S0 1071 ((S0 1070 3).toNat) = 32) (R : Nat) (hR : (51539607552 + (S0 1070 2 - S 1070 3).toNat) = R) (k0 : ∀  (S : zz_S), zz_G S → zz_fr [(1070, 3), (1070, 4), (1070, 5), (1070, 6)] [] (fun _ _ => False) S0 S → (S0 1070 3 < S0 1070 2) → (S0 1071 ((S0 1070 3).toNat) = 32) → (51539607552 + (S0 1070 2 - S 1070 3).toNat) < R → zz_E g l zy_nextToken_11_7 zr_nextToken_11_7 (zz_QV n (zp_nextToken_11_7  S0)) S n 0 [some (.ref 1070)] [] 0 0) (k112 : ∀  (S : zz_S), zz_G S → zz_fr [(1070, 3), (1070, 4), (1070, 5), (1070, 6)] [] (fun _ _ => False) S0 S → (S0 1070 3 < S0 1070 2) → (34359738368 + (S0 1070 2 - S 1070 3).toNat) < R → zz_E g l zy_nextToken_11_7 zr_nextToken_11_7 (zz_QV n (zp_nextToken_11_7  S0)) S n 112 [some (.ref 1070)] [] 0 0) (k172 : ∀  (S : zz_S), zz_G S → zz_fr [(1070, 3), (1070, 4), (1070, 5), (1070, 6)] [] (fun _ _ => False) S0 S → (S0 1070 3 < S0 1070 2) → (17179869184 + (S0 1070 2 - S 1070 3).toNat) < R → zz_E g l zy_nextToken_11_7 zr_nextToken_11_7 (zz_QV n (zp_nextToken_11_7  S0)) S n 172 [some (.ref 1070)] [] 0 0) : zz_E g l zy_nextToken_11_7 zr_nextToken_11_7 (zz_QV n (zp_nextToken_11_7  S0)) S n 0 [some (.ref 1070)] [] 0 0 := by
  refine zz_aload_n (x := 1070) rfl zd_11_7_0 ?_
  have g73 := zz_G.r G_S 1070 3 0 1500 rfl rfl
  refine zz_geti (z := S 1070 3) zd_11_7_1 zf_Text_25 zT_1070 rfl (zz_ltn hn rfl) rfl ?_
  refine zz_aload_n (x := 1070) rfl zd_11_7_4 ?_
  have g74 := zz_G.r G_S0 1070 2 (-1) 1500 rfl rfl
  refine zz_geti (z := S0 1070 2) zd_11_7_5 zf_Text_22 zT_1070 rfl (zz_ltn hn rfl) (zz_rc F_S rfl rfl (fun h => h) rfl) ?_
  refine zz_icmp_ge (by omega) (by omega) zd_11_7_8 (fun c75 => ?_) (fun c75 => ?_)
  · refine zz_aload_n (x := 1070) rfl zd_11_7_38 ?_
    refine zz_aload_n (x := 1070) rfl zd_11_7_39 ?_
    refine zz_geti (z := S 1070 3) zd_11_7_40 zf_Text_25 zT_1070 rfl (zz_ltn hn rfl) rfl ?_
    refine zz_puti zd_11_7_43 zf_Text_31 zT_1070 rfl (zz_ltn hn rfl) (fun S76 qS76 => ?_)
    have G_S76 := zz_G.put G_S qS76 0 1500 rfl (by omega)
    have F_S76 := zz_fr.puts F_S qS76 rfl
    refine zz_aload_n (x := 1070) rfl zd_11_7_46 ?_
    refine zz_iconst zd_11_7_47 ?_
    refine zz_puti zd_11_7_48 zf_Text_34 zT_1070 rfl (zz_ltn hn rfl) (fun S77 qS77 => ?_)
    have G_S77 := zz_G.put G_S76 qS77 (-2147483648) 2147483647 rfl (by omega)
    have F_S77 := zz_fr.puts F_S76 qS77 rfl
    refine zz_aload_n (x := 1070) rfl zd_11_7_51 ?_
    refine zz_geti (z := S 1070 3) zd_11_7_52 zf_Text_25 zT_1070 rfl (zz_ltn hn rfl) (zz_ro qS77 (fun h => absurd h.2 (by decide)) (zz_ro qS76 (fun h => absurd h.2 (by decide)) rfl)) ?_
    refine zz_aload_n (x := 1070) rfl zd_11_7_55 ?_
    refine zz_geti (z := S0 1070 2) zd_11_7_56 zf_Text_22 zT_1070 rfl (zz_ltn hn rfl) (zz_ro qS77 (fun h => absurd h.2 (by decide)) (zz_ro qS76 (fun h => absurd h.2 (by decide)) (zz_rc F_S rfl rfl (fun h => h) rfl))) ?_
    refine zz_icmp_ge (by omega) (by omega) zd_11_7_59 (fun c78 => ?_) (fun c78 => ?_)
    · refine zz_aload_n (x := 1070) rfl zd_11_7_76 ?_
      refine zz_iconst zd_11_7_77 ?_
      refine zz_puti zd_11_7_78 zf_Text_28 zT_1070 rfl (zz_ltn hn rfl) (fun S79 qS79 => ?_)
      have G_S79 := zz_G.put G_S77 qS79 (-2147483648) 2147483647 rfl (by omega)
      have F_S79 := zz_fr.puts F_S77 qS79 rfl
      refine zz_goto zd_11_7_81 ?_
      exact zz_vret zd_11_7_281 rfl (Nat.zero_le _) (Nat.zero_le _) ⟨_, rfl, G_S79, F_S79⟩
    · refine zz_aload_n (x := 1070) rfl zd_11_7_62 ?_
      refine zz_getr (kd := 0) (z := 1071) zd_11_7_63 zf_Text_9 zT_1070 rfl (zz_ltn hn rfl) (zz_G.eq G_S77 1070 0 1071 rfl rfl) (by decide) 1071 rfl ?_
      refine zz_aload_n (x := 1070) rfl zd_11_7_66 ?_
      refine zz_geti (z := S 1070 3) zd_11_7_67 zf_Text_25 zT_1070 rfl (zz_ltn hn rfl) (zz_ro qS77 (fun h => absurd h.2 (by decide)) (zz_ro qS76 (fun h => absurd h.2 (by decide)) rfl)) ?_
      have g80 := zz_G.r G_S0 1071 ((S 1070 3).toNat) 0 65535 rfl rfl
      refine zz_cald (z := S0 1071 ((S 1070 3).toNat)) zd_11_7_70 zT_1071 rfl (zz_ltn hn rfl) (by decide) (by omega) (zz_ro qS77 (fun h => absurd h.1 (by decide)) (zz_ro qS76 (fun h => absurd h.1 (by decide)) (zz_rc F_S (zz_nc1 rfl) rfl (fun h => h) rfl))) ?_
      refine zz_bipush (by decide) zd_11_7_71 ?_
      refine zz_icmp_ne (by omega) (by omega) zd_11_7_73 (fun c81 => ?_) (fun c81 => ?_)
      · refine zz_aload_n (x := 1070) rfl zd_11_7_84 ?_
        refine zz_getr (kd := 0) (z := 1071) zd_11_7_85 zf_Text_9 zT_1070 rfl (zz_ltn hn rfl) (zz_G.eq G_S77 1070 0 1071 rfl rfl) (by decide) 1071 rfl ?_
        refine zz_aload_n (x := 1070) rfl zd_11_7_88 ?_
        refine zz_geti (z := S 1070 3) zd_11_7_89 zf_Text_25 zT_1070 rfl (zz_ltn hn rfl) (zz_ro qS77 (fun h => absurd h.2 (by decide)) (zz_ro qS76 (fun h => absurd h.2 (by decide)) rfl)) ?_
        refine zz_cald (z := S0 1071 ((S 1070 3).toNat)) zd_11_7_92 zT_1071 rfl (zz_ltn hn rfl) (by decide) (by omega) (zz_ro qS77 (fun h => absurd h.1 (by decide)) (zz_ro qS76 (fun h => absurd h.1 (by decide)) (zz_rc F_S (zz_nc1 rfl) rfl (fun h => h) rfl))) ?_
        refine zz_bipush (by decide) zd_11_7_93 ?_
        refine zz_icmp_lt (by omega) (by omega) zd_11_7_95 (fun c82 => ?_) (fun c82 => ?_)
        · have e83 : S77 1070 3 = S 1070 3 := (zz_ro qS77 (fun h => absurd h.2 (by decide)) (zz_ro qS76 (fun h => absurd h.2 (by decide)) rfl))
          exact k172 S77 G_S77 F_S77 (by omega) (by omega)
        · refine zz_aload_n (x := 1070) rfl zd_11_7_98 ?_
          refine zz_getr (kd := 0) (z := 1071) zd_11_7_99 zf_Text_9 zT_1070 rfl (zz_ltn hn rfl) (zz_G.eq G_S77 1070 0 1071 rfl rfl) (by decide) 1071 rfl ?_
          refine zz_aload_n (x := 1070) rfl zd_11_7_102 ?_
          refine zz_geti (z := S 1070 3) zd_11_7_103 zf_Text_25 zT_1070 rfl (zz_ltn hn rfl) (zz_ro qS77 (fun h => absurd h.2 (by decide)) (zz_ro qS76 (fun h => absurd h.2 (by decide)) rfl)) ?_
          refine zz_cald (z := S0 1071 ((S 1070 3).toNat)) zd_11_7_106 zT_1071 rfl (zz_ltn hn rfl) (by decide) (by omega) (zz_ro qS77 (fun h => absurd h.1 (by decide)) (zz_ro qS76 (fun h => absurd h.1 (by decide)) (zz_rc F_S (zz_nc1 rfl) rfl (fun h => h) rfl))) ?_
          refine zz_bipush (by decide) zd_11_7_107 ?_
          refine zz_icmp_gt (by omega) (by omega) zd_11_7_109 (fun c84 => ?_) (fun c84 => ?_)
          · have e85 : S77 1070 3 = S 1070 3 := (zz_ro qS77 (fun h => absurd h.2 (by decide)) (zz_ro qS76 (fun h => absurd h.2 (by decide)) rfl))
            exact k172 S77 G_S77 F_S77 (by omega) (by omega)
          · have e86 : S77 1070 3 = S 1070 3 := (zz_ro qS77 (fun h => absurd h.2 (by decide)) (zz_ro qS76 (fun h => absurd h.2 (by decide)) rfl))
            exact k112 S77 G_S77 F_S77 (by omega) (by omega)
      · refine zz_aload_n (x := 1070) rfl zd_11_7_76 ?_
        refine zz_iconst zd_11_7_77 ?_
        refine zz_puti zd_11_7_78 zf_Text_28 zT_1070 rfl (zz_ltn hn rfl) (fun S87 qS87 => ?_)
        have G_S87 := zz_G.put G_S77 qS87 (-2147483648) 2147483647 rfl (by omega)
        have F_S87 := zz_fr.puts F_S77 qS87 rfl
        refine zz_goto zd_11_7_81 ?_
        exact zz_vret zd_11_7_281 rfl (Nat.zero_le _) (Nat.zero_le _) ⟨_, rfl, G_S87, F_S87⟩
  · refine zz_aload_n (x := 1070) rfl zd_11_7_11 ?_
    refine zz_getr (kd := 0) (z := 1071) zd_11_7_12 zf_Text_9 zT_1070 rfl (zz_ltn hn rfl) (zz_G.eq G_S 1070 0 1071 rfl rfl) (by decide) 1071 rfl ?_
    refine zz_aload_n (x := 1070) rfl zd_11_7_15 ?_
    refine zz_geti (z := S 1070 3) zd_11_7_16 zf_Text_25 zT_1070 rfl (zz_ltn hn rfl) rfl ?_
    have g88 := zz_G.r G_S0 1071 ((S 1070 3).toNat) 0 65535 rfl rfl
    refine zz_cald (z := S0 1071 ((S 1070 3).toNat)) zd_11_7_19 zT_1071 rfl (zz_ltn hn rfl) (by decide) (by omega) (zz_rc F_S (zz_nc1 rfl) rfl (fun h => h) rfl) ?_
    refine zz_bipush (by decide) zd_11_7_20 ?_
    refine zz_icmp_ne (by omega) (by omega) zd_11_7_22 (fun c89 => ?_) (fun c89 => ?_)
    · refine zz_aload_n (x := 1070) rfl zd_11_7_38 ?_
      refine zz_aload_n (x := 1070) rfl zd_11_7_39 ?_
      refine zz_geti (z := S 1070 3) zd_11_7_40 zf_Text_25 zT_1070 rfl (zz_ltn hn rfl) rfl ?_
      refine zz_puti zd_11_7_43 zf_Text_31 zT_1070 rfl (zz_ltn hn rfl) (fun S90 qS90 => ?_)
      have G_S90 := zz_G.put G_S qS90 0 1500 rfl (by omega)
      have F_S90 := zz_fr.puts F_S qS90 rfl
      refine zz_aload_n (x := 1070) rfl zd_11_7_46 ?_
      refine zz_iconst zd_11_7_47 ?_
      refine zz_puti zd_11_7_48 zf_Text_34 zT_1070 rfl (zz_ltn hn rfl) (fun S91 qS91 => ?_)
      have G_S91 := zz_G.put G_S90 qS91 (-2147483648) 2147483647 rfl (by omega)
      have F_S91 := zz_fr.puts F_S90 qS91 rfl
      refine zz_aload_n (x := 1070) rfl zd_11_7_51 ?_
      refine zz_geti (z := S 1070 3) zd_11_7_52 zf_Text_25 zT_1070 rfl (zz_ltn hn rfl) (zz_ro qS91 (fun h => absurd h.2 (by decide)) (zz_ro qS90 (fun h => absurd h.2 (by decide)) rfl)) ?_
      refine zz_aload_n (x := 1070) rfl zd_11_7_55 ?_
      refine zz_geti (z := S0 1070 2) zd_11_7_56 zf_Text_22 zT_1070 rfl (zz_ltn hn rfl) (zz_ro qS91 (fun h => absurd h.2 (by decide)) (zz_ro qS90 (fun h => absurd h.2 (by decide)) (zz_rc F_S rfl rfl (fun h => h) rfl))) ?_
      refine zz_icmp_ge (by omega) (by omega) zd_11_7_59 (fun c92 => ?_) (fun c92 => ?_)
      · refine zz_aload_n (x := 1070) rfl zd_11_7_76 ?_
        refine zz_iconst zd_11_7_77 ?_
        refine zz_puti zd_11_7_78 zf_Text_28 zT_1070 rfl (zz_ltn hn rfl) (fun S93 qS93 => ?_)
        have G_S93 := zz_G.put G_S91 qS93 (-2147483648) 2147483647 rfl (by omega)
        have F_S93 := zz_fr.puts F_S91 qS93 rfl
        refine zz_goto zd_11_7_81 ?_
        exact zz_vret zd_11_7_281 rfl (Nat.zero_le _) (Nat.zero_le _) ⟨_, rfl, G_S93, F_S93⟩
      · refine zz_aload_n (x := 1070) rfl zd_11_7_62 ?_
        refine zz_getr (kd := 0) (z := 1071) zd_11_7_63 zf_Text_9 zT_1070 rfl (zz_ltn hn rfl) (zz_G.eq G_S91 1070 0 1071 rfl rfl) (by decide) 1071 rfl ?_
        refine zz_aload_n (x := 1070) rfl zd_11_7_66 ?_
        refine zz_geti (z := S 1070 3) zd_11_7_67 zf_Text_25 zT_1070 rfl (zz_ltn hn rfl) (zz_ro qS91 (fun h => absurd h.2 (by decide)) (zz_ro qS90 (fun h => absurd h.2 (by decide)) rfl)) ?_
        refine zz_cald (z := S0 1071 ((S 1070 3).toNat)) zd_11_7_70 zT_1071 rfl (zz_ltn hn rfl) (by decide) (by omega) (zz_ro qS91 (fun h => absurd h.1 (by decide)) (zz_ro qS90 (fun h => absurd h.1 (by decide)) (zz_rc F_S (zz_nc1 rfl) rfl (fun h => h) rfl))) ?_
        refine zz_bipush (by decide) zd_11_7_71 ?_
        refine zz_icmp_ne (by omega) (by omega) zd_11_7_73 (fun c94 => ?_) (fun c94 => ?_)
        · refine zz_aload_n (x := 1070) rfl zd_11_7_84 ?_
          refine zz_getr (kd := 0) (z := 1071) zd_11_7_85 zf_Text_9 zT_1070 rfl (zz_ltn hn rfl) (zz_G.eq G_S91 1070 0 1071 rfl rfl) (by decide) 1071 rfl ?_
          refine zz_aload_n (x := 1070) rfl zd_11_7_88 ?_
          refine zz_geti (z := S 1070 3) zd_11_7_89 zf_Text_25 zT_1070 rfl (zz_ltn hn rfl) (zz_ro qS91 (fun h => absurd h.2 (by decide)) (zz_ro qS90 (fun h => absurd h.2 (by decide)) rfl)) ?_
          refine zz_cald (z := S0 1071 ((S 1070 3).toNat)) zd_11_7_92 zT_1071 rfl (zz_ltn hn rfl) (by decide) (by omega) (zz_ro qS91 (fun h => absurd h.1 (by decide)) (zz_ro qS90 (fun h => absurd h.1 (by decide)) (zz_rc F_S (zz_nc1 rfl) rfl (fun h => h) rfl))) ?_
          refine zz_bipush (by decide) zd_11_7_93 ?_
          refine zz_icmp_lt (by omega) (by omega) zd_11_7_95 (fun c95 => ?_) (fun c95 => ?_)
          · have e96 : S91 1070 3 = S 1070 3 := (zz_ro qS91 (fun h => absurd h.2 (by decide)) (zz_ro qS90 (fun h => absurd h.2 (by decide)) rfl))
            exact k172 S91 G_S91 F_S91 (by omega) (by omega)
          · refine zz_aload_n (x := 1070) rfl zd_11_7_98 ?_
            refine zz_getr (kd := 0) (z := 1071) zd_11_7_99 zf_Text_9 zT_1070 rfl (zz_ltn hn rfl) (zz_G.eq G_S91 1070 0 1071 rfl rfl) (by decide) 1071 rfl ?_
            refine zz_aload_n (x := 1070) rfl zd_11_7_102 ?_
            refine zz_geti (z := S 1070 3) zd_11_7_103 zf_Text_25 zT_1070 rfl (zz_ltn hn rfl) (zz_ro qS91 (fun h => absurd h.2 (by decide)) (zz_ro qS90 (fun h => absurd h.2 (by decide)) rfl)) ?_
            refine zz_cald (z := S0 1071 ((S 1070 3).toNat)) zd_11_7_106 zT_1071 rfl (zz_ltn hn rfl) (by decide) (by omega) (zz_ro qS91 (fun h => absurd h.1 (by decide)) (zz_ro qS90 (fun h => absurd h.1 (by decide)) (zz_rc F_S (zz_nc1 rfl) rfl (fun h => h) rfl))) ?_
            refine zz_bipush (by decide) zd_11_7_107 ?_
            refine zz_icmp_gt (by omega) (by omega) zd_11_7_109 (fun c97 => ?_) (fun c97 => ?_)
            · have e98 : S91 1070 3 = S 1070 3 := (zz_ro qS91 (fun h => absurd h.2 (by decide)) (zz_ro qS90 (fun h => absurd h.2 (by decide)) rfl))
              exact k172 S91 G_S91 F_S91 (by omega) (by omega)
            · have e99 : S91 1070 3 = S 1070 3 := (zz_ro qS91 (fun h => absurd h.2 (by decide)) (zz_ro qS90 (fun h => absurd h.2 (by decide)) rfl))
              exact k112 S91 G_S91 F_S91 (by omega) (by omega)
        · refine zz_aload_n (x := 1070) rfl zd_11_7_76 ?_
          refine zz_iconst zd_11_7_77 ?_
          refine zz_puti zd_11_7_78 zf_Text_28 zT_1070 rfl (zz_ltn hn rfl) (fun S100 qS100 => ?_)
          have G_S100 := zz_G.put G_S91 qS100 (-2147483648) 2147483647 rfl (by omega)
          have F_S100 := zz_fr.puts F_S91 qS100 rfl
          refine zz_goto zd_11_7_81 ?_
          exact zz_vret zd_11_7_281 rfl (Nat.zero_le _) (Nat.zero_le _) ⟨_, rfl, G_S100, F_S100⟩
    · refine zz_aload_n (x := 1070) rfl zd_11_7_25 ?_
      refine zz_dup rfl zd_11_7_26 ?_
      refine zz_geti (z := S 1070 3) zd_11_7_27 zf_Text_25 zT_1070 rfl (zz_ltn hn rfl) rfl ?_
      refine zz_iconst zd_11_7_30 ?_
      refine zz_iadd zd_11_7_31 ?_
      refine zz_puti zd_11_7_32 zf_Text_25 zT_1070 rfl (zz_ltn hn rfl) (fun S101 qS101 => ?_)
      have G_S101 := zz_G.put G_S qS101 0 1500 rfl (by omega)
      have F_S101 := zz_fr.puts F_S qS101 rfl
      refine zz_goto zd_11_7_35 ?_
      have e102 : S101 1070 3 = (S 1070 3) + 1 := (zz_rs qS101)
      exact k0 S101 G_S101 F_S101 (by omega) (by omega) (by omega)
theorem zb_nextToken_11_7_112 {g : mm_G} {l : Launch}  (S0 : zz_S) (n : Nat) (hn : zz_end ≤ n) (G_S0 : zz_G S0)   (S : zz_S) (G_S : zz_G S) (F_S : zz_fr [(1070, 3), (1070, 4), (1070, 5), (1070, 6)] [] (fun _ _ => False) S0 S) (i112_0 : S0 1070 3 < S0 1070 2) (R : Nat) (hR : (34359738368 + (S0 1070 2 - S 1070 3).toNat) = R) (k112 : ∀  (S : zz_S), zz_G S → zz_fr [(1070, 3), (1070, 4), (1070, 5), (1070, 6)] [] (fun _ _ => False) S0 S → (S0 1070 3 < S0 1070 2) → (34359738368 + (S0 1070 2 - S 1070 3).toNat) < R → zz_E g l zy_nextToken_11_7 zr_nextToken_11_7 (zz_QV n (zp_nextToken_11_7  S0)) S n 112 [some (.ref 1070)] [] 0 0) : zz_E g l zy_nextToken_11_7 zr_nextToken_11_7 (zz_QV n (zp_nextToken_11_7  S0)) S n 112 [some (.ref 1070)] [] 0 0 := by
  refine zz_aload_n (x := 1070) rfl zd_11_7_112 ?_
  have g62 := zz_G.r G_S 1070 3 0 1500 rfl rfl
  refine zz_geti (z := S 1070 3) zd_11_7_113 zf_Text_25 zT_1070 rfl (zz_ltn hn rfl) rfl ?_
  refine zz_aload_n (x := 1070) rfl zd_11_7_116 ?_
  have g63 := zz_G.r G_S0 1070 2 (-1) 1500 rfl rfl
  refine zz_geti (z := S0 1070 2) zd_11_7_117 zf_Text_22 zT_1070 rfl (zz_ltn hn rfl) (zz_rc F_S rfl rfl (fun h => h) rfl) ?_
  refine zz_icmp_ge (by omega) (by omega) zd_11_7_120 (fun c64 => ?_) (fun c64 => ?_)
  · refine zz_aload_n (x := 1070) rfl zd_11_7_164 ?_
    refine zz_iconst zd_11_7_165 ?_
    refine zz_puti zd_11_7_166 zf_Text_28 zT_1070 rfl (zz_ltn hn rfl) (fun S65 qS65 => ?_)
    have G_S65 := zz_G.put G_S qS65 (-2147483648) 2147483647 rfl (by omega)
    have F_S65 := zz_fr.puts F_S qS65 rfl
    refine zz_goto zd_11_7_169 ?_
    exact zz_vret zd_11_7_281 rfl (Nat.zero_le _) (Nat.zero_le _) ⟨_, rfl, G_S65, F_S65⟩
  · refine zz_aload_n (x := 1070) rfl zd_11_7_123 ?_
    refine zz_getr (kd := 0) (z := 1071) zd_11_7_124 zf_Text_9 zT_1070 rfl (zz_ltn hn rfl) (zz_G.eq G_S 1070 0 1071 rfl rfl) (by decide) 1071 rfl ?_
    refine zz_aload_n (x := 1070) rfl zd_11_7_127 ?_
    refine zz_geti (z := S 1070 3) zd_11_7_128 zf_Text_25 zT_1070 rfl (zz_ltn hn rfl) rfl ?_
    have g66 := zz_G.r G_S0 1071 ((S 1070 3).toNat) 0 65535 rfl rfl
    refine zz_cald (z := S0 1071 ((S 1070 3).toNat)) zd_11_7_131 zT_1071 rfl (zz_ltn hn rfl) (by decide) (by omega) (zz_rc F_S (zz_nc1 rfl) rfl (fun h => h) rfl) ?_
    refine zz_bipush (by decide) zd_11_7_132 ?_
    refine zz_icmp_lt (by omega) (by omega) zd_11_7_134 (fun c67 => ?_) (fun c67 => ?_)
    · refine zz_aload_n (x := 1070) rfl zd_11_7_164 ?_
      refine zz_iconst zd_11_7_165 ?_
      refine zz_puti zd_11_7_166 zf_Text_28 zT_1070 rfl (zz_ltn hn rfl) (fun S68 qS68 => ?_)
      have G_S68 := zz_G.put G_S qS68 (-2147483648) 2147483647 rfl (by omega)
      have F_S68 := zz_fr.puts F_S qS68 rfl
      refine zz_goto zd_11_7_169 ?_
      exact zz_vret zd_11_7_281 rfl (Nat.zero_le _) (Nat.zero_le _) ⟨_, rfl, G_S68, F_S68⟩
    · refine zz_aload_n (x := 1070) rfl zd_11_7_137 ?_
      refine zz_getr (kd := 0) (z := 1071) zd_11_7_138 zf_Text_9 zT_1070 rfl (zz_ltn hn rfl) (zz_G.eq G_S 1070 0 1071 rfl rfl) (by decide) 1071 rfl ?_
      refine zz_aload_n (x := 1070) rfl zd_11_7_141 ?_
      refine zz_geti (z := S 1070 3) zd_11_7_142 zf_Text_25 zT_1070 rfl (zz_ltn hn rfl) rfl ?_
      refine zz_cald (z := S0 1071 ((S 1070 3).toNat)) zd_11_7_145 zT_1071 rfl (zz_ltn hn rfl) (by decide) (by omega) (zz_rc F_S (zz_nc1 rfl) rfl (fun h => h) rfl) ?_
      refine zz_bipush (by decide) zd_11_7_146 ?_
      refine zz_icmp_gt (by omega) (by omega) zd_11_7_148 (fun c69 => ?_) (fun c69 => ?_)
      · refine zz_aload_n (x := 1070) rfl zd_11_7_164 ?_
        refine zz_iconst zd_11_7_165 ?_
        refine zz_puti zd_11_7_166 zf_Text_28 zT_1070 rfl (zz_ltn hn rfl) (fun S70 qS70 => ?_)
        have G_S70 := zz_G.put G_S qS70 (-2147483648) 2147483647 rfl (by omega)
        have F_S70 := zz_fr.puts F_S qS70 rfl
        refine zz_goto zd_11_7_169 ?_
        exact zz_vret zd_11_7_281 rfl (Nat.zero_le _) (Nat.zero_le _) ⟨_, rfl, G_S70, F_S70⟩
      · refine zz_aload_n (x := 1070) rfl zd_11_7_151 ?_
        refine zz_dup rfl zd_11_7_152 ?_
        refine zz_geti (z := S 1070 3) zd_11_7_153 zf_Text_25 zT_1070 rfl (zz_ltn hn rfl) rfl ?_
        refine zz_iconst zd_11_7_156 ?_
        refine zz_iadd zd_11_7_157 ?_
        refine zz_puti zd_11_7_158 zf_Text_25 zT_1070 rfl (zz_ltn hn rfl) (fun S71 qS71 => ?_)
        have G_S71 := zz_G.put G_S qS71 0 1500 rfl (by omega)
        have F_S71 := zz_fr.puts F_S qS71 rfl
        refine zz_goto zd_11_7_161 ?_
        have e72 : S71 1070 3 = (S 1070 3) + 1 := (zz_rs qS71)
        exact k112 S71 G_S71 F_S71 (by omega) (by omega)
theorem zb_nextToken_11_7_172 {g : mm_G} {l : Launch}  (S0 : zz_S) (n : Nat) (hn : zz_end ≤ n) (G_S0 : zz_G S0)   (S : zz_S) (G_S : zz_G S) (F_S : zz_fr [(1070, 3), (1070, 4), (1070, 5), (1070, 6)] [] (fun _ _ => False) S0 S) (i172_0 : S0 1070 3 < S0 1070 2) (R : Nat) (hR : (17179869184 + (S0 1070 2 - S 1070 3).toNat) = R) (k172 : ∀  (S : zz_S), zz_G S → zz_fr [(1070, 3), (1070, 4), (1070, 5), (1070, 6)] [] (fun _ _ => False) S0 S → (S0 1070 3 < S0 1070 2) → (17179869184 + (S0 1070 2 - S 1070 3).toNat) < R → zz_E g l zy_nextToken_11_7 zr_nextToken_11_7 (zz_QV n (zp_nextToken_11_7  S0)) S n 172 [some (.ref 1070)] [] 0 0) : zz_E g l zy_nextToken_11_7 zr_nextToken_11_7 (zz_QV n (zp_nextToken_11_7  S0)) S n 172 [some (.ref 1070)] [] 0 0 := by
  refine zz_aload_n (x := 1070) rfl zd_11_7_172 ?_
  have g31 := zz_G.r G_S 1070 3 0 1500 rfl rfl
  refine zz_geti (z := S 1070 3) zd_11_7_173 zf_Text_25 zT_1070 rfl (zz_ltn hn rfl) rfl ?_
  refine zz_aload_n (x := 1070) rfl zd_11_7_176 ?_
  have g32 := zz_G.r G_S0 1070 2 (-1) 1500 rfl rfl
  refine zz_geti (z := S0 1070 2) zd_11_7_177 zf_Text_22 zT_1070 rfl (zz_ltn hn rfl) (zz_rc F_S rfl rfl (fun h => h) rfl) ?_
  refine zz_icmp_ge (by omega) (by omega) zd_11_7_180 (fun c33 => ?_) (fun c33 => ?_)
  · refine zz_aload_n (x := 1070) rfl zd_11_7_248 ?_
    refine zz_aload_n (x := 1070) rfl zd_11_7_249 ?_
    refine zz_geti (z := S 1070 3) zd_11_7_250 zf_Text_25 zT_1070 rfl (zz_ltn hn rfl) rfl ?_
    refine zz_aload_n (x := 1070) rfl zd_11_7_253 ?_
    have g34 := zz_G.r G_S 1070 5 0 1500 rfl rfl
    refine zz_geti (z := S 1070 5) zd_11_7_254 zf_Text_31 zT_1070 rfl (zz_ltn hn rfl) rfl ?_
    refine zz_icmp_le (by omega) (by omega) zd_11_7_257 (fun c35 => ?_) (fun c35 => ?_)
    · refine zz_iconst zd_11_7_277 ?_
      refine zz_puti zd_11_7_278 zf_Text_28 zT_1070 rfl (zz_ltn hn rfl) (fun S36 qS36 => ?_)
      have G_S36 := zz_G.put G_S qS36 (-2147483648) 2147483647 rfl (by omega)
      have F_S36 := zz_fr.puts F_S qS36 rfl
      exact zz_vret zd_11_7_281 rfl (Nat.zero_le _) (Nat.zero_le _) ⟨_, rfl, G_S36, F_S36⟩
    · refine zz_aload_n (x := 1070) rfl zd_11_7_260 ?_
      refine zz_geti (z := S 1070 3) zd_11_7_261 zf_Text_25 zT_1070 rfl (zz_ltn hn rfl) rfl ?_
      refine zz_aload_n (x := 1070) rfl zd_11_7_264 ?_
      refine zz_geti (z := S 1070 5) zd_11_7_265 zf_Text_31 zT_1070 rfl (zz_ltn hn rfl) rfl ?_
      refine zz_isub zd_11_7_268 ?_
      refine zz_iconst zd_11_7_269 ?_
      refine zz_icmp_gt (by omega) (by omega) zd_11_7_270 (fun c37 => ?_) (fun c37 => ?_)
      · refine zz_iconst zd_11_7_277 ?_
        refine zz_puti zd_11_7_278 zf_Text_28 zT_1070 rfl (zz_ltn hn rfl) (fun S38 qS38 => ?_)
        have G_S38 := zz_G.put G_S qS38 (-2147483648) 2147483647 rfl (by omega)
        have F_S38 := zz_fr.puts F_S qS38 rfl
        exact zz_vret zd_11_7_281 rfl (Nat.zero_le _) (Nat.zero_le _) ⟨_, rfl, G_S38, F_S38⟩
      · refine zz_iconst zd_11_7_273 ?_
        refine zz_goto zd_11_7_274 ?_
        refine zz_puti zd_11_7_278 zf_Text_28 zT_1070 rfl (zz_ltn hn rfl) (fun S39 qS39 => ?_)
        have G_S39 := zz_G.put G_S qS39 (-2147483648) 2147483647 rfl (by omega)
        have F_S39 := zz_fr.puts F_S qS39 rfl
        exact zz_vret zd_11_7_281 rfl (Nat.zero_le _) (Nat.zero_le _) ⟨_, rfl, G_S39, F_S39⟩
  · refine zz_aload_n (x := 1070) rfl zd_11_7_183 ?_
    refine zz_getr (kd := 0) (z := 1071) zd_11_7_184 zf_Text_9 zT_1070 rfl (zz_ltn hn rfl) (zz_G.eq G_S 1070 0 1071 rfl rfl) (by decide) 1071 rfl ?_
    refine zz_aload_n (x := 1070) rfl zd_11_7_187 ?_
    refine zz_geti (z := S 1070 3) zd_11_7_188 zf_Text_25 zT_1070 rfl (zz_ltn hn rfl) rfl ?_
    have g40 := zz_G.r G_S0 1071 ((S 1070 3).toNat) 0 65535 rfl rfl
    refine zz_cald (z := S0 1071 ((S 1070 3).toNat)) zd_11_7_191 zT_1071 rfl (zz_ltn hn rfl) (by decide) (by omega) (zz_rc F_S (zz_nc1 rfl) rfl (fun h => h) rfl) ?_
    refine zz_bipush (by decide) zd_11_7_192 ?_
    refine zz_icmp_lt (by omega) (by omega) zd_11_7_194 (fun c41 => ?_) (fun c41 => ?_)
    · refine zz_aload_n (x := 1070) rfl zd_11_7_248 ?_
      refine zz_aload_n (x := 1070) rfl zd_11_7_249 ?_
      refine zz_geti (z := S 1070 3) zd_11_7_250 zf_Text_25 zT_1070 rfl (zz_ltn hn rfl) rfl ?_
      refine zz_aload_n (x := 1070) rfl zd_11_7_253 ?_
      have g42 := zz_G.r G_S 1070 5 0 1500 rfl rfl
      refine zz_geti (z := S 1070 5) zd_11_7_254 zf_Text_31 zT_1070 rfl (zz_ltn hn rfl) rfl ?_
      refine zz_icmp_le (by omega) (by omega) zd_11_7_257 (fun c43 => ?_) (fun c43 => ?_)
      · refine zz_iconst zd_11_7_277 ?_
        refine zz_puti zd_11_7_278 zf_Text_28 zT_1070 rfl (zz_ltn hn rfl) (fun S44 qS44 => ?_)
        have G_S44 := zz_G.put G_S qS44 (-2147483648) 2147483647 rfl (by omega)
        have F_S44 := zz_fr.puts F_S qS44 rfl
        exact zz_vret zd_11_7_281 rfl (Nat.zero_le _) (Nat.zero_le _) ⟨_, rfl, G_S44, F_S44⟩
      · refine zz_aload_n (x := 1070) rfl zd_11_7_260 ?_
        refine zz_geti (z := S 1070 3) zd_11_7_261 zf_Text_25 zT_1070 rfl (zz_ltn hn rfl) rfl ?_
        refine zz_aload_n (x := 1070) rfl zd_11_7_264 ?_
        refine zz_geti (z := S 1070 5) zd_11_7_265 zf_Text_31 zT_1070 rfl (zz_ltn hn rfl) rfl ?_
        refine zz_isub zd_11_7_268 ?_
        refine zz_iconst zd_11_7_269 ?_
        refine zz_icmp_gt (by omega) (by omega) zd_11_7_270 (fun c45 => ?_) (fun c45 => ?_)
        · refine zz_iconst zd_11_7_277 ?_
          refine zz_puti zd_11_7_278 zf_Text_28 zT_1070 rfl (zz_ltn hn rfl) (fun S46 qS46 => ?_)
          have G_S46 := zz_G.put G_S qS46 (-2147483648) 2147483647 rfl (by omega)
          have F_S46 := zz_fr.puts F_S qS46 rfl
          exact zz_vret zd_11_7_281 rfl (Nat.zero_le _) (Nat.zero_le _) ⟨_, rfl, G_S46, F_S46⟩
        · refine zz_iconst zd_11_7_273 ?_
          refine zz_goto zd_11_7_274 ?_
          refine zz_puti zd_11_7_278 zf_Text_28 zT_1070 rfl (zz_ltn hn rfl) (fun S47 qS47 => ?_)
          have G_S47 := zz_G.put G_S qS47 (-2147483648) 2147483647 rfl (by omega)
          have F_S47 := zz_fr.puts F_S qS47 rfl
          exact zz_vret zd_11_7_281 rfl (Nat.zero_le _) (Nat.zero_le _) ⟨_, rfl, G_S47, F_S47⟩
    · refine zz_aload_n (x := 1070) rfl zd_11_7_197 ?_
      refine zz_getr (kd := 0) (z := 1071) zd_11_7_198 zf_Text_9 zT_1070 rfl (zz_ltn hn rfl) (zz_G.eq G_S 1070 0 1071 rfl rfl) (by decide) 1071 rfl ?_
      refine zz_aload_n (x := 1070) rfl zd_11_7_201 ?_
      refine zz_geti (z := S 1070 3) zd_11_7_202 zf_Text_25 zT_1070 rfl (zz_ltn hn rfl) rfl ?_
      refine zz_cald (z := S0 1071 ((S 1070 3).toNat)) zd_11_7_205 zT_1071 rfl (zz_ltn hn rfl) (by decide) (by omega) (zz_rc F_S (zz_nc1 rfl) rfl (fun h => h) rfl) ?_
      refine zz_bipush (by decide) zd_11_7_206 ?_
      refine zz_icmp_gt (by omega) (by omega) zd_11_7_208 (fun c48 => ?_) (fun c48 => ?_)
      · refine zz_aload_n (x := 1070) rfl zd_11_7_248 ?_
        refine zz_aload_n (x := 1070) rfl zd_11_7_249 ?_
        refine zz_geti (z := S 1070 3) zd_11_7_250 zf_Text_25 zT_1070 rfl (zz_ltn hn rfl) rfl ?_
        refine zz_aload_n (x := 1070) rfl zd_11_7_253 ?_
        have g49 := zz_G.r G_S 1070 5 0 1500 rfl rfl
        refine zz_geti (z := S 1070 5) zd_11_7_254 zf_Text_31 zT_1070 rfl (zz_ltn hn rfl) rfl ?_
        refine zz_icmp_le (by omega) (by omega) zd_11_7_257 (fun c50 => ?_) (fun c50 => ?_)
        · refine zz_iconst zd_11_7_277 ?_
          refine zz_puti zd_11_7_278 zf_Text_28 zT_1070 rfl (zz_ltn hn rfl) (fun S51 qS51 => ?_)
          have G_S51 := zz_G.put G_S qS51 (-2147483648) 2147483647 rfl (by omega)
          have F_S51 := zz_fr.puts F_S qS51 rfl
          exact zz_vret zd_11_7_281 rfl (Nat.zero_le _) (Nat.zero_le _) ⟨_, rfl, G_S51, F_S51⟩
        · refine zz_aload_n (x := 1070) rfl zd_11_7_260 ?_
          refine zz_geti (z := S 1070 3) zd_11_7_261 zf_Text_25 zT_1070 rfl (zz_ltn hn rfl) rfl ?_
          refine zz_aload_n (x := 1070) rfl zd_11_7_264 ?_
          refine zz_geti (z := S 1070 5) zd_11_7_265 zf_Text_31 zT_1070 rfl (zz_ltn hn rfl) rfl ?_
          refine zz_isub zd_11_7_268 ?_
          refine zz_iconst zd_11_7_269 ?_
          refine zz_icmp_gt (by omega) (by omega) zd_11_7_270 (fun c52 => ?_) (fun c52 => ?_)
          · refine zz_iconst zd_11_7_277 ?_
            refine zz_puti zd_11_7_278 zf_Text_28 zT_1070 rfl (zz_ltn hn rfl) (fun S53 qS53 => ?_)
            have G_S53 := zz_G.put G_S qS53 (-2147483648) 2147483647 rfl (by omega)
            have F_S53 := zz_fr.puts F_S qS53 rfl
            exact zz_vret zd_11_7_281 rfl (Nat.zero_le _) (Nat.zero_le _) ⟨_, rfl, G_S53, F_S53⟩
          · refine zz_iconst zd_11_7_273 ?_
            refine zz_goto zd_11_7_274 ?_
            refine zz_puti zd_11_7_278 zf_Text_28 zT_1070 rfl (zz_ltn hn rfl) (fun S54 qS54 => ?_)
            have G_S54 := zz_G.put G_S qS54 (-2147483648) 2147483647 rfl (by omega)
            have F_S54 := zz_fr.puts F_S qS54 rfl
            exact zz_vret zd_11_7_281 rfl (Nat.zero_le _) (Nat.zero_le _) ⟨_, rfl, G_S54, F_S54⟩
      · refine zz_aload_n (x := 1070) rfl zd_11_7_211 ?_
        refine zz_bipush (by decide) zd_11_7_212 ?_
        refine zz_aload_n (x := 1070) rfl zd_11_7_214 ?_
        have g55 := zz_G.r G_S 1070 6 (-2147483648) 2147483647 rfl rfl
        refine zz_geti (z := S 1070 6) zd_11_7_215 zf_Text_34 zT_1070 rfl (zz_ltn hn rfl) rfl ?_
        refine zz_imul zd_11_7_218 ?_
        refine zz_nrm (fun v56 hv56 ev56 => ?_)
        refine zz_aload_n (x := 1070) rfl zd_11_7_219 ?_
        refine zz_getr (kd := 0) (z := 1071) zd_11_7_220 zf_Text_9 zT_1070 rfl (zz_ltn hn rfl) (zz_G.eq G_S 1070 0 1071 rfl rfl) (by decide) 1071 rfl ?_
        refine zz_aload_n (x := 1070) rfl zd_11_7_223 ?_
        refine zz_geti (z := S 1070 3) zd_11_7_224 zf_Text_25 zT_1070 rfl (zz_ltn hn rfl) rfl ?_
        refine zz_cald (z := S0 1071 ((S 1070 3).toNat)) zd_11_7_227 zT_1071 rfl (zz_ltn hn rfl) (by decide) (by omega) (zz_rc F_S (zz_nc1 rfl) rfl (fun h => h) rfl) ?_
        refine zz_iadd zd_11_7_228 ?_
        refine zz_nrm (fun v57 hv57 ev57 => ?_)
        refine zz_bipush (by decide) zd_11_7_229 ?_
        refine zz_isub zd_11_7_231 ?_
        refine zz_nrm (fun v58 hv58 ev58 => ?_)
        refine zz_puti zd_11_7_232 zf_Text_34 zT_1070 rfl (zz_ltn hn rfl) (fun S59 qS59 => ?_)
        have G_S59 := zz_G.put G_S qS59 (-2147483648) 2147483647 rfl (by omega)
        have F_S59 := zz_fr.puts F_S qS59 rfl
        refine zz_aload_n (x := 1070) rfl zd_11_7_235 ?_
        refine zz_dup rfl zd_11_7_236 ?_
        refine zz_geti (z := S 1070 3) zd_11_7_237 zf_Text_25 zT_1070 rfl (zz_ltn hn rfl) (zz_ro qS59 (fun h => absurd h.2 (by decide)) rfl) ?_
        refine zz_iconst zd_11_7_240 ?_
        refine zz_iadd zd_11_7_241 ?_
        refine zz_puti zd_11_7_242 zf_Text_25 zT_1070 rfl (zz_ltn hn rfl) (fun S60 qS60 => ?_)
        have G_S60 := zz_G.put G_S59 qS60 0 1500 rfl (by omega)
        have F_S60 := zz_fr.puts F_S59 qS60 rfl
        refine zz_goto zd_11_7_245 ?_
        have e61 : S60 1070 3 = (S 1070 3) + 1 := (zz_rs qS60)
        exact k172 S60 G_S60 F_S60 (by omega) (by omega)
theorem zi_nextToken_11_7 {g : mm_G} {l : Launch}  (S0 : zz_S) (n : Nat) (hn : zz_end ≤ n) (G_S0 : zz_G S0)  : ∀ N : Nat, (∀  (S : zz_S), zz_G S → zz_fr [(1070, 3), (1070, 4), (1070, 5), (1070, 6)] [] (fun _ _ => False) S0 S → (S0 1070 3 < S0 1070 2) → (S0 1071 ((S0 1070 3).toNat) = 32) → (51539607552 + (S0 1070 2 - S 1070 3).toNat) < N → zz_E g l zy_nextToken_11_7 zr_nextToken_11_7 (zz_QV n (zp_nextToken_11_7  S0)) S n 0 [some (.ref 1070)] [] 0 0) ∧ (∀  (S : zz_S), zz_G S → zz_fr [(1070, 3), (1070, 4), (1070, 5), (1070, 6)] [] (fun _ _ => False) S0 S → (S0 1070 3 < S0 1070 2) → (34359738368 + (S0 1070 2 - S 1070 3).toNat) < N → zz_E g l zy_nextToken_11_7 zr_nextToken_11_7 (zz_QV n (zp_nextToken_11_7  S0)) S n 112 [some (.ref 1070)] [] 0 0) ∧ (∀  (S : zz_S), zz_G S → zz_fr [(1070, 3), (1070, 4), (1070, 5), (1070, 6)] [] (fun _ _ => False) S0 S → (S0 1070 3 < S0 1070 2) → (17179869184 + (S0 1070 2 - S 1070 3).toNat) < N → zz_E g l zy_nextToken_11_7 zr_nextToken_11_7 (zz_QV n (zp_nextToken_11_7  S0)) S n 172 [some (.ref 1070)] [] 0 0) := by
  intro N
  induction N with
  | zero => exact ⟨fun  S _ _ _ _ h => absurd h (Nat.not_lt_zero _), fun  S _ _ _ h => absurd h (Nat.not_lt_zero _), fun  S _ _ _ h => absurd h (Nat.not_lt_zero _)⟩
  | succ N ih =>
    exact ⟨fun  S a b j0 j1 hR => zb_nextToken_11_7_0  S0 n hn G_S0   S a b j0 j1 _ rfl (fun  S a b j0 j1 h => ih.1  S a b j0 j1 (Nat.lt_of_lt_of_le h (Nat.le_of_lt_succ hR))) (fun  S a b j0 h => ih.2.1  S a b j0 (Nat.lt_of_lt_of_le h (Nat.le_of_lt_succ hR))) (fun  S a b j0 h => ih.2.2  S a b j0 (Nat.lt_of_lt_of_le h (Nat.le_of_lt_succ hR))),
      fun  S a b j0 hR => zb_nextToken_11_7_112  S0 n hn G_S0   S a b j0 _ rfl (fun  S a b j0 h => ih.2.1  S a b j0 (Nat.lt_of_lt_of_le h (Nat.le_of_lt_succ hR))),
      fun  S a b j0 hR => zb_nextToken_11_7_172  S0 n hn G_S0   S a b j0 _ rfl (fun  S a b j0 h => ih.2.2  S a b j0 (Nat.lt_of_lt_of_le h (Nat.le_of_lt_succ hR)))⟩
theorem zc_nextToken_11_7 {g : mm_G} {l : Launch}  (S0 : zz_S) (n : Nat) (hn : zz_end ≤ n) (G_S0 : zz_G S0)  : mm_Met g l zy_nextToken_11_7 zr_nextToken_11_7 [.ref 1070] (zz_M S0 n) n (zz_QV n (zp_nextToken_11_7  S0)) := by
  refine zz_enter (by decide) (Nat.le_of_ble_eq_true rfl) (zz_less (ls1 := [some (.ref 1070)]) ⟨rfl, trivial⟩ ?_)
  have F_S0 : zz_fr [(1070, 3), (1070, 4), (1070, 5), (1070, 6)] [] (fun _ _ => False) S0 S0 := zz_fr.refl
  have k0 : ∀  (S : zz_S), zz_G S → zz_fr [(1070, 3), (1070, 4), (1070, 5), (1070, 6)] [] (fun _ _ => False) S0 S → (S0 1070 3 < S0 1070 2) → (S0 1071 ((S0 1070 3).toNat) = 32) → zz_E g l zy_nextToken_11_7 zr_nextToken_11_7 (zz_QV n (zp_nextToken_11_7  S0)) S n 0 [some (.ref 1070)] [] 0 0 := fun  S a b j0 j1 => (zi_nextToken_11_7 (g := g) (l := l)  S0 n hn G_S0  _).1  S a b j0 j1 (Nat.lt_succ_self _)
  have k112 : ∀  (S : zz_S), zz_G S → zz_fr [(1070, 3), (1070, 4), (1070, 5), (1070, 6)] [] (fun _ _ => False) S0 S → (S0 1070 3 < S0 1070 2) → zz_E g l zy_nextToken_11_7 zr_nextToken_11_7 (zz_QV n (zp_nextToken_11_7  S0)) S n 112 [some (.ref 1070)] [] 0 0 := fun  S a b j0 => (zi_nextToken_11_7 (g := g) (l := l)  S0 n hn G_S0  _).2.1  S a b j0 (Nat.lt_succ_self _)
  have k172 : ∀  (S : zz_S), zz_G S → zz_fr [(1070, 3), (1070, 4), (1070, 5), (1070, 6)] [] (fun _ _ => False) S0 S → (S0 1070 3 < S0 1070 2) → zz_E g l zy_nextToken_11_7 zr_nextToken_11_7 (zz_QV n (zp_nextToken_11_7  S0)) S n 172 [some (.ref 1070)] [] 0 0 := fun  S a b j0 => (zi_nextToken_11_7 (g := g) (l := l)  S0 n hn G_S0  _).2.2  S a b j0 (Nat.lt_succ_self _)
  refine zz_aload_n (x := 1070) rfl zd_11_7_0 ?_
  have g1 := zz_G.r G_S0 1070 3 0 1500 rfl rfl
  refine zz_geti (z := S0 1070 3) zd_11_7_1 zf_Text_25 zT_1070 rfl (zz_ltn hn rfl) rfl ?_
  refine zz_aload_n (x := 1070) rfl zd_11_7_4 ?_
  have g2 := zz_G.r G_S0 1070 2 (-1) 1500 rfl rfl
  refine zz_geti (z := S0 1070 2) zd_11_7_5 zf_Text_22 zT_1070 rfl (zz_ltn hn rfl) rfl ?_
  refine zz_icmp_ge (by omega) (by omega) zd_11_7_8 (fun c3 => ?_) (fun c3 => ?_)
  · refine zz_aload_n (x := 1070) rfl zd_11_7_38 ?_
    refine zz_aload_n (x := 1070) rfl zd_11_7_39 ?_
    refine zz_geti (z := S0 1070 3) zd_11_7_40 zf_Text_25 zT_1070 rfl (zz_ltn hn rfl) rfl ?_
    refine zz_puti zd_11_7_43 zf_Text_31 zT_1070 rfl (zz_ltn hn rfl) (fun S4 qS4 => ?_)
    have G_S4 := zz_G.put G_S0 qS4 0 1500 rfl (by omega)
    have F_S4 := zz_fr.puts F_S0 qS4 rfl
    refine zz_aload_n (x := 1070) rfl zd_11_7_46 ?_
    refine zz_iconst zd_11_7_47 ?_
    refine zz_puti zd_11_7_48 zf_Text_34 zT_1070 rfl (zz_ltn hn rfl) (fun S5 qS5 => ?_)
    have G_S5 := zz_G.put G_S4 qS5 (-2147483648) 2147483647 rfl (by omega)
    have F_S5 := zz_fr.puts F_S4 qS5 rfl
    refine zz_aload_n (x := 1070) rfl zd_11_7_51 ?_
    refine zz_geti (z := S0 1070 3) zd_11_7_52 zf_Text_25 zT_1070 rfl (zz_ltn hn rfl) (zz_ro qS5 (fun h => absurd h.2 (by decide)) (zz_ro qS4 (fun h => absurd h.2 (by decide)) rfl)) ?_
    refine zz_aload_n (x := 1070) rfl zd_11_7_55 ?_
    refine zz_geti (z := S0 1070 2) zd_11_7_56 zf_Text_22 zT_1070 rfl (zz_ltn hn rfl) (zz_ro qS5 (fun h => absurd h.2 (by decide)) (zz_ro qS4 (fun h => absurd h.2 (by decide)) rfl)) ?_
    refine zz_icmp_ge (by omega) (by omega) zd_11_7_59 (fun c6 => ?_) (fun c6 => ?_)
    · refine zz_aload_n (x := 1070) rfl zd_11_7_76 ?_
      refine zz_iconst zd_11_7_77 ?_
      refine zz_puti zd_11_7_78 zf_Text_28 zT_1070 rfl (zz_ltn hn rfl) (fun S7 qS7 => ?_)
      have G_S7 := zz_G.put G_S5 qS7 (-2147483648) 2147483647 rfl (by omega)
      have F_S7 := zz_fr.puts F_S5 qS7 rfl
      refine zz_goto zd_11_7_81 ?_
      exact zz_vret zd_11_7_281 rfl (Nat.zero_le _) (Nat.zero_le _) ⟨_, rfl, G_S7, F_S7⟩
    · refine zz_aload_n (x := 1070) rfl zd_11_7_62 ?_
      refine zz_getr (kd := 0) (z := 1071) zd_11_7_63 zf_Text_9 zT_1070 rfl (zz_ltn hn rfl) (zz_G.eq G_S5 1070 0 1071 rfl rfl) (by decide) 1071 rfl ?_
      refine zz_aload_n (x := 1070) rfl zd_11_7_66 ?_
      refine zz_geti (z := S0 1070 3) zd_11_7_67 zf_Text_25 zT_1070 rfl (zz_ltn hn rfl) (zz_ro qS5 (fun h => absurd h.2 (by decide)) (zz_ro qS4 (fun h => absurd h.2 (by decide)) rfl)) ?_
      have g8 := zz_G.r G_S0 1071 ((S0 1070 3).toNat) 0 65535 rfl rfl
      refine zz_cald (z := S0 1071 ((S0 1070 3).toNat)) zd_11_7_70 zT_1071 rfl (zz_ltn hn rfl) (by decide) (by omega) (zz_ro qS5 (fun h => absurd h.1 (by decide)) (zz_ro qS4 (fun h => absurd h.1 (by decide)) rfl)) ?_
      refine zz_bipush (by decide) zd_11_7_71 ?_
      refine zz_icmp_ne (by omega) (by omega) zd_11_7_73 (fun c9 => ?_) (fun c9 => ?_)
      · refine zz_aload_n (x := 1070) rfl zd_11_7_84 ?_
        refine zz_getr (kd := 0) (z := 1071) zd_11_7_85 zf_Text_9 zT_1070 rfl (zz_ltn hn rfl) (zz_G.eq G_S5 1070 0 1071 rfl rfl) (by decide) 1071 rfl ?_
        refine zz_aload_n (x := 1070) rfl zd_11_7_88 ?_
        refine zz_geti (z := S0 1070 3) zd_11_7_89 zf_Text_25 zT_1070 rfl (zz_ltn hn rfl) (zz_ro qS5 (fun h => absurd h.2 (by decide)) (zz_ro qS4 (fun h => absurd h.2 (by decide)) rfl)) ?_
        refine zz_cald (z := S0 1071 ((S0 1070 3).toNat)) zd_11_7_92 zT_1071 rfl (zz_ltn hn rfl) (by decide) (by omega) (zz_ro qS5 (fun h => absurd h.1 (by decide)) (zz_ro qS4 (fun h => absurd h.1 (by decide)) rfl)) ?_
        refine zz_bipush (by decide) zd_11_7_93 ?_
        refine zz_icmp_lt (by omega) (by omega) zd_11_7_95 (fun c10 => ?_) (fun c10 => ?_)
        · have e11 : S5 1070 3 = S0 1070 3 := (zz_ro qS5 (fun h => absurd h.2 (by decide)) (zz_ro qS4 (fun h => absurd h.2 (by decide)) rfl))
          exact k172 S5 G_S5 F_S5 (by omega)
        · refine zz_aload_n (x := 1070) rfl zd_11_7_98 ?_
          refine zz_getr (kd := 0) (z := 1071) zd_11_7_99 zf_Text_9 zT_1070 rfl (zz_ltn hn rfl) (zz_G.eq G_S5 1070 0 1071 rfl rfl) (by decide) 1071 rfl ?_
          refine zz_aload_n (x := 1070) rfl zd_11_7_102 ?_
          refine zz_geti (z := S0 1070 3) zd_11_7_103 zf_Text_25 zT_1070 rfl (zz_ltn hn rfl) (zz_ro qS5 (fun h => absurd h.2 (by decide)) (zz_ro qS4 (fun h => absurd h.2 (by decide)) rfl)) ?_
          refine zz_cald (z := S0 1071 ((S0 1070 3).toNat)) zd_11_7_106 zT_1071 rfl (zz_ltn hn rfl) (by decide) (by omega) (zz_ro qS5 (fun h => absurd h.1 (by decide)) (zz_ro qS4 (fun h => absurd h.1 (by decide)) rfl)) ?_
          refine zz_bipush (by decide) zd_11_7_107 ?_
          refine zz_icmp_gt (by omega) (by omega) zd_11_7_109 (fun c12 => ?_) (fun c12 => ?_)
          · have e13 : S5 1070 3 = S0 1070 3 := (zz_ro qS5 (fun h => absurd h.2 (by decide)) (zz_ro qS4 (fun h => absurd h.2 (by decide)) rfl))
            exact k172 S5 G_S5 F_S5 (by omega)
          · have e14 : S5 1070 3 = S0 1070 3 := (zz_ro qS5 (fun h => absurd h.2 (by decide)) (zz_ro qS4 (fun h => absurd h.2 (by decide)) rfl))
            exact k112 S5 G_S5 F_S5 (by omega)
      · refine zz_aload_n (x := 1070) rfl zd_11_7_76 ?_
        refine zz_iconst zd_11_7_77 ?_
        refine zz_puti zd_11_7_78 zf_Text_28 zT_1070 rfl (zz_ltn hn rfl) (fun S15 qS15 => ?_)
        have G_S15 := zz_G.put G_S5 qS15 (-2147483648) 2147483647 rfl (by omega)
        have F_S15 := zz_fr.puts F_S5 qS15 rfl
        refine zz_goto zd_11_7_81 ?_
        exact zz_vret zd_11_7_281 rfl (Nat.zero_le _) (Nat.zero_le _) ⟨_, rfl, G_S15, F_S15⟩
  · refine zz_aload_n (x := 1070) rfl zd_11_7_11 ?_
    refine zz_getr (kd := 0) (z := 1071) zd_11_7_12 zf_Text_9 zT_1070 rfl (zz_ltn hn rfl) (zz_G.eq G_S0 1070 0 1071 rfl rfl) (by decide) 1071 rfl ?_
    refine zz_aload_n (x := 1070) rfl zd_11_7_15 ?_
    refine zz_geti (z := S0 1070 3) zd_11_7_16 zf_Text_25 zT_1070 rfl (zz_ltn hn rfl) rfl ?_
    have g16 := zz_G.r G_S0 1071 ((S0 1070 3).toNat) 0 65535 rfl rfl
    refine zz_cald (z := S0 1071 ((S0 1070 3).toNat)) zd_11_7_19 zT_1071 rfl (zz_ltn hn rfl) (by decide) (by omega) rfl ?_
    refine zz_bipush (by decide) zd_11_7_20 ?_
    refine zz_icmp_ne (by omega) (by omega) zd_11_7_22 (fun c17 => ?_) (fun c17 => ?_)
    · refine zz_aload_n (x := 1070) rfl zd_11_7_38 ?_
      refine zz_aload_n (x := 1070) rfl zd_11_7_39 ?_
      refine zz_geti (z := S0 1070 3) zd_11_7_40 zf_Text_25 zT_1070 rfl (zz_ltn hn rfl) rfl ?_
      refine zz_puti zd_11_7_43 zf_Text_31 zT_1070 rfl (zz_ltn hn rfl) (fun S18 qS18 => ?_)
      have G_S18 := zz_G.put G_S0 qS18 0 1500 rfl (by omega)
      have F_S18 := zz_fr.puts F_S0 qS18 rfl
      refine zz_aload_n (x := 1070) rfl zd_11_7_46 ?_
      refine zz_iconst zd_11_7_47 ?_
      refine zz_puti zd_11_7_48 zf_Text_34 zT_1070 rfl (zz_ltn hn rfl) (fun S19 qS19 => ?_)
      have G_S19 := zz_G.put G_S18 qS19 (-2147483648) 2147483647 rfl (by omega)
      have F_S19 := zz_fr.puts F_S18 qS19 rfl
      refine zz_aload_n (x := 1070) rfl zd_11_7_51 ?_
      refine zz_geti (z := S0 1070 3) zd_11_7_52 zf_Text_25 zT_1070 rfl (zz_ltn hn rfl) (zz_ro qS19 (fun h => absurd h.2 (by decide)) (zz_ro qS18 (fun h => absurd h.2 (by decide)) rfl)) ?_
      refine zz_aload_n (x := 1070) rfl zd_11_7_55 ?_
      refine zz_geti (z := S0 1070 2) zd_11_7_56 zf_Text_22 zT_1070 rfl (zz_ltn hn rfl) (zz_ro qS19 (fun h => absurd h.2 (by decide)) (zz_ro qS18 (fun h => absurd h.2 (by decide)) rfl)) ?_
      refine zz_icmp_ge (by omega) (by omega) zd_11_7_59 (fun c20 => ?_) (fun c20 => ?_)
      · refine zz_aload_n (x := 1070) rfl zd_11_7_76 ?_
        refine zz_iconst zd_11_7_77 ?_
        refine zz_puti zd_11_7_78 zf_Text_28 zT_1070 rfl (zz_ltn hn rfl) (fun S21 qS21 => ?_)
        have G_S21 := zz_G.put G_S19 qS21 (-2147483648) 2147483647 rfl (by omega)
        have F_S21 := zz_fr.puts F_S19 qS21 rfl
        refine zz_goto zd_11_7_81 ?_
        exact zz_vret zd_11_7_281 rfl (Nat.zero_le _) (Nat.zero_le _) ⟨_, rfl, G_S21, F_S21⟩
      · refine zz_aload_n (x := 1070) rfl zd_11_7_62 ?_
        refine zz_getr (kd := 0) (z := 1071) zd_11_7_63 zf_Text_9 zT_1070 rfl (zz_ltn hn rfl) (zz_G.eq G_S19 1070 0 1071 rfl rfl) (by decide) 1071 rfl ?_
        refine zz_aload_n (x := 1070) rfl zd_11_7_66 ?_
        refine zz_geti (z := S0 1070 3) zd_11_7_67 zf_Text_25 zT_1070 rfl (zz_ltn hn rfl) (zz_ro qS19 (fun h => absurd h.2 (by decide)) (zz_ro qS18 (fun h => absurd h.2 (by decide)) rfl)) ?_
        refine zz_cald (z := S0 1071 ((S0 1070 3).toNat)) zd_11_7_70 zT_1071 rfl (zz_ltn hn rfl) (by decide) (by omega) (zz_ro qS19 (fun h => absurd h.1 (by decide)) (zz_ro qS18 (fun h => absurd h.1 (by decide)) rfl)) ?_
        refine zz_bipush (by decide) zd_11_7_71 ?_
        refine zz_icmp_ne (by omega) (by omega) zd_11_7_73 (fun c22 => ?_) (fun c22 => ?_)
        · refine zz_aload_n (x := 1070) rfl zd_11_7_84 ?_
          refine zz_getr (kd := 0) (z := 1071) zd_11_7_85 zf_Text_9 zT_1070 rfl (zz_ltn hn rfl) (zz_G.eq G_S19 1070 0 1071 rfl rfl) (by decide) 1071 rfl ?_
          refine zz_aload_n (x := 1070) rfl zd_11_7_88 ?_
          refine zz_geti (z := S0 1070 3) zd_11_7_89 zf_Text_25 zT_1070 rfl (zz_ltn hn rfl) (zz_ro qS19 (fun h => absurd h.2 (by decide)) (zz_ro qS18 (fun h => absurd h.2 (by decide)) rfl)) ?_
          refine zz_cald (z := S0 1071 ((S0 1070 3).toNat)) zd_11_7_92 zT_1071 rfl (zz_ltn hn rfl) (by decide) (by omega) (zz_ro qS19 (fun h => absurd h.1 (by decide)) (zz_ro qS18 (fun h => absurd h.1 (by decide)) rfl)) ?_
          refine zz_bipush (by decide) zd_11_7_93 ?_
          refine zz_icmp_lt (by omega) (by omega) zd_11_7_95 (fun c23 => ?_) (fun c23 => ?_)
          · have e24 : S19 1070 3 = S0 1070 3 := (zz_ro qS19 (fun h => absurd h.2 (by decide)) (zz_ro qS18 (fun h => absurd h.2 (by decide)) rfl))
            exact k172 S19 G_S19 F_S19 (by omega)
          · refine zz_aload_n (x := 1070) rfl zd_11_7_98 ?_
            refine zz_getr (kd := 0) (z := 1071) zd_11_7_99 zf_Text_9 zT_1070 rfl (zz_ltn hn rfl) (zz_G.eq G_S19 1070 0 1071 rfl rfl) (by decide) 1071 rfl ?_
            refine zz_aload_n (x := 1070) rfl zd_11_7_102 ?_
            refine zz_geti (z := S0 1070 3) zd_11_7_103 zf_Text_25 zT_1070 rfl (zz_ltn hn rfl) (zz_ro qS19 (fun h => absurd h.2 (by decide)) (zz_ro qS18 (fun h => absurd h.2 (by decide)) rfl)) ?_
            refine zz_cald (z := S0 1071 ((S0 1070 3).toNat)) zd_11_7_106 zT_1071 rfl (zz_ltn hn rfl) (by decide) (by omega) (zz_ro qS19 (fun h => absurd h.1 (by decide)) (zz_ro qS18 (fun h => absurd h.1 (by decide)) rfl)) ?_
            refine zz_bipush (by decide) zd_11_7_107 ?_
            refine zz_icmp_gt (by omega) (by omega) zd_11_7_109 (fun c25 => ?_) (fun c25 => ?_)
            · have e26 : S19 1070 3 = S0 1070 3 := (zz_ro qS19 (fun h => absurd h.2 (by decide)) (zz_ro qS18 (fun h => absurd h.2 (by decide)) rfl))
              exact k172 S19 G_S19 F_S19 (by omega)
            · have e27 : S19 1070 3 = S0 1070 3 := (zz_ro qS19 (fun h => absurd h.2 (by decide)) (zz_ro qS18 (fun h => absurd h.2 (by decide)) rfl))
              exact k112 S19 G_S19 F_S19 (by omega)
        · refine zz_aload_n (x := 1070) rfl zd_11_7_76 ?_
          refine zz_iconst zd_11_7_77 ?_
          refine zz_puti zd_11_7_78 zf_Text_28 zT_1070 rfl (zz_ltn hn rfl) (fun S28 qS28 => ?_)
          have G_S28 := zz_G.put G_S19 qS28 (-2147483648) 2147483647 rfl (by omega)
          have F_S28 := zz_fr.puts F_S19 qS28 rfl
          refine zz_goto zd_11_7_81 ?_
          exact zz_vret zd_11_7_281 rfl (Nat.zero_le _) (Nat.zero_le _) ⟨_, rfl, G_S28, F_S28⟩
    · refine zz_aload_n (x := 1070) rfl zd_11_7_25 ?_
      refine zz_dup rfl zd_11_7_26 ?_
      refine zz_geti (z := S0 1070 3) zd_11_7_27 zf_Text_25 zT_1070 rfl (zz_ltn hn rfl) rfl ?_
      refine zz_iconst zd_11_7_30 ?_
      refine zz_iadd zd_11_7_31 ?_
      refine zz_puti zd_11_7_32 zf_Text_25 zT_1070 rfl (zz_ltn hn rfl) (fun S29 qS29 => ?_)
      have G_S29 := zz_G.put G_S0 qS29 0 1500 rfl (by omega)
      have F_S29 := zz_fr.puts F_S0 qS29 rfl
      refine zz_goto zd_11_7_35 ?_
      have e30 : S29 1070 3 = (S0 1070 3) + 1 := (zz_rs qS29)
      exact k0 S29 G_S29 F_S29 (by omega) (by omega)
theorem zk_Assembler_35 : mm_Vl "TensorForge$Assembler" 35 6 0 zy_nextToken_11_7 := ⟨zyw_nextToken_11_7, (R_Text, F_Text, 7), rfl, mm_tb_1 569 (by decide +kernel) rfl, mm_tb_1 570 (by decide +kernel) rfl, mm_tb_1 571 (by decide +kernel) rfl⟩
theorem zd_2_2_38 : zz_D zy_readInto_2_2 38 (.aload_n 0) 1 39 := ⟨by decide +kernel, rfl⟩
theorem zd_2_2_39 : zz_D zy_readInto_2_2 39 (.getfield 9) 3 42 := ⟨by decide +kernel, rfl⟩
theorem zd_2_2_42 : zz_D zy_readInto_2_2 42 (.getfield 38) 3 45 := ⟨by decide +kernel, rfl⟩
theorem zf_Assembler_38 : mm_Fl "TensorForge$Assembler" 38 6 4 .int false := ⟨R_Text, F_Text, 7, t_Text, rfl, i_Text, by decide, mm_tb_1 290 (by decide +kernel) rfl, rfl, t_Text_ok, n_Text, rfl, by decide +kernel⟩
theorem zd_2_2_45 : zz_B zy_readInto_2_2 45 (Instr.ifCond .eq) 96 48 := ⟨51, by decide +kernel, rfl, rfl⟩
theorem zd_2_2_96 : zz_D zy_readInto_2_2 96 (.iinc 2 1) 3 99 := ⟨by decide +kernel, rfl⟩
theorem zd_2_2_99 : zz_B zy_readInto_2_2 99 Instr.goto 14 102 := ⟨(-85), by decide +kernel, rfl, rfl⟩
theorem zd_2_2_48 : zz_D zy_readInto_2_2 48 (.aload_n 0) 1 49 := ⟨by decide +kernel, rfl⟩
theorem zd_2_2_49 : zz_D zy_readInto_2_2 49 (.getfield 15) 3 52 := ⟨by decide +kernel, rfl⟩
theorem zd_2_2_52 : zz_D zy_readInto_2_2 52 (.sipush 600) 3 55 := ⟨by decide +kernel, rfl⟩
theorem zd_2_2_55 : zz_B zy_readInto_2_2 55 (Instr.if_icmp .ge) 74 58 := ⟨19, by decide +kernel, rfl, rfl⟩
theorem zd_2_2_74 : zz_D zy_readInto_2_2 74 (.iload_n 2) 1 75 := ⟨by decide +kernel, rfl⟩
theorem zd_2_2_75 : zz_D zy_readInto_2_2 75 (.ireturn) 1 76 := ⟨by decide +kernel, rfl⟩
theorem zd_2_2_58 : zz_D zy_readInto_2_2 58 (.aload_n 0) 1 59 := ⟨by decide +kernel, rfl⟩
theorem zd_2_2_59 : zz_D zy_readInto_2_2 59 (.getfield 15) 3 62 := ⟨by decide +kernel, rfl⟩
theorem zd_2_2_62 : zz_D zy_readInto_2_2 62 (.aload_n 1) 1 63 := ⟨by decide +kernel, rfl⟩
theorem zd_2_2_63 : zz_D zy_readInto_2_2 63 (.arraylength) 1 64 := ⟨by decide +kernel, rfl⟩
theorem zd_2_2_64 : zz_B zy_readInto_2_2 64 (Instr.if_icmp .ge) 74 67 := ⟨10, by decide +kernel, rfl, rfl⟩
theorem zd_2_2_67 : zz_D zy_readInto_2_2 67 (.aload_n 0) 1 68 := ⟨by decide +kernel, rfl⟩
theorem zd_2_2_68 : zz_D zy_readInto_2_2 68 (.invokevirtual 41) 3 71 := ⟨by decide +kernel, rfl⟩
abbrev zy_readInstruction_2_3 : mm_Y := (⟨"TensorForge$Assembler", "readInstruction", "()Z"⟩, prog_2_method_3_code, 3, (some .boolean))
theorem zyw_readInstruction_2_3 : mm_Yw zy_readInstruction_2_3 0 := ⟨mm_tb_1 576 (by decide +kernel) rfl, mm_tb_1 8 (by decide +kernel) rfl, ⟨by decide, by decide⟩, by decide +kernel⟩
theorem zd_2_3_0 : zz_D zy_readInstruction_2_3 0 (.aload_n 0) 1 1 := ⟨by decide +kernel, rfl⟩
theorem zd_2_3_1 : zz_D zy_readInstruction_2_3 1 (.invokevirtual 44) 3 4 := ⟨by decide +kernel, rfl⟩
abbrev zy_kindTold_2_4 : mm_Y := (⟨"TensorForge$Assembler", "kindTold", "()I"⟩, prog_2_method_4_code, 2, (some .int))
theorem zyw_kindTold_2_4 : mm_Yw zy_kindTold_2_4 0 := ⟨mm_tb_1 580 (by decide +kernel) rfl, mm_tb_1 8 (by decide +kernel) rfl, ⟨by decide, by decide⟩, by decide +kernel⟩
theorem zd_2_4_0 : zz_D zy_kindTold_2_4 0 (.iconst 1) 1 1 := ⟨by decide +kernel, rfl⟩
theorem zd_2_4_1 : zz_D zy_kindTold_2_4 1 (.istore_n 1) 1 2 := ⟨by decide +kernel, rfl⟩
theorem zd_2_4_2 : zz_D zy_kindTold_2_4 2 (.iload_n 1) 1 3 := ⟨by decide +kernel, rfl⟩
theorem zd_2_4_3 : zz_D zy_kindTold_2_4 3 (.bipush 9) 2 5 := ⟨by decide +kernel, rfl⟩
theorem zd_2_4_5 : zz_B zy_kindTold_2_4 5 (Instr.if_icmp .gt) 30 8 := ⟨25, by decide +kernel, rfl, rfl⟩
theorem zd_2_4_8 : zz_D zy_kindTold_2_4 8 (.aload_n 0) 1 9 := ⟨by decide +kernel, rfl⟩
theorem zd_2_4_9 : zz_D zy_kindTold_2_4 9 (.getfield 9) 3 12 := ⟨by decide +kernel, rfl⟩
theorem zd_2_4_12 : zz_D zy_kindTold_2_4 12 (.iload_n 1) 1 13 := ⟨by decide +kernel, rfl⟩
theorem zd_2_4_13 : zz_D zy_kindTold_2_4 13 (.invokestatic 57) 3 16 := ⟨by decide +kernel, rfl⟩
abbrev zy_nameOf_12_12 : mm_Y := (⟨"TensorForge$Words", "nameOf", "(I)Ljava/lang/String;"⟩, prog_12_method_12_code, 1, (some (.object "java/lang/String")))
theorem zyw_nameOf_12_12 : mm_Yw zy_nameOf_12_12 1 := ⟨mm_tb_1 583 (by decide +kernel) rfl, mm_tb_1 20 (by decide +kernel) rfl, ⟨by decide, by decide⟩, by decide +kernel⟩
theorem zd_12_12_0 : zz_D zy_nameOf_12_12 0 (.iload_n 0) 1 1 := ⟨by decide +kernel, rfl⟩
theorem zd_12_12_1 : zz_W zy_nameOf_12_12 1 78 1 9 #[51, 54, 57, 60, 63, 66, 69, 72, 75] := ⟨51, by decide +kernel⟩
theorem zd_12_12_52 : zz_D zy_nameOf_12_12 52 (.ldc 35) 2 54 := ⟨by decide +kernel, rfl⟩
theorem zd_12_12_54 : zz_D zy_nameOf_12_12 54 (.areturn) 1 55 := ⟨by decide +kernel, rfl⟩
theorem zd_12_12_55 : zz_D zy_nameOf_12_12 55 (.ldc 37) 2 57 := ⟨by decide +kernel, rfl⟩
theorem zd_12_12_57 : zz_D zy_nameOf_12_12 57 (.areturn) 1 58 := ⟨by decide +kernel, rfl⟩
theorem zd_12_12_58 : zz_D zy_nameOf_12_12 58 (.ldc 39) 2 60 := ⟨by decide +kernel, rfl⟩
theorem zd_12_12_60 : zz_D zy_nameOf_12_12 60 (.areturn) 1 61 := ⟨by decide +kernel, rfl⟩
theorem zd_12_12_61 : zz_D zy_nameOf_12_12 61 (.ldc 41) 2 63 := ⟨by decide +kernel, rfl⟩
theorem zd_12_12_63 : zz_D zy_nameOf_12_12 63 (.areturn) 1 64 := ⟨by decide +kernel, rfl⟩
theorem zd_12_12_64 : zz_D zy_nameOf_12_12 64 (.ldc 43) 2 66 := ⟨by decide +kernel, rfl⟩
theorem zd_12_12_66 : zz_D zy_nameOf_12_12 66 (.areturn) 1 67 := ⟨by decide +kernel, rfl⟩
theorem zd_12_12_67 : zz_D zy_nameOf_12_12 67 (.ldc 45) 2 69 := ⟨by decide +kernel, rfl⟩
theorem zd_12_12_69 : zz_D zy_nameOf_12_12 69 (.areturn) 1 70 := ⟨by decide +kernel, rfl⟩
theorem zd_12_12_70 : zz_D zy_nameOf_12_12 70 (.ldc 47) 2 72 := ⟨by decide +kernel, rfl⟩
theorem zd_12_12_72 : zz_D zy_nameOf_12_12 72 (.areturn) 1 73 := ⟨by decide +kernel, rfl⟩
theorem zd_12_12_73 : zz_D zy_nameOf_12_12 73 (.ldc 49) 2 75 := ⟨by decide +kernel, rfl⟩
theorem zd_12_12_75 : zz_D zy_nameOf_12_12 75 (.areturn) 1 76 := ⟨by decide +kernel, rfl⟩
theorem zd_12_12_76 : zz_D zy_nameOf_12_12 76 (.ldc 51) 2 78 := ⟨by decide +kernel, rfl⟩
theorem zd_12_12_78 : zz_D zy_nameOf_12_12 78 (.areturn) 1 79 := ⟨by decide +kernel, rfl⟩
theorem zd_12_12_79 : zz_D zy_nameOf_12_12 79 (.ldc 53) 2 81 := ⟨by decide +kernel, rfl⟩
theorem zd_12_12_81 : zz_D zy_nameOf_12_12 81 (.areturn) 1 82 := ⟨by decide +kernel, rfl⟩
-- TensorForge$Words nameOf (I)Ljava/lang/String;
abbrev zr_nameOf_12_12 : Room := { frames := 0, cells := 0, slots := 0, locals := 0 }
def zp_nameOf_12_12 (p0 : Int) (S0 : zz_S) : Nat → zz_S → Prop := fun r S => S0 = S ∧ (∃ u : Nat, r = 100 + u ∧ u < 59)
theorem zc_nameOf_12_12 {g : mm_G} {l : Launch} (p0 : Int) (S0 : zz_S) (n : Nat) (hn : zz_end ≤ n) (G_S0 : zz_G S0) (hp0 : (-2147483648) ≤ p0 ∧ p0 ≤ 2147483647) : mm_Met g l zy_nameOf_12_12 zr_nameOf_12_12 [zi p0] (zz_M S0 n) n (zz_QA n (zp_nameOf_12_12 p0 S0)) := by
  refine zz_enter (by decide) (Nat.le_of_ble_eq_true rfl) (zz_less (ls1 := [some (zi p0)]) ⟨rfl, trivial⟩ ?_)
  refine zz_iload_n (x := p0) rfl zd_12_12_0 ?_
  by_cases c1 : p0 = 1
  · refine zz_swIn 1 51 c1 (by decide) zd_12_12_1 rfl rfl ?_
    refine zz_ldcs (t := 0) (by decide +kernel) (by decide) zd_12_12_52 ?_
    exact zz_aret zd_12_12_54 rfl (Nat.zero_le _) (Nat.zero_le _) ⟨_, _, rfl, rfl, ⟨_, rfl, by decide⟩⟩
  by_cases c2 : p0 = 2
  · refine zz_swIn 2 54 c2 (by decide) zd_12_12_1 rfl rfl ?_
    refine zz_ldcs (t := 1) (by decide +kernel) (by decide) zd_12_12_55 ?_
    exact zz_aret zd_12_12_57 rfl (Nat.zero_le _) (Nat.zero_le _) ⟨_, _, rfl, rfl, ⟨_, rfl, by decide⟩⟩
  by_cases c3 : p0 = 3
  · refine zz_swIn 3 57 c3 (by decide) zd_12_12_1 rfl rfl ?_
    refine zz_ldcs (t := 2) (by decide +kernel) (by decide) zd_12_12_58 ?_
    exact zz_aret zd_12_12_60 rfl (Nat.zero_le _) (Nat.zero_le _) ⟨_, _, rfl, rfl, ⟨_, rfl, by decide⟩⟩
  by_cases c4 : p0 = 4
  · refine zz_swIn 4 60 c4 (by decide) zd_12_12_1 rfl rfl ?_
    refine zz_ldcs (t := 3) (by decide +kernel) (by decide) zd_12_12_61 ?_
    exact zz_aret zd_12_12_63 rfl (Nat.zero_le _) (Nat.zero_le _) ⟨_, _, rfl, rfl, ⟨_, rfl, by decide⟩⟩
  by_cases c5 : p0 = 5
  · refine zz_swIn 5 63 c5 (by decide) zd_12_12_1 rfl rfl ?_
    refine zz_ldcs (t := 4) (by decide +kernel) (by decide) zd_12_12_64 ?_
    exact zz_aret zd_12_12_66 rfl (Nat.zero_le _) (Nat.zero_le _) ⟨_, _, rfl, rfl, ⟨_, rfl, by decide⟩⟩
  by_cases c6 : p0 = 6
  · refine zz_swIn 6 66 c6 (by decide) zd_12_12_1 rfl rfl ?_
    refine zz_ldcs (t := 5) (by decide +kernel) (by decide) zd_12_12_67 ?_
    exact zz_aret zd_12_12_69 rfl (Nat.zero_le _) (Nat.zero_le _) ⟨_, _, rfl, rfl, ⟨_, rfl, by decide⟩⟩
  by_cases c7 : p0 = 7
  · refine zz_swIn 7 69 c7 (by decide) zd_12_12_1 rfl rfl ?_
    refine zz_ldcs (t := 6) (by decide +kernel) (by decide) zd_12_12_70 ?_
    exact zz_aret zd_12_12_72 rfl (Nat.zero_le _) (Nat.zero_le _) ⟨_, _, rfl, rfl, ⟨_, rfl, by decide⟩⟩
  by_cases c8 : p0 = 8
  · refine zz_swIn 8 72 c8 (by decide) zd_12_12_1 rfl rfl ?_
    refine zz_ldcs (t := 7) (by decide +kernel) (by decide) zd_12_12_73 ?_
    exact zz_aret zd_12_12_75 rfl (Nat.zero_le _) (Nat.zero_le _) ⟨_, _, rfl, rfl, ⟨_, rfl, by decide⟩⟩
  by_cases c9 : p0 = 9
  · refine zz_swIn 9 75 c9 (by decide) zd_12_12_1 rfl rfl ?_
    refine zz_ldcs (t := 8) (by decide +kernel) (by decide) zd_12_12_76 ?_
    exact zz_aret zd_12_12_78 rfl (Nat.zero_le _) (Nat.zero_le _) ⟨_, _, rfl, rfl, ⟨_, rfl, by decide⟩⟩
  refine zz_swOut (by omega) (by omega) zd_12_12_1 rfl ?_
  refine zz_ldcs (t := 9) (by decide +kernel) (by decide) zd_12_12_79 ?_
  exact zz_aret zd_12_12_81 rfl (Nat.zero_le _) (Nat.zero_le _) ⟨_, _, rfl, rfl, ⟨_, rfl, by decide⟩⟩
theorem zk_Assembler_57 : mm_Sl "TensorForge$Assembler" 57 1 zy_nameOf_12_12 := ⟨zyw_nameOf_12_12, mm_tb_1 581 (by decide +kernel) rfl, mm_tb_1 582 (by decide +kernel) rfl⟩
theorem zd_2_4_16 : zz_D zy_kindTold_2_4 16 (.invokevirtual 61) 3 19 := ⟨by decide +kernel, rfl⟩
abbrev zy_isWord_11_9 : mm_Y := (⟨"TensorForge$Text", "isWord", "(Ljava/lang/String;)Z"⟩, prog_11_method_9_code, 3, (some .boolean))
theorem zyw_isWord_11_9 : mm_Yw zy_isWord_11_9 1 := ⟨mm_tb_1 597 (by decide +kernel) rfl, mm_tb_1 7 (by decide +kernel) rfl, ⟨by decide, by decide⟩, by decide +kernel⟩
theorem zd_11_9_0 : zz_D zy_isWord_11_9 0 (.aload_n 0) 1 1 := ⟨by decide +kernel, rfl⟩
theorem zd_11_9_1 : zz_D zy_isWord_11_9 1 (.getfield 28) 3 4 := ⟨by decide +kernel, rfl⟩
theorem zd_11_9_4 : zz_D zy_isWord_11_9 4 (.iconst 1) 1 5 := ⟨by decide +kernel, rfl⟩
theorem zd_11_9_5 : zz_B zy_isWord_11_9 5 (Instr.if_icmp .ne) 24 8 := ⟨19, by decide +kernel, rfl, rfl⟩
theorem zd_11_9_24 : zz_D zy_isWord_11_9 24 (.iconst 0) 1 25 := ⟨by decide +kernel, rfl⟩
theorem zd_11_9_25 : zz_D zy_isWord_11_9 25 (.ireturn) 1 26 := ⟨by decide +kernel, rfl⟩
theorem zd_11_9_8 : zz_D zy_isWord_11_9 8 (.aload_n 0) 1 9 := ⟨by decide +kernel, rfl⟩
theorem zd_11_9_9 : zz_D zy_isWord_11_9 9 (.getfield 25) 3 12 := ⟨by decide +kernel, rfl⟩
theorem zd_11_9_12 : zz_D zy_isWord_11_9 12 (.aload_n 0) 1 13 := ⟨by decide +kernel, rfl⟩
theorem zd_11_9_13 : zz_D zy_isWord_11_9 13 (.getfield 31) 3 16 := ⟨by decide +kernel, rfl⟩
theorem zd_11_9_16 : zz_D zy_isWord_11_9 16 (.isub) 1 17 := ⟨by decide +kernel, rfl⟩
theorem zd_11_9_17 : zz_D zy_isWord_11_9 17 (.aload_n 1) 1 18 := ⟨by decide +kernel, rfl⟩
theorem zd_11_9_18 : zz_D zy_isWord_11_9 18 (.invokevirtual 37) 3 21 := ⟨by decide +kernel, rfl⟩
abbrev zy_length_21_54 : mm_Y := (⟨"java/lang/String", "length", "()I"⟩, prog_21_method_54_code, 1, (some .int))
theorem zyw_length_21_54 : mm_Yw zy_length_21_54 0 := ⟨mm_tb_1 601 (by decide +kernel) rfl, mm_tb_1 21 (by decide +kernel) rfl, ⟨by decide, by decide⟩, by decide +kernel⟩
theorem zd_21_54_0 : zz_D zy_length_21_54 0 (.aload_n 0) 1 1 := ⟨by decide +kernel, rfl⟩
theorem zd_21_54_1 : zz_D zy_length_21_54 1 (.getfield 9) 3 4 := ⟨by decide +kernel, rfl⟩
theorem zz_stl {t : Nat} (h : t < 59) : t < mm_txt.length := h
theorem zsf_java_lang_String_9 : Cond.fieldLink "java/lang/String" 9 "java/lang/String" "value" "[B" ∈ mm_tb := mm_tb_1 2315 (by decide +kernel) rfl
theorem zd_21_54_4 : zz_D zy_length_21_54 4 (.arraylength) 1 5 := ⟨by decide +kernel, rfl⟩
theorem zz_slen {t : Nat} (h : t < 59) : 0 ≤ ((mm_len.getD t 0 : Nat) : Int) ∧ ((mm_len.getD t 0 : Nat) : Int) ≤ 38 := by
  have h1 : ∀ t, t < 59 → mm_len.getD t 0 ≤ 38 := by decide +kernel
  have := h1 t h
  omega
theorem zd_21_54_5 : zz_D zy_length_21_54 5 (.aload_n 0) 1 6 := ⟨by decide +kernel, rfl⟩
theorem zd_21_54_6 : zz_D zy_length_21_54 6 (.invokevirtual 335) 3 9 := ⟨by decide +kernel, rfl⟩
abbrev zy_coder_21_152 : mm_Y := (⟨"java/lang/String", "coder", "()B"⟩, prog_21_method_152_code, 1, (some .byte))
theorem zyw_coder_21_152 : mm_Yw zy_coder_21_152 0 := ⟨mm_tb_1 605 (by decide +kernel) rfl, mm_tb_1 21 (by decide +kernel) rfl, ⟨by decide, by decide⟩, by decide +kernel⟩
theorem zd_21_152_0 : zz_D zy_coder_21_152 0 (.getstatic 38) 3 3 := ⟨by decide +kernel, rfl⟩
theorem zsf_java_lang_String_38 : Cond.fieldLink "java/lang/String" 38 "java/lang/String" "COMPACT_STRINGS" "Z" ∈ mm_tb := mm_tb_1 606 (by decide +kernel) rfl
theorem zd_21_152_3 : zz_B zy_coder_21_152 3 (Instr.ifCond .eq) 13 6 := ⟨10, by decide +kernel, rfl, rfl⟩
theorem zd_21_152_6 : zz_D zy_coder_21_152 6 (.aload_n 0) 1 7 := ⟨by decide +kernel, rfl⟩
theorem zd_21_152_7 : zz_D zy_coder_21_152 7 (.getfield 15) 3 10 := ⟨by decide +kernel, rfl⟩
theorem zsf_java_lang_String_15 : Cond.fieldLink "java/lang/String" 15 "java/lang/String" "coder" "B" ∈ mm_tb := mm_tb_1 2316 (by decide +kernel) rfl
theorem zd_21_152_10 : zz_B zy_coder_21_152 10 Instr.goto 14 13 := ⟨4, by decide +kernel, rfl, rfl⟩
theorem zd_21_152_14 : zz_D zy_coder_21_152 14 (.ireturn) 1 15 := ⟨by decide +kernel, rfl⟩
-- java/lang/String coder ()B
abbrev zr_coder_21_152 : Room := { frames := 0, cells := 0, slots := 0, locals := 0 }
def zp_coder_21_152 (t : Nat) (S0 : zz_S) : Int → zz_S → Prop := fun r S => S0 = S ∧ (0 ≤ r ∧ r ≤ 0)
theorem zc_coder_21_152 {g : mm_G} {l : Launch} (t : Nat) (S0 : zz_S) (n : Nat) (hn : zz_end ≤ n) (G_S0 : zz_G S0) (ht : t < 59) : mm_Met g l zy_coder_21_152 zr_coder_21_152 [.ref (100 + t)] (zz_M S0 n) n (zz_QI n (zp_coder_21_152 t S0)) := by
  refine zz_enter (by decide) (Nat.le_of_ble_eq_true rfl) (zz_less (ls1 := [some (.ref (100 + t))]) ⟨rfl, trivial⟩ ?_)
  refine zz_gsZ zd_21_152_0 zsf_java_lang_String_38 ?_
  refine zz_if_eq (by omega) zd_21_152_3 (fun c1 => ?_) (fun c1 => ?_)
  · exfalso; omega
  · refine zz_aload_n (x := 100 + t) rfl zd_21_152_6 ?_
    refine zz_strC (zz_stl (by omega)) (by omega) zd_21_152_7 zsf_java_lang_String_15 ?_
    refine zz_goto zd_21_152_10 ?_
    exact zz_bret zd_21_152_14 rfl (by omega) (Nat.zero_le _) (Nat.zero_le _) ⟨_, _, rfl, rfl, by omega⟩
theorem zkT_java_lang_String_335 : mm_Yw zy_coder_21_152 0 ∧ Cond.methodLink "java/lang/String" 335 zy_coder_21_152.1 ∈ mm_tb ∧ Cond.instanceMethod zy_coder_21_152.1 ∈ mm_tb ∧ Cond.selects "java/lang/String" zy_coder_21_152.1 zy_coder_21_152.1 ∈ mm_tb := ⟨zyw_coder_21_152, mm_tb_1 602 (by decide +kernel) rfl, mm_tb_1 603 (by decide +kernel) rfl, mm_tb_1 604 (by decide +kernel) rfl⟩
theorem zd_21_54_9 : zz_D zy_length_21_54 9 (.ishr) 1 10 := ⟨by decide +kernel, rfl⟩
theorem zz_shr0 {x v : Int} (hx : -2147483648 ≤ x ∧ x ≤ 2147483647) (e : v = (Int32.ofInt x >>> (Int32.ofInt 0 &&& 31)).toInt) : v = x := by
  have h5 : Int32.ofInt 0 &&& 31 = 0 := by decide
  rw [h5, Int32.shiftRight_zero, zz_t32 hx] at e
  exact e
theorem zd_21_54_10 : zz_D zy_length_21_54 10 (.ireturn) 1 11 := ⟨by decide +kernel, rfl⟩
-- java/lang/String length ()I
abbrev zr_length_21_54 : Room := { frames := 1, cells := 0, slots := 0, locals := 13 }
def zp_length_21_54 (t : Nat) (S0 : zz_S) : Int → zz_S → Prop := fun r S => S0 = S ∧ (0 ≤ r ∧ r ≤ 38) ∧ (r = ((mm_len.getD t 0 : Nat) : Int))
theorem zc_length_21_54 {g : mm_G} {l : Launch} (t : Nat) (S0 : zz_S) (n : Nat) (hn : zz_end ≤ n) (G_S0 : zz_G S0) (ht : t < 59) : mm_Met g l zy_length_21_54 zr_length_21_54 [.ref (100 + t)] (zz_M S0 n) n (zz_QI n (zp_length_21_54 t S0)) := by
  refine zz_enter (by decide) (Nat.le_of_ble_eq_true rfl) (zz_less (ls1 := [some (.ref (100 + t))]) ⟨rfl, trivial⟩ ?_)
  refine zz_aload_n (x := 100 + t) rfl zd_21_54_0 ?_
  refine zz_strV (zz_stl (by omega)) (by omega) zd_21_54_1 zsf_java_lang_String_9 ?_
  have l1 := zz_slen (t := t) (by omega)
  refine zz_strL (zz_stl (by omega)) (by omega) zd_21_54_4 ?_
  refine zz_aload_n (x := 100 + t) rfl zd_21_54_5 ?_
  refine zz_callT (t := t) [] (zz_stl (by omega)) (by omega) zd_21_54_6 zkT_java_lang_String_335 rfl rfl ⟨Nat.le_of_ble_eq_true rfl, Nat.le_of_ble_eq_true rfl⟩ ⟨rfl, rfl⟩ (Nat.zero_le _) (Nat.zero_le _) (zc_coder_21_152 t S0 n hn G_S0 (by omega)) (fun v3 S2 hP => ?_)
  obtain ⟨rfl, o4⟩ := hP
  rcases (by omega : v3 = 0) with rfl
  · refine zz_ishr zd_21_54_9 (fun v5 hv5 ev5 => ?_)
    have av5 := zz_shr0 (by omega) ev5
    exact zz_iret zd_21_54_10 rfl (Nat.zero_le _) (Nat.zero_le _) ⟨_, _, rfl, rfl, by omega, by omega⟩
theorem zkT_Text_37 : mm_Yw zy_length_21_54 0 ∧ Cond.methodLink "TensorForge$Text" 37 zy_length_21_54.1 ∈ mm_tb ∧ Cond.instanceMethod zy_length_21_54.1 ∈ mm_tb ∧ Cond.selects "java/lang/String" zy_length_21_54.1 zy_length_21_54.1 ∈ mm_tb := ⟨zyw_length_21_54, mm_tb_1 598 (by decide +kernel) rfl, mm_tb_1 599 (by decide +kernel) rfl, mm_tb_1 600 (by decide +kernel) rfl⟩
theorem zd_11_9_21 : zz_B zy_isWord_11_9 21 (Instr.if_icmp .eq) 26 24 := ⟨5, by decide +kernel, rfl, rfl⟩
theorem zd_11_9_26 : zz_D zy_isWord_11_9 26 (.iconst 0) 1 27 := ⟨by decide +kernel, rfl⟩
theorem zd_11_9_27 : zz_D zy_isWord_11_9 27 (.istore_n 2) 1 28 := ⟨by decide +kernel, rfl⟩
theorem zd_11_9_28 : zz_D zy_isWord_11_9 28 (.iload_n 2) 1 29 := ⟨by decide +kernel, rfl⟩
theorem zd_11_9_29 : zz_D zy_isWord_11_9 29 (.aload_n 1) 1 30 := ⟨by decide +kernel, rfl⟩
theorem zd_11_9_30 : zz_D zy_isWord_11_9 30 (.invokevirtual 37) 3 33 := ⟨by decide +kernel, rfl⟩
theorem zd_11_9_33 : zz_B zy_isWord_11_9 33 (Instr.if_icmp .ge) 63 36 := ⟨30, by decide +kernel, rfl, rfl⟩
theorem zd_11_9_63 : zz_D zy_isWord_11_9 63 (.iconst 1) 1 64 := ⟨by decide +kernel, rfl⟩
theorem zd_11_9_64 : zz_D zy_isWord_11_9 64 (.ireturn) 1 65 := ⟨by decide +kernel, rfl⟩
theorem zd_11_9_36 : zz_D zy_isWord_11_9 36 (.aload_n 0) 1 37 := ⟨by decide +kernel, rfl⟩
theorem zd_11_9_37 : zz_D zy_isWord_11_9 37 (.getfield 9) 3 40 := ⟨by decide +kernel, rfl⟩
theorem zd_11_9_40 : zz_D zy_isWord_11_9 40 (.aload_n 0) 1 41 := ⟨by decide +kernel, rfl⟩
theorem zd_11_9_41 : zz_D zy_isWord_11_9 41 (.getfield 31) 3 44 := ⟨by decide +kernel, rfl⟩
theorem zd_11_9_44 : zz_D zy_isWord_11_9 44 (.iload_n 2) 1 45 := ⟨by decide +kernel, rfl⟩
theorem zd_11_9_45 : zz_D zy_isWord_11_9 45 (.iadd) 1 46 := ⟨by decide +kernel, rfl⟩
theorem zd_11_9_46 : zz_D zy_isWord_11_9 46 (.caload) 1 47 := ⟨by decide +kernel, rfl⟩
theorem zd_11_9_47 : zz_D zy_isWord_11_9 47 (.aload_n 1) 1 48 := ⟨by decide +kernel, rfl⟩
theorem zd_11_9_48 : zz_D zy_isWord_11_9 48 (.iload_n 2) 1 49 := ⟨by decide +kernel, rfl⟩
theorem zd_11_9_49 : zz_D zy_isWord_11_9 49 (.invokevirtual 43) 3 52 := ⟨by decide +kernel, rfl⟩
abbrev zy_charAt_21_56 : mm_Y := (⟨"java/lang/String", "charAt", "(I)C"⟩, prog_21_method_56_code, 2, (some .char))
theorem zyw_charAt_21_56 : mm_Yw zy_charAt_21_56 1 := ⟨mm_tb_1 611 (by decide +kernel) rfl, mm_tb_1 21 (by decide +kernel) rfl, ⟨by decide, by decide⟩, by decide +kernel⟩
theorem zd_21_56_0 : zz_D zy_charAt_21_56 0 (.aload_n 0) 1 1 := ⟨by decide +kernel, rfl⟩
theorem zd_21_56_1 : zz_D zy_charAt_21_56 1 (.invokevirtual 492) 3 4 := ⟨by decide +kernel, rfl⟩
abbrev zy_isLatin1_21_154 : mm_Y := (⟨"java/lang/String", "isLatin1", "()Z"⟩, prog_21_method_154_code, 1, (some .boolean))
theorem zyw_isLatin1_21_154 : mm_Yw zy_isLatin1_21_154 0 := ⟨mm_tb_1 615 (by decide +kernel) rfl, mm_tb_1 21 (by decide +kernel) rfl, ⟨by decide, by decide⟩, by decide +kernel⟩
theorem zd_21_154_0 : zz_D zy_isLatin1_21_154 0 (.getstatic 38) 3 3 := ⟨by decide +kernel, rfl⟩
theorem zd_21_154_3 : zz_B zy_isLatin1_21_154 3 (Instr.ifCond .eq) 17 6 := ⟨14, by decide +kernel, rfl, rfl⟩
theorem zd_21_154_6 : zz_D zy_isLatin1_21_154 6 (.aload_n 0) 1 7 := ⟨by decide +kernel, rfl⟩
theorem zd_21_154_7 : zz_D zy_isLatin1_21_154 7 (.getfield 15) 3 10 := ⟨by decide +kernel, rfl⟩
theorem zd_21_154_10 : zz_B zy_isLatin1_21_154 10 (Instr.ifCond .ne) 17 13 := ⟨7, by decide +kernel, rfl, rfl⟩
theorem zd_21_154_13 : zz_D zy_isLatin1_21_154 13 (.iconst 1) 1 14 := ⟨by decide +kernel, rfl⟩
theorem zd_21_154_14 : zz_B zy_isLatin1_21_154 14 Instr.goto 18 17 := ⟨4, by decide +kernel, rfl, rfl⟩
theorem zd_21_154_18 : zz_D zy_isLatin1_21_154 18 (.ireturn) 1 19 := ⟨by decide +kernel, rfl⟩
-- java/lang/String isLatin1 ()Z
abbrev zr_isLatin1_21_154 : Room := { frames := 0, cells := 0, slots := 0, locals := 0 }
def zp_isLatin1_21_154 (t : Nat) (S0 : zz_S) : Int → zz_S → Prop := fun r S => S0 = S ∧ (1 ≤ r ∧ r ≤ 1)
theorem zc_isLatin1_21_154 {g : mm_G} {l : Launch} (t : Nat) (S0 : zz_S) (n : Nat) (hn : zz_end ≤ n) (G_S0 : zz_G S0) (ht : t < 59) : mm_Met g l zy_isLatin1_21_154 zr_isLatin1_21_154 [.ref (100 + t)] (zz_M S0 n) n (zz_QI n (zp_isLatin1_21_154 t S0)) := by
  refine zz_enter (by decide) (Nat.le_of_ble_eq_true rfl) (zz_less (ls1 := [some (.ref (100 + t))]) ⟨rfl, trivial⟩ ?_)
  refine zz_gsZ zd_21_154_0 zsf_java_lang_String_38 ?_
  refine zz_if_eq (by omega) zd_21_154_3 (fun c1 => ?_) (fun c1 => ?_)
  · exfalso; omega
  · refine zz_aload_n (x := 100 + t) rfl zd_21_154_6 ?_
    refine zz_strC (zz_stl (by omega)) (by omega) zd_21_154_7 zsf_java_lang_String_15 ?_
    refine zz_if_ne (by omega) zd_21_154_10 (fun c2 => ?_) (fun c2 => ?_)
    · exfalso; omega
    · refine zz_iconst zd_21_154_13 ?_
      refine zz_goto zd_21_154_14 ?_
      exact zz_zret zd_21_154_18 rfl (by omega) (Nat.zero_le _) (Nat.zero_le _) ⟨_, _, rfl, rfl, by omega⟩
theorem zkT_java_lang_String_492 : mm_Yw zy_isLatin1_21_154 0 ∧ Cond.methodLink "java/lang/String" 492 zy_isLatin1_21_154.1 ∈ mm_tb ∧ Cond.instanceMethod zy_isLatin1_21_154.1 ∈ mm_tb ∧ Cond.selects "java/lang/String" zy_isLatin1_21_154.1 zy_isLatin1_21_154.1 ∈ mm_tb := ⟨zyw_isLatin1_21_154, mm_tb_1 612 (by decide +kernel) rfl, mm_tb_1 613 (by decide +kernel) rfl, mm_tb_1 614 (by decide +kernel) rfl⟩
theorem zd_21_56_4 : zz_B zy_charAt_21_56 4 (Instr.ifCond .eq) 16 7 := ⟨12, by decide +kernel, rfl, rfl⟩
theorem zd_21_56_7 : zz_D zy_charAt_21_56 7 (.aload_n 0) 1 8 := ⟨by decide +kernel, rfl⟩
theorem zd_21_56_8 : zz_D zy_charAt_21_56 8 (.getfield 9) 3 11 := ⟨by decide +kernel, rfl⟩
theorem zd_21_56_11 : zz_D zy_charAt_21_56 11 (.iload_n 1) 1 12 := ⟨by decide +kernel, rfl⟩
theorem zd_21_56_12 : zz_D zy_charAt_21_56 12 (.invokestatic 495) 3 15 := ⟨by decide +kernel, rfl⟩
abbrev zy_charAt_22_2 : mm_Y := (⟨"java/lang/StringLatin1", "charAt", "([BI)C"⟩, prog_22_method_2_code, 2, (some .char))
theorem zyw_charAt_22_2 : mm_Yw zy_charAt_22_2 2 := ⟨mm_tb_1 618 (by decide +kernel) rfl, mm_tb_1 22 (by decide +kernel) rfl, ⟨by decide, by decide⟩, by decide +kernel⟩
theorem zd_22_2_0 : zz_D zy_charAt_22_2 0 (.iload_n 1) 1 1 := ⟨by decide +kernel, rfl⟩
theorem zd_22_2_1 : zz_D zy_charAt_22_2 1 (.aload_n 0) 1 2 := ⟨by decide +kernel, rfl⟩
theorem zd_22_2_2 : zz_D zy_charAt_22_2 2 (.arraylength) 1 3 := ⟨by decide +kernel, rfl⟩
theorem zd_22_2_3 : zz_D zy_charAt_22_2 3 (.invokestatic 9) 3 6 := ⟨by decide +kernel, rfl⟩
abbrev zy_checkIndex_21_155 : mm_Y := (⟨"java/lang/String", "checkIndex", "(II)V"⟩, prog_21_method_155_code, 2, none)
theorem zyw_checkIndex_21_155 : mm_Yw zy_checkIndex_21_155 2 := ⟨mm_tb_1 621 (by decide +kernel) rfl, mm_tb_1 21 (by decide +kernel) rfl, ⟨by decide, by decide⟩, by decide +kernel⟩
theorem zd_21_155_0 : zz_D zy_checkIndex_21_155 0 (.iload_n 0) 1 1 := ⟨by decide +kernel, rfl⟩
theorem zd_21_155_1 : zz_D zy_checkIndex_21_155 1 (.iload_n 1) 1 2 := ⟨by decide +kernel, rfl⟩
theorem zd_21_155_2 : zz_D zy_checkIndex_21_155 2 (.getstatic 1053) 3 5 := ⟨by decide +kernel, rfl⟩
theorem zsf_java_lang_String_1053 : Cond.fieldLink "java/lang/String" 1053 "jdk/internal/util/Preconditions" "SIOOBE_FORMATTER" "Ljava/util/function/BiFunction;" ∈ mm_tb := mm_tb_1 622 (by decide +kernel) rfl
theorem zd_21_155_5 : zz_D zy_checkIndex_21_155 5 (.invokestatic 1059) 3 8 := ⟨by decide +kernel, rfl⟩
abbrev zy_checkIndex_28_11 : mm_Y := (⟨"jdk/internal/util/Preconditions", "checkIndex", "(IILjava/util/function/BiFunction;)I"⟩, prog_28_method_11_code, 3, (some .int))
theorem zyw_checkIndex_28_11 : mm_Yw zy_checkIndex_28_11 3 := ⟨mm_tb_1 626 (by decide +kernel) rfl, mm_tb_1 23 (by decide +kernel) rfl, ⟨by decide, by decide⟩, by decide +kernel⟩
theorem zd_28_11_0 : zz_D zy_checkIndex_28_11 0 (.iload_n 0) 1 1 := ⟨by decide +kernel, rfl⟩
theorem zd_28_11_1 : zz_B zy_checkIndex_28_11 1 (Instr.ifCond .lt) 9 4 := ⟨8, by decide +kernel, rfl, rfl⟩
theorem zd_28_11_4 : zz_D zy_checkIndex_28_11 4 (.iload_n 0) 1 5 := ⟨by decide +kernel, rfl⟩
theorem zd_28_11_5 : zz_D zy_checkIndex_28_11 5 (.iload_n 1) 1 6 := ⟨by decide +kernel, rfl⟩
theorem zd_28_11_6 : zz_B zy_checkIndex_28_11 6 (Instr.if_icmp .lt) 16 9 := ⟨10, by decide +kernel, rfl, rfl⟩
theorem zd_28_11_16 : zz_D zy_checkIndex_28_11 16 (.iload_n 0) 1 17 := ⟨by decide +kernel, rfl⟩
theorem zd_28_11_17 : zz_D zy_checkIndex_28_11 17 (.ireturn) 1 18 := ⟨by decide +kernel, rfl⟩
-- jdk/internal/util/Preconditions checkIndex (IILjava/util/function/BiFunction;)I
abbrev zr_checkIndex_28_11_null : Room := { frames := 0, cells := 0, slots := 0, locals := 0 }
def zp_checkIndex_28_11_null (p0 : Int) (p1 : Int) (S0 : zz_S) : Int → zz_S → Prop := fun r S => S0 = S ∧ ((-2147483648) ≤ r ∧ r ≤ 2147483647)
theorem zc_checkIndex_28_11_null {g : mm_G} {l : Launch} (p0 : Int) (p1 : Int) (S0 : zz_S) (n : Nat) (hn : zz_end ≤ n) (G_S0 : zz_G S0) (hp0 : (-2147483648) ≤ p0 ∧ p0 ≤ 2147483647) (hp1 : (-2147483648) ≤ p1 ∧ p1 ≤ 2147483647) (hq : 0 ≤ p0 ∧ p0 < p1) : mm_Met g l zy_checkIndex_28_11 zr_checkIndex_28_11_null [zi p0, zi p1, .null] (zz_M S0 n) n (zz_QI n (zp_checkIndex_28_11_null p0 p1 S0)) := by
  refine zz_enter (by decide) (Nat.le_of_ble_eq_true rfl) (zz_less (ls1 := [some (zi p0), some (zi p1), some (.null)]) ⟨rfl, ⟨rfl, ⟨rfl, trivial⟩⟩⟩ ?_)
  refine zz_iload_n (x := p0) rfl zd_28_11_0 ?_
  refine zz_if_lt (by omega) zd_28_11_1 (fun c1 => ?_) (fun c1 => ?_)
  · exfalso; omega
  · refine zz_iload_n (x := p0) rfl zd_28_11_4 ?_
    refine zz_iload_n (x := p1) rfl zd_28_11_5 ?_
    refine zz_icmp_lt (by omega) (by omega) zd_28_11_6 (fun c2 => ?_) (fun c2 => ?_)
    · refine zz_iload_n (x := p0) rfl zd_28_11_16 ?_
      exact zz_iret zd_28_11_17 rfl (Nat.zero_le _) (Nat.zero_le _) ⟨_, _, rfl, rfl, by omega⟩
    · exfalso; omega
theorem zk_java_lang_String_1059 : mm_Sl "java/lang/String" 1059 3 zy_checkIndex_28_11 := ⟨zyw_checkIndex_28_11, mm_tb_1 624 (by decide +kernel) rfl, mm_tb_1 625 (by decide +kernel) rfl⟩
theorem zd_21_155_8 : zz_D zy_checkIndex_21_155 8 (.pop) 1 9 := ⟨by decide +kernel, rfl⟩
theorem zd_21_155_9 : zz_D zy_checkIndex_21_155 9 (.return_) 1 10 := ⟨by decide +kernel, rfl⟩
-- jdk/internal/util/Preconditions checkIndex (IILjava/util/function/BiFunction;)I
abbrev zr_checkIndex_28_11_999 : Room := { frames := 0, cells := 0, slots := 0, locals := 0 }
def zp_checkIndex_28_11_999 (p0 : Int) (p1 : Int) (S0 : zz_S) : Int → zz_S → Prop := fun r S => S0 = S ∧ ((-2147483648) ≤ r ∧ r ≤ 2147483647)
theorem zc_checkIndex_28_11_999 {g : mm_G} {l : Launch} (p0 : Int) (p1 : Int) (S0 : zz_S) (n : Nat) (hn : zz_end ≤ n) (G_S0 : zz_G S0) (hp0 : (-2147483648) ≤ p0 ∧ p0 ≤ 2147483647) (hp1 : (-2147483648) ≤ p1 ∧ p1 ≤ 2147483647) (hq : 0 ≤ p0 ∧ p0 < p1) : mm_Met g l zy_checkIndex_28_11 zr_checkIndex_28_11_999 [zi p0, zi p1, .ref 999] (zz_M S0 n) n (zz_QI n (zp_checkIndex_28_11_999 p0 p1 S0)) := by
  refine zz_enter (by decide) (Nat.le_of_ble_eq_true rfl) (zz_less (ls1 := [some (zi p0), some (zi p1), some (.ref 999)]) ⟨rfl, ⟨rfl, ⟨rfl, trivial⟩⟩⟩ ?_)
  refine zz_iload_n (x := p0) rfl zd_28_11_0 ?_
  refine zz_if_lt (by omega) zd_28_11_1 (fun c1 => ?_) (fun c1 => ?_)
  · exfalso; omega
  · refine zz_iload_n (x := p0) rfl zd_28_11_4 ?_
    refine zz_iload_n (x := p1) rfl zd_28_11_5 ?_
    refine zz_icmp_lt (by omega) (by omega) zd_28_11_6 (fun c2 => ?_) (fun c2 => ?_)
    · refine zz_iload_n (x := p0) rfl zd_28_11_16 ?_
      exact zz_iret zd_28_11_17 rfl (Nat.zero_le _) (Nat.zero_le _) ⟨_, _, rfl, rfl, by omega⟩
    · exfalso; omega
-- java/lang/String checkIndex (II)V
abbrev zr_checkIndex_21_155 : Room := { frames := 1, cells := 0, slots := 0, locals := 14 }
def zp_checkIndex_21_155 (p0 : Int) (p1 : Int) (S0 : zz_S) : zz_S → Prop := fun S => S0 = S
theorem zc_checkIndex_21_155 {g : mm_G} {l : Launch} (p0 : Int) (p1 : Int) (S0 : zz_S) (n : Nat) (hn : zz_end ≤ n) (G_S0 : zz_G S0) (hp0 : (-2147483648) ≤ p0 ∧ p0 ≤ 2147483647) (hp1 : (-2147483648) ≤ p1 ∧ p1 ≤ 2147483647) (hq : 0 ≤ p0 ∧ p0 < p1) : mm_Met g l zy_checkIndex_21_155 zr_checkIndex_21_155 [zi p0, zi p1] (zz_M S0 n) n (zz_QV n (zp_checkIndex_21_155 p0 p1 S0)) := by
  refine zz_enter (by decide) (Nat.le_of_ble_eq_true rfl) (zz_less (ls1 := [some (zi p0), some (zi p1)]) ⟨rfl, ⟨rfl, trivial⟩⟩ ?_)
  refine zz_iload_n (x := p0) rfl zd_21_155_0 ?_
  refine zz_iload_n (x := p1) rfl zd_21_155_1 ?_
  refine zz_gsQ zd_21_155_2 zsf_java_lang_String_1053 (fun w1 hw1 => ?_)
  rcases hw1 with rfl | rfl
  · refine zz_callSI [zi p0, zi p1, .null] zd_21_155_5 zk_java_lang_String_1059 rfl rfl ⟨Nat.le_of_ble_eq_true rfl, Nat.le_of_ble_eq_true rfl⟩ ⟨rfl, rfl⟩ (Nat.zero_le _) (Nat.zero_le _) (zc_checkIndex_28_11_null p0 p1 S0 n hn G_S0 (by omega) (by omega) (by omega)) (fun v3 S2 hP => ?_)
    obtain ⟨rfl, o4⟩ := hP
    refine zz_pop rfl zd_21_155_8 ?_
    exact zz_vret zd_21_155_9 rfl (Nat.zero_le _) (Nat.zero_le _) ⟨_, rfl, rfl⟩
  · refine zz_callSI [zi p0, zi p1, .ref 999] zd_21_155_5 zk_java_lang_String_1059 rfl rfl ⟨Nat.le_of_ble_eq_true rfl, Nat.le_of_ble_eq_true rfl⟩ ⟨rfl, rfl⟩ (Nat.zero_le _) (Nat.zero_le _) (zc_checkIndex_28_11_999 p0 p1 S0 n hn G_S0 (by omega) (by omega) (by omega)) (fun v6 S5 hP => ?_)
    obtain ⟨rfl, o7⟩ := hP
    refine zz_pop rfl zd_21_155_8 ?_
    exact zz_vret zd_21_155_9 rfl (Nat.zero_le _) (Nat.zero_le _) ⟨_, rfl, rfl⟩
theorem zk_java_lang_StringLatin1_9 : mm_Sl "java/lang/StringLatin1" 9 2 zy_checkIndex_21_155 := ⟨zyw_checkIndex_21_155, mm_tb_1 619 (by decide +kernel) rfl, mm_tb_1 620 (by decide +kernel) rfl⟩
theorem zd_22_2_6 : zz_D zy_charAt_22_2 6 (.aload_n 0) 1 7 := ⟨by decide +kernel, rfl⟩
theorem zd_22_2_7 : zz_D zy_charAt_22_2 7 (.iload_n 1) 1 8 := ⟨by decide +kernel, rfl⟩
theorem zd_22_2_8 : zz_D zy_charAt_22_2 8 (.baload) 1 9 := ⟨by decide +kernel, rfl⟩
theorem zd_22_2_9 : zz_D zy_charAt_22_2 9 (.sipush 255) 3 12 := ⟨by decide +kernel, rfl⟩
theorem zd_22_2_12 : zz_D zy_charAt_22_2 12 (.iand) 1 13 := ⟨by decide +kernel, rfl⟩
theorem zd_22_2_13 : zz_D zy_charAt_22_2 13 (.i2c) 1 14 := ⟨by decide +kernel, rfl⟩
theorem zd_22_2_14 : zz_D zy_charAt_22_2 14 (.ireturn) 1 15 := ⟨by decide +kernel, rfl⟩
theorem zz_cret {g : mm_G} {l : Launch} {Y : mm_Y} {rm : Room} {Q : mm_O → Prop} {pc pc1 : Nat} {ls : List (Option Value)} {S : zz_S} {n k j : Nat} {v : Int} (hd : zz_D Y pc .ireturn 1 pc1) (hr : Y.2.2.2 = some .char) (hv : 0 ≤ v ∧ v ≤ 65535) (hk : k ≤ rm.cells) (hj : j ≤ rm.slots) (hQ : Q (.inl (some (zi v)), zz_M S n, n)) : zz_E g l Y rm Q S n pc ls [zi v] k j := by
  refine mm_zret hd.1 hr ?_ hk hj hQ
  have h : narrow .char (.int (Int32.ofInt v)) = .int (vp_nar .char (Int32.ofInt v)) := rfl
  rw [h, zz_nar_char hv]
-- java/lang/StringLatin1 charAt ([BI)C
abbrev zr_charAt_22_2 : Room := { frames := 2, cells := 0, slots := 0, locals := 27 }
def zp_charAt_22_2 (p0 : Nat) (p1 : Int) (S0 : zz_S) : Int → zz_S → Prop := fun r S => S0 = S ∧ (0 ≤ r ∧ r ≤ 255)
theorem zc_charAt_22_2 {g : mm_G} {l : Launch} (p0 : Nat) (p1 : Int) (S0 : zz_S) (n : Nat) (hn : zz_end ≤ n) (G_S0 : zz_G S0) (hp0 : p0 < 59) (hp1 : (-2147483648) ≤ p1 ∧ p1 ≤ 2147483647) (hq : 0 ≤ p1 ∧ p1 < ((mm_len.getD p0 0 : Nat) : Int)) : mm_Met g l zy_charAt_22_2 zr_charAt_22_2 [.ref (500 + p0), zi p1] (zz_M S0 n) n (zz_QI n (zp_charAt_22_2 p0 p1 S0)) := by
  refine zz_enter (by decide) (Nat.le_of_ble_eq_true rfl) (zz_less (ls1 := [some (.ref (500 + p0)), some (zi p1)]) ⟨rfl, ⟨rfl, trivial⟩⟩ ?_)
  refine zz_iload_n (x := p1) rfl zd_22_2_0 ?_
  refine zz_aload_n (x := 500 + p0) rfl zd_22_2_1 ?_
  have l1 := zz_slen (t := p0) (by omega)
  refine zz_strL (zz_stl (by omega)) (by omega) zd_22_2_2 ?_
  refine zz_callSV [zi p1, zi ((mm_len.getD p0 0 : Nat) : Int)] zd_22_2_3 zk_java_lang_StringLatin1_9 rfl rfl ⟨Nat.le_of_ble_eq_true rfl, Nat.le_of_ble_eq_true rfl⟩ ⟨rfl, rfl⟩ (Nat.zero_le _) (Nat.zero_le _) (zc_checkIndex_21_155 p1 ((mm_len.getD p0 0 : Nat) : Int) S0 n hn G_S0 (by omega) (by omega) (by omega)) (fun S2 hP => ?_)
  obtain ⟨rfl⟩ := hP
  refine zz_aload_n (x := 500 + p0) rfl zd_22_2_6 ?_
  refine zz_iload_n (x := p1) rfl zd_22_2_7 ?_
  have l5 := zz_slen (t := p0) (by omega)
  refine zz_strB (zz_stl (by omega)) (by omega) zd_22_2_8 (by omega) (by omega) (fun v4 hv4 => ?_)
  refine zz_sipush (by decide) zd_22_2_9 ?_
  refine zz_iand (by omega) (by omega) zd_22_2_12 (fun v6 hv6 av6 bv6 ev6 => ?_)
  refine zz_i2c (by omega) zd_22_2_13 ?_
  exact zz_cret zd_22_2_14 rfl (by omega) (Nat.zero_le _) (Nat.zero_le _) ⟨_, _, rfl, rfl, by omega⟩
theorem zk_java_lang_String_495 : mm_Sl "java/lang/String" 495 2 zy_charAt_22_2 := ⟨zyw_charAt_22_2, mm_tb_1 616 (by decide +kernel) rfl, mm_tb_1 617 (by decide +kernel) rfl⟩
theorem zd_21_56_15 : zz_D zy_charAt_21_56 15 (.ireturn) 1 16 := ⟨by decide +kernel, rfl⟩
-- java/lang/String charAt (I)C
abbrev zr_charAt_21_56 : Room := { frames := 3, cells := 0, slots := 0, locals := 40 }
def zp_charAt_21_56 (t : Nat) (p0 : Int) (S0 : zz_S) : Int → zz_S → Prop := fun r S => S0 = S ∧ (0 ≤ r ∧ r ≤ 255)
theorem zc_charAt_21_56 {g : mm_G} {l : Launch} (t : Nat) (p0 : Int) (S0 : zz_S) (n : Nat) (hn : zz_end ≤ n) (G_S0 : zz_G S0) (ht : t < 59) (hp0 : (-2147483648) ≤ p0 ∧ p0 ≤ 2147483647) (hq : 0 ≤ p0 ∧ p0 < ((mm_len.getD t 0 : Nat) : Int)) : mm_Met g l zy_charAt_21_56 zr_charAt_21_56 [.ref (100 + t), zi p0] (zz_M S0 n) n (zz_QI n (zp_charAt_21_56 t p0 S0)) := by
  refine zz_enter (by decide) (Nat.le_of_ble_eq_true rfl) (zz_less (ls1 := [some (.ref (100 + t)), some (zi p0)]) ⟨rfl, ⟨rfl, trivial⟩⟩ ?_)
  refine zz_aload_n (x := 100 + t) rfl zd_21_56_0 ?_
  refine zz_callT (t := t) [] (zz_stl (by omega)) (by omega) zd_21_56_1 zkT_java_lang_String_492 rfl rfl ⟨Nat.le_of_ble_eq_true rfl, Nat.le_of_ble_eq_true rfl⟩ ⟨rfl, rfl⟩ (Nat.zero_le _) (Nat.zero_le _) (zc_isLatin1_21_154 t S0 n hn G_S0 (by omega)) (fun v2 S1 hP => ?_)
  obtain ⟨rfl, o3⟩ := hP
  rcases (by omega : v2 = 1) with rfl
  · refine zz_if_eq (by omega) zd_21_56_4 (fun c4 => ?_) (fun c4 => ?_)
    · exfalso; omega
    · refine zz_aload_n (x := 100 + t) rfl zd_21_56_7 ?_
      refine zz_strV (zz_stl (by omega)) (by omega) zd_21_56_8 zsf_java_lang_String_9 ?_
      refine zz_iload_n (x := p0) rfl zd_21_56_11 ?_
      refine zz_callSI [.ref (500 + t), zi p0] zd_21_56_12 zk_java_lang_String_495 rfl rfl ⟨Nat.le_of_ble_eq_true rfl, Nat.le_of_ble_eq_true rfl⟩ ⟨rfl, rfl⟩ (Nat.zero_le _) (Nat.zero_le _) (zc_charAt_22_2 t p0 S0 n hn G_S0 (by omega) (by omega) (by omega)) (fun v6 S5 hP => ?_)
      obtain ⟨rfl, o7⟩ := hP
      exact zz_cret zd_21_56_15 rfl (by omega) (Nat.zero_le _) (Nat.zero_le _) ⟨_, _, rfl, rfl, by omega⟩
theorem zkT_Text_43 : mm_Yw zy_charAt_21_56 1 ∧ Cond.methodLink "TensorForge$Text" 43 zy_charAt_21_56.1 ∈ mm_tb ∧ Cond.instanceMethod zy_charAt_21_56.1 ∈ mm_tb ∧ Cond.selects "java/lang/String" zy_charAt_21_56.1 zy_charAt_21_56.1 ∈ mm_tb := ⟨zyw_charAt_21_56, mm_tb_1 608 (by decide +kernel) rfl, mm_tb_1 609 (by decide +kernel) rfl, mm_tb_1 610 (by decide +kernel) rfl⟩
theorem zd_11_9_52 : zz_B zy_isWord_11_9 52 (Instr.if_icmp .eq) 57 55 := ⟨5, by decide +kernel, rfl, rfl⟩
theorem zd_11_9_57 : zz_D zy_isWord_11_9 57 (.iinc 2 1) 3 60 := ⟨by decide +kernel, rfl⟩
theorem zd_11_9_60 : zz_B zy_isWord_11_9 60 Instr.goto 28 63 := ⟨(-32), by decide +kernel, rfl, rfl⟩
theorem zd_11_9_55 : zz_D zy_isWord_11_9 55 (.iconst 0) 1 56 := ⟨by decide +kernel, rfl⟩
theorem zd_11_9_56 : zz_D zy_isWord_11_9 56 (.ireturn) 1 57 := ⟨by decide +kernel, rfl⟩
-- TensorForge$Text isWord (Ljava/lang/String;)Z
abbrev zr_isWord_11_9 : Room := { frames := 4, cells := 0, slots := 0, locals := 54 }
def zp_isWord_11_9 (p0 : Nat) (S0 : zz_S) : Int → zz_S → Prop := fun r S => S0 = S ∧ (0 ≤ r ∧ r ≤ 1)
theorem zb_isWord_11_9_28 {g : mm_G} {l : Launch} (p0 : Nat) (S0 : zz_S) (n : Nat) (hn : zz_end ≤ n) (G_S0 : zz_G S0) (hp0 : p0 < 59) (x2 : Int) (S : zz_S) (G_S : zz_G S) (F_S : zz_fr [] [] (fun _ _ => False) S0 S) (i28_0 : 0 ≤ x2 ∧ x2 ≤ 38) (i28_1 : S0 1070 4 = 1) (i28_2 : S0 1070 3 - S0 1070 5 = ((mm_len.getD p0 0 : Nat) : Int)) (R : Nat) (hR : (2147483647 - x2).toNat = R) (k28 : ∀ (x2 : Int) (S : zz_S), zz_G S → zz_fr [] [] (fun _ _ => False) S0 S → (0 ≤ x2 ∧ x2 ≤ 38) → (S0 1070 4 = 1) → (S0 1070 3 - S0 1070 5 = ((mm_len.getD p0 0 : Nat) : Int)) → (2147483647 - x2).toNat < R → zz_E g l zy_isWord_11_9 zr_isWord_11_9 (zz_QI n (zp_isWord_11_9 p0 S0)) S n 28 [some (.ref 1070), some (.ref (100 + p0)), some (zi x2)] [] 0 0) : zz_E g l zy_isWord_11_9 zr_isWord_11_9 (zz_QI n (zp_isWord_11_9 p0 S0)) S n 28 [some (.ref 1070), some (.ref (100 + p0)), some (zi x2)] [] 0 0 := by
  have hat9 := zz_G.r G_S0 1070 3 0 1500 rfl rfl
  refine zz_iload_n (x := x2) rfl zd_11_9_28 ?_
  refine zz_aload_n (x := 100 + p0) rfl zd_11_9_29 ?_
  refine zz_callT (t := p0) [] (zz_stl (by omega)) (by omega) zd_11_9_30 zkT_Text_37 rfl rfl ⟨Nat.le_of_ble_eq_true rfl, Nat.le_of_ble_eq_true rfl⟩ ⟨rfl, rfl⟩ (Nat.zero_le _) (Nat.zero_le _) (zc_length_21_54 p0 S n hn G_S (by omega)) (fun v11 S10 hP => ?_)
  obtain ⟨rfl, o12, o13⟩ := hP
  refine zz_icmp_ge (by omega) (by omega) zd_11_9_33 (fun c14 => ?_) (fun c14 => ?_)
  · refine zz_iconst zd_11_9_63 ?_
    exact zz_zret zd_11_9_64 rfl (by omega) (Nat.zero_le _) (Nat.zero_le _) ⟨_, _, rfl, zz_fr.eq F_S, by omega⟩
  · refine zz_aload_n (x := 1070) rfl zd_11_9_36 ?_
    refine zz_getr (kd := 0) (z := 1071) zd_11_9_37 zf_Text_9 zT_1070 rfl (zz_ltn hn rfl) (zz_G.eq G_S 1070 0 1071 rfl rfl) (by decide) 1071 rfl ?_
    refine zz_aload_n (x := 1070) rfl zd_11_9_40 ?_
    have g15 := zz_G.r G_S0 1070 5 0 1500 rfl rfl
    refine zz_geti (z := S0 1070 5) zd_11_9_41 zf_Text_31 zT_1070 rfl (zz_ltn hn rfl) (zz_rc F_S rfl rfl (fun h => h) rfl) ?_
    refine zz_iload_n (x := x2) rfl zd_11_9_44 ?_
    refine zz_iadd zd_11_9_45 ?_
    have g16 := zz_G.r G_S0 1071 (((S0 1070 5) + x2).toNat) 0 65535 rfl rfl
    refine zz_cald (z := S0 1071 (((S0 1070 5) + x2).toNat)) zd_11_9_46 zT_1071 rfl (zz_ltn hn rfl) (by decide) (by omega) (zz_rc F_S (zz_nc1 rfl) rfl (fun h => h) rfl) ?_
    refine zz_aload_n (x := 100 + p0) rfl zd_11_9_47 ?_
    refine zz_iload_n (x := x2) rfl zd_11_9_48 ?_
    refine zz_callT (t := p0) [zi x2] (zz_stl (by omega)) (by omega) zd_11_9_49 zkT_Text_43 rfl rfl ⟨Nat.le_of_ble_eq_true rfl, Nat.le_of_ble_eq_true rfl⟩ ⟨rfl, rfl⟩ (Nat.zero_le _) (Nat.zero_le _) (zc_charAt_21_56 p0 x2 S n hn G_S (by omega) (by omega) (by omega)) (fun v18 S17 hP => ?_)
    obtain ⟨rfl, o19⟩ := hP
    refine zz_icmp_eq (by omega) (by omega) zd_11_9_52 (fun c20 => ?_) (fun c20 => ?_)
    · refine zz_iinc [some (.ref 1070), some (.ref (100 + p0)), some (zi (x2 + 1))] zd_11_9_57 rfl rfl ?_
      refine zz_goto zd_11_9_60 ?_
      refine zz_less (ls1 := [some (.ref 1070), some (.ref (100 + p0)), some (zi (x2 + 1))]) ⟨rfl, ⟨rfl, ⟨rfl, trivial⟩⟩⟩ ?_
      exact k28 (x2 + 1) S G_S F_S (by omega) (by omega) (by omega) (by omega)
    · refine zz_iconst zd_11_9_55 ?_
      exact zz_zret zd_11_9_56 rfl (by omega) (Nat.zero_le _) (Nat.zero_le _) ⟨_, _, rfl, zz_fr.eq F_S, by omega⟩
theorem zi_isWord_11_9 {g : mm_G} {l : Launch} (p0 : Nat) (S0 : zz_S) (n : Nat) (hn : zz_end ≤ n) (G_S0 : zz_G S0) (hp0 : p0 < 59) : ∀ N : Nat, (∀ (x2 : Int) (S : zz_S), zz_G S → zz_fr [] [] (fun _ _ => False) S0 S → (0 ≤ x2 ∧ x2 ≤ 38) → (S0 1070 4 = 1) → (S0 1070 3 - S0 1070 5 = ((mm_len.getD p0 0 : Nat) : Int)) → (2147483647 - x2).toNat < N → zz_E g l zy_isWord_11_9 zr_isWord_11_9 (zz_QI n (zp_isWord_11_9 p0 S0)) S n 28 [some (.ref 1070), some (.ref (100 + p0)), some (zi x2)] [] 0 0) := by
  intro N
  induction N with
  | zero => exact fun x2 S _ _ _ _ _ h => absurd h (Nat.not_lt_zero _)
  | succ N ih =>
    exact fun x2 S a b j0 j1 j2 hR => zb_isWord_11_9_28 p0 S0 n hn G_S0 hp0 x2 S a b j0 j1 j2 _ rfl (fun x2 S a b j0 j1 j2 h => ih x2 S a b j0 j1 j2 (Nat.lt_of_lt_of_le h (Nat.le_of_lt_succ hR)))
theorem zc_isWord_11_9 {g : mm_G} {l : Launch} (p0 : Nat) (S0 : zz_S) (n : Nat) (hn : zz_end ≤ n) (G_S0 : zz_G S0) (hp0 : p0 < 59) : mm_Met g l zy_isWord_11_9 zr_isWord_11_9 [.ref 1070, .ref (100 + p0)] (zz_M S0 n) n (zz_QI n (zp_isWord_11_9 p0 S0)) := by
  refine zz_enter (by decide) (Nat.le_of_ble_eq_true rfl) (zz_less (ls1 := [some (.ref 1070), some (.ref (100 + p0))]) ⟨rfl, ⟨rfl, trivial⟩⟩ ?_)
  have F_S0 : zz_fr [] [] (fun _ _ => False) S0 S0 := zz_fr.refl
  have k28 : ∀ (x2 : Int) (S : zz_S), zz_G S → zz_fr [] [] (fun _ _ => False) S0 S → (0 ≤ x2 ∧ x2 ≤ 38) → (S0 1070 4 = 1) → (S0 1070 3 - S0 1070 5 = ((mm_len.getD p0 0 : Nat) : Int)) → zz_E g l zy_isWord_11_9 zr_isWord_11_9 (zz_QI n (zp_isWord_11_9 p0 S0)) S n 28 [some (.ref 1070), some (.ref (100 + p0)), some (zi x2)] [] 0 0 := fun x2 S a b j0 j1 j2 => (zi_isWord_11_9 (g := g) (l := l) p0 S0 n hn G_S0 hp0 _) x2 S a b j0 j1 j2 (Nat.lt_succ_self _)
  refine zz_aload_n (x := 1070) rfl zd_11_9_0 ?_
  have g1 := zz_G.r G_S0 1070 4 (-2147483648) 2147483647 rfl rfl
  refine zz_geti (z := S0 1070 4) zd_11_9_1 zf_Text_28 zT_1070 rfl (zz_ltn hn rfl) rfl ?_
  refine zz_iconst zd_11_9_4 ?_
  refine zz_icmp_ne (by omega) (by omega) zd_11_9_5 (fun c2 => ?_) (fun c2 => ?_)
  · refine zz_iconst zd_11_9_24 ?_
    exact zz_zret zd_11_9_25 rfl (by omega) (Nat.zero_le _) (Nat.zero_le _) ⟨_, _, rfl, rfl, by omega⟩
  · refine zz_aload_n (x := 1070) rfl zd_11_9_8 ?_
    have g3 := zz_G.r G_S0 1070 3 0 1500 rfl rfl
    refine zz_geti (z := S0 1070 3) zd_11_9_9 zf_Text_25 zT_1070 rfl (zz_ltn hn rfl) rfl ?_
    refine zz_aload_n (x := 1070) rfl zd_11_9_12 ?_
    have g4 := zz_G.r G_S0 1070 5 0 1500 rfl rfl
    refine zz_geti (z := S0 1070 5) zd_11_9_13 zf_Text_31 zT_1070 rfl (zz_ltn hn rfl) rfl ?_
    refine zz_isub zd_11_9_16 ?_
    refine zz_aload_n (x := 100 + p0) rfl zd_11_9_17 ?_
    refine zz_callT (t := p0) [] (zz_stl (by omega)) (by omega) zd_11_9_18 zkT_Text_37 rfl rfl ⟨Nat.le_of_ble_eq_true rfl, Nat.le_of_ble_eq_true rfl⟩ ⟨rfl, rfl⟩ (Nat.zero_le _) (Nat.zero_le _) (zc_length_21_54 p0 S0 n hn G_S0 (by omega)) (fun v6 S5 hP => ?_)
    obtain ⟨rfl, o7, o8⟩ := hP
    refine zz_icmp_eq (by omega) (by omega) zd_11_9_21 (fun c9 => ?_) (fun c9 => ?_)
    · refine zz_iconst zd_11_9_26 ?_
      refine zz_istore_n [some (.ref 1070), some (.ref (100 + p0)), some (zi 0)] zd_11_9_27 (by decide) rfl ?_
      refine zz_less (ls1 := [some (.ref 1070), some (.ref (100 + p0)), some (zi 0)]) ⟨rfl, ⟨rfl, ⟨rfl, trivial⟩⟩⟩ ?_
      exact k28 0 S0 G_S0 F_S0 (by omega) (by omega) (by omega)
    · refine zz_iconst zd_11_9_24 ?_
      exact zz_zret zd_11_9_25 rfl (by omega) (Nat.zero_le _) (Nat.zero_le _) ⟨_, _, rfl, rfl, by omega⟩
theorem zk_Assembler_61 : mm_Vl "TensorForge$Assembler" 61 6 1 zy_isWord_11_9 := ⟨zyw_isWord_11_9, (R_Text, F_Text, 7), rfl, mm_tb_1 594 (by decide +kernel) rfl, mm_tb_1 595 (by decide +kernel) rfl, mm_tb_1 596 (by decide +kernel) rfl⟩
theorem zd_2_4_19 : zz_B zy_kindTold_2_4 19 (Instr.ifCond .eq) 24 22 := ⟨5, by decide +kernel, rfl, rfl⟩
theorem zd_2_4_24 : zz_D zy_kindTold_2_4 24 (.iinc 1 1) 3 27 := ⟨by decide +kernel, rfl⟩
theorem zd_2_4_27 : zz_B zy_kindTold_2_4 27 Instr.goto 2 30 := ⟨(-25), by decide +kernel, rfl, rfl⟩
theorem zd_2_4_22 : zz_D zy_kindTold_2_4 22 (.iload_n 1) 1 23 := ⟨by decide +kernel, rfl⟩
theorem zd_2_4_23 : zz_D zy_kindTold_2_4 23 (.ireturn) 1 24 := ⟨by decide +kernel, rfl⟩
theorem zd_2_4_30 : zz_D zy_kindTold_2_4 30 (.iconst (-1)) 1 31 := ⟨by decide +kernel, rfl⟩
theorem zd_2_4_31 : zz_D zy_kindTold_2_4 31 (.ireturn) 1 32 := ⟨by decide +kernel, rfl⟩
-- TensorForge$Assembler kindTold ()I
abbrev zr_kindTold_2_4 : Room := { frames := 5, cells := 0, slots := 0, locals := 68 }
def zp_kindTold_2_4  (S0 : zz_S) : Int → zz_S → Prop := fun r S => S0 = S ∧ ((-2147483648) ≤ r ∧ r ≤ 2147483647)
theorem zb_kindTold_2_4_2 {g : mm_G} {l : Launch}  (S0 : zz_S) (n : Nat) (hn : zz_end ≤ n) (G_S0 : zz_G S0)  (x1 : Int) (S : zz_S) (G_S : zz_G S) (F_S : zz_fr [] [] (fun _ _ => False) S0 S) (i2_0 : 1 ≤ x1 ∧ x1 ≤ 10) (R : Nat) (hR : (9 + 1 - x1).toNat = R) (k2 : ∀ (x1 : Int) (S : zz_S), zz_G S → zz_fr [] [] (fun _ _ => False) S0 S → (1 ≤ x1 ∧ x1 ≤ 10) → (9 + 1 - x1).toNat < R → zz_E g l zy_kindTold_2_4 zr_kindTold_2_4 (zz_QI n (zp_kindTold_2_4  S0)) S n 2 [some (.ref 1072), some (zi x1)] [] 0 0) : zz_E g l zy_kindTold_2_4 zr_kindTold_2_4 (zz_QI n (zp_kindTold_2_4  S0)) S n 2 [some (.ref 1072), some (zi x1)] [] 0 0 := by
  refine zz_iload_n (x := x1) rfl zd_2_4_2 ?_
  refine zz_bipush (by decide) zd_2_4_3 ?_
  refine zz_icmp_gt (by omega) (by omega) zd_2_4_5 (fun c1 => ?_) (fun c1 => ?_)
  · refine zz_iconst zd_2_4_30 ?_
    exact zz_iret zd_2_4_31 rfl (Nat.zero_le _) (Nat.zero_le _) ⟨_, _, rfl, zz_fr.eq F_S, by omega⟩
  · refine zz_aload_n (x := 1072) rfl zd_2_4_8 ?_
    refine zz_getr (kd := 0) (z := 1070) zd_2_4_9 zf_Assembler_9 zT_1072 rfl (zz_ltn hn rfl) (zz_G.eq G_S 1072 0 1070 rfl rfl) (by decide) 1070 rfl ?_
    refine zz_iload_n (x := x1) rfl zd_2_4_12 ?_
    refine zz_callSA [zi x1] zd_2_4_13 zk_Assembler_57 rfl rfl ⟨Nat.le_of_ble_eq_true rfl, Nat.le_of_ble_eq_true rfl⟩ ⟨rfl, rfl⟩ (Nat.zero_le _) (Nat.zero_le _) (zc_nameOf_12_12 x1 S n hn G_S (by omega)) (fun v3 S2 hP => ?_)
    obtain ⟨rfl, o4⟩ := hP
    obtain ⟨uv3, rfl, huv3⟩ := o4
    refine zz_callVI [.ref (100 + uv3)] zd_2_4_16 zk_Assembler_61 zT_1070 (zz_ltn hn rfl) rfl rfl ⟨Nat.le_of_ble_eq_true rfl, Nat.le_of_ble_eq_true rfl⟩ ⟨rfl, rfl⟩ (Nat.zero_le _) (Nat.zero_le _) (zc_isWord_11_9 uv3 S n hn G_S (by omega)) (fun v6 S5 hP => ?_)
    obtain ⟨rfl, o7⟩ := hP
    rcases (by omega : v6 = 0 ∨ v6 = 1) with rfl | rfl
    · refine zz_if_eq (by omega) zd_2_4_19 (fun c8 => ?_) (fun c8 => ?_)
      · refine zz_iinc [some (.ref 1072), some (zi (x1 + 1))] zd_2_4_24 rfl rfl ?_
        refine zz_goto zd_2_4_27 ?_
        refine zz_less (ls1 := [some (.ref 1072), some (zi (x1 + 1))]) ⟨rfl, ⟨rfl, trivial⟩⟩ ?_
        exact k2 (x1 + 1) S G_S F_S (by omega) (by omega)
      · exfalso; omega
    · refine zz_if_eq (by omega) zd_2_4_19 (fun c9 => ?_) (fun c9 => ?_)
      · exfalso; omega
      · refine zz_iload_n (x := x1) rfl zd_2_4_22 ?_
        exact zz_iret zd_2_4_23 rfl (Nat.zero_le _) (Nat.zero_le _) ⟨_, _, rfl, zz_fr.eq F_S, by omega⟩
theorem zi_kindTold_2_4 {g : mm_G} {l : Launch}  (S0 : zz_S) (n : Nat) (hn : zz_end ≤ n) (G_S0 : zz_G S0)  : ∀ N : Nat, (∀ (x1 : Int) (S : zz_S), zz_G S → zz_fr [] [] (fun _ _ => False) S0 S → (1 ≤ x1 ∧ x1 ≤ 10) → (9 + 1 - x1).toNat < N → zz_E g l zy_kindTold_2_4 zr_kindTold_2_4 (zz_QI n (zp_kindTold_2_4  S0)) S n 2 [some (.ref 1072), some (zi x1)] [] 0 0) := by
  intro N
  induction N with
  | zero => exact fun x1 S _ _ _ h => absurd h (Nat.not_lt_zero _)
  | succ N ih =>
    exact fun x1 S a b j0 hR => zb_kindTold_2_4_2  S0 n hn G_S0  x1 S a b j0 _ rfl (fun x1 S a b j0 h => ih x1 S a b j0 (Nat.lt_of_lt_of_le h (Nat.le_of_lt_succ hR)))
theorem zc_kindTold_2_4 {g : mm_G} {l : Launch}  (S0 : zz_S) (n : Nat) (hn : zz_end ≤ n) (G_S0 : zz_G S0)  : mm_Met g l zy_kindTold_2_4 zr_kindTold_2_4 [.ref 1072] (zz_M S0 n) n (zz_QI n (zp_kindTold_2_4  S0)) := by
  refine zz_enter (by decide) (Nat.le_of_ble_eq_true rfl) (zz_less (ls1 := [some (.ref 1072)]) ⟨rfl, trivial⟩ ?_)
  have F_S0 : zz_fr [] [] (fun _ _ => False) S0 S0 := zz_fr.refl
  have k2 : ∀ (x1 : Int) (S : zz_S), zz_G S → zz_fr [] [] (fun _ _ => False) S0 S → (1 ≤ x1 ∧ x1 ≤ 10) → zz_E g l zy_kindTold_2_4 zr_kindTold_2_4 (zz_QI n (zp_kindTold_2_4  S0)) S n 2 [some (.ref 1072), some (zi x1)] [] 0 0 := fun x1 S a b j0 => (zi_kindTold_2_4 (g := g) (l := l)  S0 n hn G_S0  _) x1 S a b j0 (Nat.lt_succ_self _)
  refine zz_iconst zd_2_4_0 ?_
  refine zz_istore_n [some (.ref 1072), some (zi 1)] zd_2_4_1 (by decide) rfl ?_
  refine zz_less (ls1 := [some (.ref 1072), some (zi 1)]) ⟨rfl, ⟨rfl, trivial⟩⟩ ?_
  exact k2 1 S0 G_S0 F_S0 (by omega)
theorem zk_Assembler_44 : mm_Vl "TensorForge$Assembler" 44 7 0 zy_kindTold_2_4 := ⟨zyw_kindTold_2_4, (R_Assembler, F_Assembler, 4), rfl, mm_tb_1 577 (by decide +kernel) rfl, mm_tb_1 579 (by decide +kernel) rfl, mm_tb_s 8 (by decide +kernel) rfl⟩
theorem zd_2_3_4 : zz_D zy_readInstruction_2_3 4 (.istore_n 1) 1 5 := ⟨by decide +kernel, rfl⟩
theorem zd_2_3_5 : zz_D zy_readInstruction_2_3 5 (.iload_n 1) 1 6 := ⟨by decide +kernel, rfl⟩
theorem zd_2_3_6 : zz_D zy_readInstruction_2_3 6 (.iconst (-1)) 1 7 := ⟨by decide +kernel, rfl⟩
theorem zd_2_3_7 : zz_B zy_readInstruction_2_3 7 (Instr.if_icmp .ne) 12 10 := ⟨5, by decide +kernel, rfl, rfl⟩
theorem zd_2_3_12 : zz_D zy_readInstruction_2_3 12 (.aload_n 0) 1 13 := ⟨by decide +kernel, rfl⟩
theorem zd_2_3_13 : zz_D zy_readInstruction_2_3 13 (.iconst 0) 1 14 := ⟨by decide +kernel, rfl⟩
theorem zd_2_3_14 : zz_D zy_readInstruction_2_3 14 (.iload_n 1) 1 15 := ⟨by decide +kernel, rfl⟩
theorem zd_2_3_15 : zz_D zy_readInstruction_2_3 15 (.invokestatic 50) 3 18 := ⟨by decide +kernel, rfl⟩
abbrev zy_bits_12_4 : mm_Y := (⟨"TensorForge$Words", "bits", "(II)J"⟩, prog_12_method_4_code, 2, (some .long))
theorem zyw_bits_12_4 : mm_Yw zy_bits_12_4 2 := ⟨mm_tb_1 648 (by decide +kernel) rfl, mm_tb_1 20 (by decide +kernel) rfl, ⟨by decide, by decide⟩, by decide +kernel⟩
theorem zd_12_4_0 : zz_D zy_bits_12_4 0 (.iload_n 0) 1 1 := ⟨by decide +kernel, rfl⟩
theorem zd_12_4_1 : zz_B zy_bits_12_4 1 (Instr.ifCond .lt) 10 4 := ⟨9, by decide +kernel, rfl, rfl⟩
theorem zd_12_4_10 : zz_D zy_bits_12_4 10 (.lconst 0) 1 11 := ⟨by decide +kernel, rfl⟩
theorem zd_12_4_11 : zz_D zy_bits_12_4 11 (.lreturn) 1 12 := ⟨by decide +kernel, rfl⟩
theorem zd_12_4_4 : zz_D zy_bits_12_4 4 (.iload_n 0) 1 5 := ⟨by decide +kernel, rfl⟩
theorem zd_12_4_5 : zz_D zy_bits_12_4 5 (.bipush 12) 2 7 := ⟨by decide +kernel, rfl⟩
theorem zd_12_4_7 : zz_B zy_bits_12_4 7 (Instr.if_icmp .lt) 12 10 := ⟨5, by decide +kernel, rfl, rfl⟩
theorem zd_12_4_12 : zz_D zy_bits_12_4 12 (.iload_n 1) 1 13 := ⟨by decide +kernel, rfl⟩
theorem zd_12_4_13 : zz_D zy_bits_12_4 13 (.getstatic 13) 3 16 := ⟨by decide +kernel, rfl⟩
theorem zd_12_4_16 : zz_D zy_bits_12_4 16 (.iload_n 0) 1 17 := ⟨by decide +kernel, rfl⟩
theorem zd_12_4_17 : zz_D zy_bits_12_4 17 (.iaload) 1 18 := ⟨by decide +kernel, rfl⟩
theorem zd_12_4_18 : zz_D zy_bits_12_4 18 (.iand) 1 19 := ⟨by decide +kernel, rfl⟩
theorem zd_12_4_19 : zz_D zy_bits_12_4 19 (.i2l) 1 20 := ⟨by decide +kernel, rfl⟩
theorem zd_12_4_20 : zz_D zy_bits_12_4 20 (.getstatic 9) 3 23 := ⟨by decide +kernel, rfl⟩
theorem zd_12_4_23 : zz_D zy_bits_12_4 23 (.iload_n 0) 1 24 := ⟨by decide +kernel, rfl⟩
theorem zd_12_4_24 : zz_D zy_bits_12_4 24 (.iaload) 1 25 := ⟨by decide +kernel, rfl⟩
theorem zd_12_4_25 : zz_D zy_bits_12_4 25 (.lshl) 1 26 := ⟨by decide +kernel, rfl⟩
theorem zd_12_4_26 : zz_D zy_bits_12_4 26 (.lreturn) 1 27 := ⟨by decide +kernel, rfl⟩
-- TensorForge$Words bits (II)J
abbrev zr_bits_12_4 : Room := { frames := 0, cells := 0, slots := 0, locals := 0 }
def zp_bits_12_4 (p0 : Int) (p1 : Int) (S0 : zz_S) : Int → zz_S → Prop := fun r S => S0 = S ∧ ((-9223372036854775808) ≤ r ∧ r ≤ 9223372036854775807)
theorem zc_bits_12_4 {g : mm_G} {l : Launch} (p0 : Int) (p1 : Int) (S0 : zz_S) (n : Nat) (hn : zz_end ≤ n) (G_S0 : zz_G S0) (hp0 : (-2147483648) ≤ p0 ∧ p0 ≤ 2147483647) (hp1 : (-2147483648) ≤ p1 ∧ p1 ≤ 2147483647) : mm_Met g l zy_bits_12_4 zr_bits_12_4 [zi p0, zi p1] (zz_M S0 n) n (zz_QJ n (zp_bits_12_4 p0 p1 S0)) := by
  refine zz_enter (by decide) (Nat.le_of_ble_eq_true rfl) (zz_less (ls1 := [some (zi p0), some (zi p1)]) ⟨rfl, ⟨rfl, trivial⟩⟩ ?_)
  refine zz_iload_n (x := p0) rfl zd_12_4_0 ?_
  refine zz_if_lt (by omega) zd_12_4_1 (fun c1 => ?_) (fun c1 => ?_)
  · refine zz_lconst (z := 0) (by decide) zd_12_4_10 ?_
    exact zz_lret zd_12_4_11 rfl (Nat.zero_le _) (Nat.zero_le _) ⟨_, _, rfl, rfl, by omega⟩
  · refine zz_iload_n (x := p0) rfl zd_12_4_4 ?_
    refine zz_bipush (by decide) zd_12_4_5 ?_
    refine zz_icmp_lt (by omega) (by omega) zd_12_4_7 (fun c2 => ?_) (fun c2 => ?_)
    · refine zz_iload_n (x := p1) rfl zd_12_4_12 ?_
      refine zz_gets (q0 := 2) zd_12_4_13 rfl (by decide) zs_Words_13 ?_
      refine zz_iload_n (x := p0) rfl zd_12_4_16 ?_
      obtain ⟨v3, hv3, tv3⟩ := zz_sta2 (i := p0) (by omega)
      refine zz_tiald (N := 12) v3 zd_12_4_17 rfl (by decide) rfl (by decide) (by omega) tv3 ?_
      refine zz_iand (by omega) (by omega) zd_12_4_18 (fun v4 hv4 av4 bv4 ev4 => ?_)
      refine zz_i2l (by omega) zd_12_4_19 ?_
      refine zz_gets (q0 := 1) zd_12_4_20 rfl (by decide) zs_Words_9 ?_
      refine zz_iload_n (x := p0) rfl zd_12_4_23 ?_
      obtain ⟨v5, hv5, tv5⟩ := zz_sta1 (i := p0) (by omega)
      refine zz_tiald (N := 12) v5 zd_12_4_24 rfl (by decide) rfl (by decide) (by omega) tv5 ?_
      refine zz_lshl zd_12_4_25 (fun v6 hv6 ev6 => ?_)
      exact zz_lret zd_12_4_26 rfl (Nat.zero_le _) (Nat.zero_le _) ⟨_, _, rfl, rfl, by omega⟩
    · refine zz_lconst (z := 0) (by decide) zd_12_4_10 ?_
      exact zz_lret zd_12_4_11 rfl (Nat.zero_le _) (Nat.zero_le _) ⟨_, _, rfl, rfl, by omega⟩
theorem zk_Assembler_50 : mm_Sl "TensorForge$Assembler" 50 2 zy_bits_12_4 := ⟨zyw_bits_12_4, mm_tb_1 646 (by decide +kernel) rfl, mm_tb_1 647 (by decide +kernel) rfl⟩
theorem zd_2_3_18 : zz_D zy_readInstruction_2_3 18 (.putfield 19) 3 21 := ⟨by decide +kernel, rfl⟩
theorem zf_Assembler_19 : mm_Fl "TensorForge$Assembler" 19 7 2 .long false := ⟨R_Assembler, F_Assembler, 4, t_Assembler, rfl, i_Assembler, by decide, mm_tb_1 323 (by decide +kernel) rfl, rfl, t_Assembler_ok, n_Assembler, rfl, by decide +kernel⟩
theorem zd_2_3_21 : zz_D zy_readInstruction_2_3 21 (.aload_n 0) 1 22 := ⟨by decide +kernel, rfl⟩
theorem zd_2_3_22 : zz_D zy_readInstruction_2_3 22 (.iconst 0) 1 23 := ⟨by decide +kernel, rfl⟩
theorem zd_2_3_23 : zz_D zy_readInstruction_2_3 23 (.putfield 23) 3 26 := ⟨by decide +kernel, rfl⟩
theorem zf_Assembler_23 : mm_Fl "TensorForge$Assembler" 23 7 3 .int false := ⟨R_Assembler, F_Assembler, 4, t_Assembler, rfl, i_Assembler, by decide, mm_tb_1 324 (by decide +kernel) rfl, rfl, t_Assembler_ok, n_Assembler, rfl, by decide +kernel⟩
theorem zd_2_3_26 : zz_D zy_readInstruction_2_3 26 (.iconst 0) 1 27 := ⟨by decide +kernel, rfl⟩
theorem zd_2_3_27 : zz_D zy_readInstruction_2_3 27 (.istore_n 2) 1 28 := ⟨by decide +kernel, rfl⟩
theorem zd_2_3_10 : zz_D zy_readInstruction_2_3 10 (.iconst 0) 1 11 := ⟨by decide +kernel, rfl⟩
theorem zd_2_3_11 : zz_D zy_readInstruction_2_3 11 (.ireturn) 1 12 := ⟨by decide +kernel, rfl⟩
theorem zd_2_3_28 : zz_D zy_readInstruction_2_3 28 (.iload_n 2) 1 29 := ⟨by decide +kernel, rfl⟩
theorem zd_2_3_29 : zz_D zy_readInstruction_2_3 29 (.sipush 1500) 3 32 := ⟨by decide +kernel, rfl⟩
theorem zd_2_3_32 : zz_B zy_readInstruction_2_3 32 (Instr.if_icmp .gt) 69 35 := ⟨37, by decide +kernel, rfl, rfl⟩
theorem zd_2_3_35 : zz_D zy_readInstruction_2_3 35 (.aload_n 0) 1 36 := ⟨by decide +kernel, rfl⟩
theorem zd_2_3_36 : zz_D zy_readInstruction_2_3 36 (.getfield 9) 3 39 := ⟨by decide +kernel, rfl⟩
theorem zd_2_3_39 : zz_D zy_readInstruction_2_3 39 (.invokevirtual 35) 3 42 := ⟨by decide +kernel, rfl⟩
theorem zd_2_3_42 : zz_D zy_readInstruction_2_3 42 (.aload_n 0) 1 43 := ⟨by decide +kernel, rfl⟩
theorem zd_2_3_43 : zz_D zy_readInstruction_2_3 43 (.getfield 9) 3 46 := ⟨by decide +kernel, rfl⟩
theorem zd_2_3_46 : zz_D zy_readInstruction_2_3 46 (.getfield 38) 3 49 := ⟨by decide +kernel, rfl⟩
theorem zd_2_3_49 : zz_B zy_readInstruction_2_3 49 (Instr.ifCond .ne) 54 52 := ⟨5, by decide +kernel, rfl, rfl⟩
theorem zd_2_3_54 : zz_D zy_readInstruction_2_3 54 (.aload_n 0) 1 55 := ⟨by decide +kernel, rfl⟩
theorem zd_2_3_55 : zz_D zy_readInstruction_2_3 55 (.invokevirtual 54) 3 58 := ⟨by decide +kernel, rfl⟩
abbrev zy_readPart_2_5 : mm_Y := (⟨"TensorForge$Assembler", "readPart", "()Z"⟩, prog_2_method_5_code, 1, (some .boolean))
theorem zyw_readPart_2_5 : mm_Yw zy_readPart_2_5 0 := ⟨mm_tb_1 652 (by decide +kernel) rfl, mm_tb_1 8 (by decide +kernel) rfl, ⟨by decide, by decide⟩, by decide +kernel⟩
theorem zd_2_5_0 : zz_D zy_readPart_2_5 0 (.aload_n 0) 1 1 := ⟨by decide +kernel, rfl⟩
theorem zd_2_5_1 : zz_D zy_readPart_2_5 1 (.getfield 9) 3 4 := ⟨by decide +kernel, rfl⟩
theorem zd_2_5_4 : zz_D zy_readPart_2_5 4 (.ldc 65) 2 6 := ⟨by decide +kernel, rfl⟩
theorem zd_2_5_6 : zz_D zy_readPart_2_5 6 (.invokevirtual 61) 3 9 := ⟨by decide +kernel, rfl⟩
theorem zd_2_5_9 : zz_B zy_readPart_2_5 9 (Instr.ifCond .eq) 18 12 := ⟨9, by decide +kernel, rfl, rfl⟩
theorem zd_2_5_18 : zz_D zy_readPart_2_5 18 (.aload_n 0) 1 19 := ⟨by decide +kernel, rfl⟩
theorem zd_2_5_19 : zz_D zy_readPart_2_5 19 (.getfield 9) 3 22 := ⟨by decide +kernel, rfl⟩
theorem zd_2_5_22 : zz_D zy_readPart_2_5 22 (.ldc 71) 2 24 := ⟨by decide +kernel, rfl⟩
theorem zd_2_5_24 : zz_D zy_readPart_2_5 24 (.invokevirtual 61) 3 27 := ⟨by decide +kernel, rfl⟩
theorem zd_2_5_27 : zz_B zy_readPart_2_5 27 (Instr.ifCond .eq) 66 30 := ⟨39, by decide +kernel, rfl, rfl⟩
theorem zd_2_5_66 : zz_D zy_readPart_2_5 66 (.aload_n 0) 1 67 := ⟨by decide +kernel, rfl⟩
theorem zd_2_5_67 : zz_D zy_readPart_2_5 67 (.getfield 9) 3 70 := ⟨by decide +kernel, rfl⟩
theorem zd_2_5_70 : zz_D zy_readPart_2_5 70 (.ldc 78) 2 72 := ⟨by decide +kernel, rfl⟩
theorem zd_2_5_72 : zz_D zy_readPart_2_5 72 (.invokevirtual 61) 3 75 := ⟨by decide +kernel, rfl⟩
theorem zd_2_5_75 : zz_B zy_readPart_2_5 75 (Instr.ifCond .eq) 85 78 := ⟨10, by decide +kernel, rfl, rfl⟩
theorem zd_2_5_85 : zz_D zy_readPart_2_5 85 (.aload_n 0) 1 86 := ⟨by decide +kernel, rfl⟩
theorem zd_2_5_86 : zz_D zy_readPart_2_5 86 (.getfield 9) 3 89 := ⟨by decide +kernel, rfl⟩
theorem zd_2_5_89 : zz_D zy_readPart_2_5 89 (.ldc 80) 2 91 := ⟨by decide +kernel, rfl⟩
theorem zd_2_5_91 : zz_D zy_readPart_2_5 91 (.invokevirtual 61) 3 94 := ⟨by decide +kernel, rfl⟩
theorem zd_2_5_94 : zz_B zy_readPart_2_5 94 (Instr.ifCond .eq) 104 97 := ⟨10, by decide +kernel, rfl, rfl⟩
theorem zd_2_5_104 : zz_D zy_readPart_2_5 104 (.aload_n 0) 1 105 := ⟨by decide +kernel, rfl⟩
theorem zd_2_5_105 : zz_D zy_readPart_2_5 105 (.getfield 9) 3 108 := ⟨by decide +kernel, rfl⟩
theorem zd_2_5_108 : zz_D zy_readPart_2_5 108 (.ldc 82) 2 110 := ⟨by decide +kernel, rfl⟩
theorem zd_2_5_110 : zz_D zy_readPart_2_5 110 (.invokevirtual 61) 3 113 := ⟨by decide +kernel, rfl⟩
theorem zd_2_5_113 : zz_B zy_readPart_2_5 113 (Instr.ifCond .eq) 123 116 := ⟨10, by decide +kernel, rfl, rfl⟩
theorem zd_2_5_123 : zz_D zy_readPart_2_5 123 (.aload_n 0) 1 124 := ⟨by decide +kernel, rfl⟩
theorem zd_2_5_124 : zz_D zy_readPart_2_5 124 (.getfield 9) 3 127 := ⟨by decide +kernel, rfl⟩
theorem zd_2_5_127 : zz_D zy_readPart_2_5 127 (.ldc 84) 2 129 := ⟨by decide +kernel, rfl⟩
theorem zd_2_5_129 : zz_D zy_readPart_2_5 129 (.invokevirtual 61) 3 132 := ⟨by decide +kernel, rfl⟩
theorem zd_2_5_132 : zz_B zy_readPart_2_5 132 (Instr.ifCond .eq) 142 135 := ⟨10, by decide +kernel, rfl, rfl⟩
theorem zd_2_5_142 : zz_D zy_readPart_2_5 142 (.aload_n 0) 1 143 := ⟨by decide +kernel, rfl⟩
theorem zd_2_5_143 : zz_D zy_readPart_2_5 143 (.getfield 9) 3 146 := ⟨by decide +kernel, rfl⟩
theorem zd_2_5_146 : zz_D zy_readPart_2_5 146 (.ldc 86) 2 148 := ⟨by decide +kernel, rfl⟩
theorem zd_2_5_148 : zz_D zy_readPart_2_5 148 (.invokevirtual 61) 3 151 := ⟨by decide +kernel, rfl⟩
theorem zd_2_5_151 : zz_B zy_readPart_2_5 151 (Instr.ifCond .eq) 161 154 := ⟨10, by decide +kernel, rfl, rfl⟩
theorem zd_2_5_161 : zz_D zy_readPart_2_5 161 (.aload_n 0) 1 162 := ⟨by decide +kernel, rfl⟩
theorem zd_2_5_162 : zz_D zy_readPart_2_5 162 (.getfield 9) 3 165 := ⟨by decide +kernel, rfl⟩
theorem zd_2_5_165 : zz_D zy_readPart_2_5 165 (.ldc 92) 2 167 := ⟨by decide +kernel, rfl⟩
theorem zd_2_5_167 : zz_D zy_readPart_2_5 167 (.invokevirtual 61) 3 170 := ⟨by decide +kernel, rfl⟩
theorem zd_2_5_170 : zz_B zy_readPart_2_5 170 (Instr.ifCond .eq) 186 173 := ⟨16, by decide +kernel, rfl, rfl⟩
theorem zd_2_5_186 : zz_D zy_readPart_2_5 186 (.iconst 0) 1 187 := ⟨by decide +kernel, rfl⟩
theorem zd_2_5_187 : zz_D zy_readPart_2_5 187 (.ireturn) 1 188 := ⟨by decide +kernel, rfl⟩
theorem zd_2_5_173 : zz_D zy_readPart_2_5 173 (.aload_n 0) 1 174 := ⟨by decide +kernel, rfl⟩
theorem zd_2_5_174 : zz_D zy_readPart_2_5 174 (.iconst 3) 1 175 := ⟨by decide +kernel, rfl⟩
theorem zd_2_5_175 : zz_D zy_readPart_2_5 175 (.iconst 4) 1 176 := ⟨by decide +kernel, rfl⟩
theorem zd_2_5_176 : zz_D zy_readPart_2_5 176 (.invokevirtual 88) 3 179 := ⟨by decide +kernel, rfl⟩
abbrev zy_readNeighbour_2_7 : mm_Y := (⟨"TensorForge$Assembler", "readNeighbour", "(II)Z"⟩, prog_2_method_7_code, 3, (some .boolean))
theorem zyw_readNeighbour_2_7 : mm_Yw zy_readNeighbour_2_7 2 := ⟨mm_tb_1 685 (by decide +kernel) rfl, mm_tb_1 8 (by decide +kernel) rfl, ⟨by decide, by decide⟩, by decide +kernel⟩
theorem zd_2_7_0 : zz_D zy_readNeighbour_2_7 0 (.aload_n 0) 1 1 := ⟨by decide +kernel, rfl⟩
theorem zd_2_7_1 : zz_D zy_readNeighbour_2_7 1 (.getfield 9) 3 4 := ⟨by decide +kernel, rfl⟩
theorem zd_2_7_4 : zz_D zy_readNeighbour_2_7 4 (.ldc 107) 2 6 := ⟨by decide +kernel, rfl⟩
theorem zd_2_7_6 : zz_D zy_readNeighbour_2_7 6 (.invokevirtual 75) 3 9 := ⟨by decide +kernel, rfl⟩
abbrev zy_nextIsWord_11_10 : mm_Y := (⟨"TensorForge$Text", "nextIsWord", "(Ljava/lang/String;)Z"⟩, prog_11_method_10_code, 2, (some .boolean))
theorem zyw_nextIsWord_11_10 : mm_Yw zy_nextIsWord_11_10 1 := ⟨mm_tb_1 675 (by decide +kernel) rfl, mm_tb_1 7 (by decide +kernel) rfl, ⟨by decide, by decide⟩, by decide +kernel⟩
theorem zd_11_10_0 : zz_D zy_nextIsWord_11_10 0 (.aload_n 0) 1 1 := ⟨by decide +kernel, rfl⟩
theorem zd_11_10_1 : zz_D zy_nextIsWord_11_10 1 (.invokevirtual 47) 3 4 := ⟨by decide +kernel, rfl⟩
theorem zk_Text_47 : mm_Vl "TensorForge$Text" 47 6 0 zy_nextToken_11_7 := ⟨zyw_nextToken_11_7, (R_Text, F_Text, 7), rfl, mm_tb_1 662 (by decide +kernel) rfl, mm_tb_1 570 (by decide +kernel) rfl, mm_tb_1 571 (by decide +kernel) rfl⟩
theorem zd_11_10_4 : zz_D zy_nextIsWord_11_10 4 (.aload_n 0) 1 5 := ⟨by decide +kernel, rfl⟩
theorem zd_11_10_5 : zz_D zy_nextIsWord_11_10 5 (.aload_n 1) 1 6 := ⟨by decide +kernel, rfl⟩
theorem zd_11_10_6 : zz_D zy_nextIsWord_11_10 6 (.invokevirtual 50) 3 9 := ⟨by decide +kernel, rfl⟩
theorem zk_Text_50 : mm_Vl "TensorForge$Text" 50 6 1 zy_isWord_11_9 := ⟨zyw_isWord_11_9, (R_Text, F_Text, 7), rfl, mm_tb_1 676 (by decide +kernel) rfl, mm_tb_1 595 (by decide +kernel) rfl, mm_tb_1 596 (by decide +kernel) rfl⟩
theorem zd_11_10_9 : zz_D zy_nextIsWord_11_10 9 (.ireturn) 1 10 := ⟨by decide +kernel, rfl⟩
-- TensorForge$Text nextIsWord (Ljava/lang/String;)Z
abbrev zr_nextIsWord_11_10 : Room := { frames := 5, cells := 0, slots := 0, locals := 68 }
def zp_nextIsWord_11_10 (p0 : Nat) (S0 : zz_S) : Int → zz_S → Prop := fun r S => zz_G S ∧ zz_fr [(1070, 3), (1070, 4), (1070, 5), (1070, 6)] [] (fun _ _ => False) S0 S ∧ (0 ≤ r ∧ r ≤ 1)
theorem zc_nextIsWord_11_10 {g : mm_G} {l : Launch} (p0 : Nat) (S0 : zz_S) (n : Nat) (hn : zz_end ≤ n) (G_S0 : zz_G S0) (hp0 : p0 < 59) : mm_Met g l zy_nextIsWord_11_10 zr_nextIsWord_11_10 [.ref 1070, .ref (100 + p0)] (zz_M S0 n) n (zz_QI n (zp_nextIsWord_11_10 p0 S0)) := by
  refine zz_enter (by decide) (Nat.le_of_ble_eq_true rfl) (zz_less (ls1 := [some (.ref 1070), some (.ref (100 + p0))]) ⟨rfl, ⟨rfl, trivial⟩⟩ ?_)
  have F_S0 : zz_fr [(1070, 3), (1070, 4), (1070, 5), (1070, 6)] [] (fun _ _ => False) S0 S0 := zz_fr.refl
  refine zz_aload_n (x := 1070) rfl zd_11_10_0 ?_
  refine zz_callVV [] zd_11_10_1 zk_Text_47 zT_1070 (zz_ltn hn rfl) rfl rfl ⟨Nat.le_of_ble_eq_true rfl, Nat.le_of_ble_eq_true rfl⟩ ⟨rfl, rfl⟩ (Nat.zero_le _) (Nat.zero_le _) (zc_nextToken_11_7  S0 n hn G_S0 ) (fun S1 hP => ?_)
  obtain ⟨G_S1, fS1⟩ := hP
  have F_S1 := zz_fr.trans F_S0 fS1 rfl zz_nv
  refine zz_aload_n (x := 1070) rfl zd_11_10_4 ?_
  refine zz_aload_n (x := 100 + p0) rfl zd_11_10_5 ?_
  refine zz_callVI [.ref (100 + p0)] zd_11_10_6 zk_Text_50 zT_1070 (zz_ltn hn rfl) rfl rfl ⟨Nat.le_of_ble_eq_true rfl, Nat.le_of_ble_eq_true rfl⟩ ⟨rfl, rfl⟩ (Nat.zero_le _) (Nat.zero_le _) (zc_isWord_11_9 p0 S1 n hn G_S1 (by omega)) (fun v4 S3 hP => ?_)
  obtain ⟨rfl, o5⟩ := hP
  rcases (by omega : v4 = 0 ∨ v4 = 1) with rfl | rfl
  · exact zz_zret zd_11_10_9 rfl (by omega) (Nat.zero_le _) (Nat.zero_le _) ⟨_, _, rfl, G_S1, F_S1, by omega⟩
  · exact zz_zret zd_11_10_9 rfl (by omega) (Nat.zero_le _) (Nat.zero_le _) ⟨_, _, rfl, G_S1, F_S1, by omega⟩
theorem zk_Assembler_75 : mm_Vl "TensorForge$Assembler" 75 6 1 zy_nextIsWord_11_10 := ⟨zyw_nextIsWord_11_10, (R_Text, F_Text, 7), rfl, mm_tb_1 672 (by decide +kernel) rfl, mm_tb_1 673 (by decide +kernel) rfl, mm_tb_1 674 (by decide +kernel) rfl⟩
theorem zd_2_7_9 : zz_B zy_readNeighbour_2_7 9 (Instr.ifCond .eq) 19 12 := ⟨10, by decide +kernel, rfl, rfl⟩
theorem zd_2_7_19 : zz_D zy_readNeighbour_2_7 19 (.aload_n 0) 1 20 := ⟨by decide +kernel, rfl⟩
theorem zd_2_7_20 : zz_D zy_readNeighbour_2_7 20 (.getfield 9) 3 23 := ⟨by decide +kernel, rfl⟩
theorem zd_2_7_23 : zz_D zy_readNeighbour_2_7 23 (.ldc 109) 2 25 := ⟨by decide +kernel, rfl⟩
theorem zd_2_7_25 : zz_D zy_readNeighbour_2_7 25 (.invokevirtual 61) 3 28 := ⟨by decide +kernel, rfl⟩
theorem zd_2_7_28 : zz_B zy_readNeighbour_2_7 28 (Instr.ifCond .eq) 44 31 := ⟨16, by decide +kernel, rfl, rfl⟩
theorem zd_2_7_44 : zz_D zy_readNeighbour_2_7 44 (.iconst 0) 1 45 := ⟨by decide +kernel, rfl⟩
theorem zd_2_7_45 : zz_D zy_readNeighbour_2_7 45 (.ireturn) 1 46 := ⟨by decide +kernel, rfl⟩
theorem zd_2_7_31 : zz_D zy_readNeighbour_2_7 31 (.aload_n 0) 1 32 := ⟨by decide +kernel, rfl⟩
theorem zd_2_7_32 : zz_D zy_readNeighbour_2_7 32 (.iload_n 2) 1 33 := ⟨by decide +kernel, rfl⟩
theorem zd_2_7_33 : zz_D zy_readNeighbour_2_7 33 (.iconst 1) 1 34 := ⟨by decide +kernel, rfl⟩
theorem zd_2_7_34 : zz_D zy_readNeighbour_2_7 34 (.invokevirtual 104) 3 37 := ⟨by decide +kernel, rfl⟩
abbrev zy_setOnce_2_8 : mm_Y := (⟨"TensorForge$Assembler", "setOnce", "(II)Z"⟩, prog_2_method_8_code, 3, (some .boolean))
theorem zyw_setOnce_2_8 : mm_Yw zy_setOnce_2_8 2 := ⟨mm_tb_1 669 (by decide +kernel) rfl, mm_tb_1 8 (by decide +kernel) rfl, ⟨by decide, by decide⟩, by decide +kernel⟩
theorem zd_2_8_0 : zz_D zy_setOnce_2_8 0 (.aload_n 0) 1 1 := ⟨by decide +kernel, rfl⟩
theorem zd_2_8_1 : zz_D zy_setOnce_2_8 1 (.getfield 23) 3 4 := ⟨by decide +kernel, rfl⟩
theorem zd_2_8_4 : zz_D zy_setOnce_2_8 4 (.iload_n 1) 1 5 := ⟨by decide +kernel, rfl⟩
theorem zd_2_8_5 : zz_D zy_setOnce_2_8 5 (.ishr) 1 6 := ⟨by decide +kernel, rfl⟩
theorem zd_2_8_6 : zz_D zy_setOnce_2_8 6 (.iconst 1) 1 7 := ⟨by decide +kernel, rfl⟩
theorem zd_2_8_7 : zz_D zy_setOnce_2_8 7 (.iand) 1 8 := ⟨by decide +kernel, rfl⟩
theorem zd_2_8_8 : zz_D zy_setOnce_2_8 8 (.iconst 1) 1 9 := ⟨by decide +kernel, rfl⟩
theorem zd_2_8_9 : zz_B zy_setOnce_2_8 9 (Instr.if_icmp .ne) 14 12 := ⟨5, by decide +kernel, rfl, rfl⟩
theorem zd_2_8_14 : zz_D zy_setOnce_2_8 14 (.aload_n 0) 1 15 := ⟨by decide +kernel, rfl⟩
theorem zd_2_8_15 : zz_D zy_setOnce_2_8 15 (.dup) 1 16 := ⟨by decide +kernel, rfl⟩
theorem zd_2_8_16 : zz_D zy_setOnce_2_8 16 (.getfield 23) 3 19 := ⟨by decide +kernel, rfl⟩
theorem zd_2_8_19 : zz_D zy_setOnce_2_8 19 (.iconst 1) 1 20 := ⟨by decide +kernel, rfl⟩
theorem zd_2_8_20 : zz_D zy_setOnce_2_8 20 (.iload_n 1) 1 21 := ⟨by decide +kernel, rfl⟩
theorem zd_2_8_21 : zz_D zy_setOnce_2_8 21 (.ishl) 1 22 := ⟨by decide +kernel, rfl⟩
theorem zd_2_8_22 : zz_D zy_setOnce_2_8 22 (.ior) 1 23 := ⟨by decide +kernel, rfl⟩
theorem zd_2_8_23 : zz_D zy_setOnce_2_8 23 (.putfield 23) 3 26 := ⟨by decide +kernel, rfl⟩
theorem zd_2_8_26 : zz_D zy_setOnce_2_8 26 (.aload_n 0) 1 27 := ⟨by decide +kernel, rfl⟩
theorem zd_2_8_27 : zz_D zy_setOnce_2_8 27 (.dup) 1 28 := ⟨by decide +kernel, rfl⟩
theorem zd_2_8_28 : zz_D zy_setOnce_2_8 28 (.getfield 19) 3 31 := ⟨by decide +kernel, rfl⟩
theorem zd_2_8_31 : zz_D zy_setOnce_2_8 31 (.iload_n 1) 1 32 := ⟨by decide +kernel, rfl⟩
theorem zd_2_8_32 : zz_D zy_setOnce_2_8 32 (.iload_n 2) 1 33 := ⟨by decide +kernel, rfl⟩
theorem zd_2_8_33 : zz_D zy_setOnce_2_8 33 (.invokestatic 50) 3 36 := ⟨by decide +kernel, rfl⟩
theorem zd_2_8_36 : zz_D zy_setOnce_2_8 36 (.lor) 1 37 := ⟨by decide +kernel, rfl⟩
theorem zd_2_8_37 : zz_D zy_setOnce_2_8 37 (.putfield 19) 3 40 := ⟨by decide +kernel, rfl⟩
theorem zd_2_8_40 : zz_D zy_setOnce_2_8 40 (.iconst 1) 1 41 := ⟨by decide +kernel, rfl⟩
theorem zd_2_8_41 : zz_D zy_setOnce_2_8 41 (.ireturn) 1 42 := ⟨by decide +kernel, rfl⟩
theorem zd_2_8_12 : zz_D zy_setOnce_2_8 12 (.iconst 0) 1 13 := ⟨by decide +kernel, rfl⟩
theorem zd_2_8_13 : zz_D zy_setOnce_2_8 13 (.ireturn) 1 14 := ⟨by decide +kernel, rfl⟩
-- TensorForge$Assembler setOnce (II)Z
abbrev zr_setOnce_2_8 : Room := { frames := 1, cells := 0, slots := 0, locals := 16 }
def zp_setOnce_2_8 (p0 : Int) (p1 : Int) (S0 : zz_S) : Int → zz_S → Prop := fun r S => zz_G S ∧ zz_fr [(1072, 2), (1072, 3)] [] (fun _ _ => False) S0 S ∧ (0 ≤ r ∧ r ≤ 1)
theorem zc_setOnce_2_8 {g : mm_G} {l : Launch} (p0 : Int) (p1 : Int) (S0 : zz_S) (n : Nat) (hn : zz_end ≤ n) (G_S0 : zz_G S0) (hp0 : (-2147483648) ≤ p0 ∧ p0 ≤ 2147483647) (hp1 : (-2147483648) ≤ p1 ∧ p1 ≤ 2147483647) : mm_Met g l zy_setOnce_2_8 zr_setOnce_2_8 [.ref 1072, zi p0, zi p1] (zz_M S0 n) n (zz_QI n (zp_setOnce_2_8 p0 p1 S0)) := by
  refine zz_enter (by decide) (Nat.le_of_ble_eq_true rfl) (zz_less (ls1 := [some (.ref 1072), some (zi p0), some (zi p1)]) ⟨rfl, ⟨rfl, ⟨rfl, trivial⟩⟩⟩ ?_)
  have F_S0 : zz_fr [(1072, 2), (1072, 3)] [] (fun _ _ => False) S0 S0 := zz_fr.refl
  refine zz_aload_n (x := 1072) rfl zd_2_8_0 ?_
  have g1 := zz_G.r G_S0 1072 3 (-2147483648) 2147483647 rfl rfl
  refine zz_geti (z := S0 1072 3) zd_2_8_1 zf_Assembler_23 zT_1072 rfl (zz_ltn hn rfl) rfl ?_
  refine zz_iload_n (x := p0) rfl zd_2_8_4 ?_
  refine zz_ishr zd_2_8_5 (fun v2 hv2 ev2 => ?_)
  refine zz_iconst zd_2_8_6 ?_
  refine zz_iand (by omega) (by omega) zd_2_8_7 (fun v3 hv3 av3 bv3 ev3 => ?_)
  refine zz_iconst zd_2_8_8 ?_
  refine zz_icmp_ne (by omega) (by omega) zd_2_8_9 (fun c4 => ?_) (fun c4 => ?_)
  · refine zz_aload_n (x := 1072) rfl zd_2_8_14 ?_
    refine zz_dup rfl zd_2_8_15 ?_
    refine zz_geti (z := S0 1072 3) zd_2_8_16 zf_Assembler_23 zT_1072 rfl (zz_ltn hn rfl) rfl ?_
    refine zz_iconst zd_2_8_19 ?_
    refine zz_iload_n (x := p0) rfl zd_2_8_20 ?_
    refine zz_ishl zd_2_8_21 (fun v5 hv5 ev5 => ?_)
    refine zz_ior (by omega) (by omega) zd_2_8_22 (fun v6 hv6 av6 ev6 => ?_)
    refine zz_puti zd_2_8_23 zf_Assembler_23 zT_1072 rfl (zz_ltn hn rfl) (fun S7 qS7 => ?_)
    have G_S7 := zz_G.put G_S0 qS7 (-2147483648) 2147483647 rfl (by omega)
    have F_S7 := zz_fr.puts F_S0 qS7 rfl
    refine zz_aload_n (x := 1072) rfl zd_2_8_26 ?_
    refine zz_dup rfl zd_2_8_27 ?_
    have g8 := zz_G.r G_S0 1072 2 (-9223372036854775808) 9223372036854775807 rfl rfl
    refine zz_getl (z := S0 1072 2) zd_2_8_28 zf_Assembler_19 zT_1072 rfl (zz_ltn hn rfl) (zz_ro qS7 (fun h => absurd h.2 (by decide)) rfl) ?_
    refine zz_iload_n (x := p0) rfl zd_2_8_31 ?_
    refine zz_iload_n (x := p1) rfl zd_2_8_32 ?_
    refine zz_callSJ [zi p0, zi p1] zd_2_8_33 zk_Assembler_50 rfl rfl ⟨Nat.le_of_ble_eq_true rfl, Nat.le_of_ble_eq_true rfl⟩ ⟨rfl, rfl⟩ (Nat.zero_le _) (Nat.zero_le _) (zc_bits_12_4 p0 p1 S7 n hn G_S7 (by omega) (by omega)) (fun v10 S9 hP => ?_)
    obtain ⟨rfl, o11⟩ := hP
    refine zz_lor zd_2_8_36 (fun v12 hv12 ev12 => ?_)
    refine zz_putl zd_2_8_37 zf_Assembler_19 zT_1072 rfl (zz_ltn hn rfl) (fun S13 qS13 => ?_)
    have G_S13 := zz_G.put G_S7 qS13 (-9223372036854775808) 9223372036854775807 rfl (by omega)
    have F_S13 := zz_fr.puts F_S7 qS13 rfl
    refine zz_iconst zd_2_8_40 ?_
    exact zz_zret zd_2_8_41 rfl (by omega) (Nat.zero_le _) (Nat.zero_le _) ⟨_, _, rfl, G_S13, F_S13, by omega⟩
  · refine zz_iconst zd_2_8_12 ?_
    exact zz_zret zd_2_8_13 rfl (by omega) (Nat.zero_le _) (Nat.zero_le _) ⟨_, _, rfl, G_S0, F_S0, by omega⟩
theorem zk_Assembler_104 : mm_Vl "TensorForge$Assembler" 104 7 2 zy_setOnce_2_8 := ⟨zyw_setOnce_2_8, (R_Assembler, F_Assembler, 4), rfl, mm_tb_1 666 (by decide +kernel) rfl, mm_tb_1 668 (by decide +kernel) rfl, mm_tb_s 11 (by decide +kernel) rfl⟩
theorem zd_2_7_37 : zz_B zy_readNeighbour_2_7 37 (Instr.ifCond .eq) 44 40 := ⟨7, by decide +kernel, rfl, rfl⟩
theorem zd_2_7_40 : zz_D zy_readNeighbour_2_7 40 (.iconst 1) 1 41 := ⟨by decide +kernel, rfl⟩
theorem zd_2_7_41 : zz_B zy_readNeighbour_2_7 41 Instr.goto 45 44 := ⟨4, by decide +kernel, rfl, rfl⟩
theorem zd_2_7_12 : zz_D zy_readNeighbour_2_7 12 (.aload_n 0) 1 13 := ⟨by decide +kernel, rfl⟩
theorem zd_2_7_13 : zz_D zy_readNeighbour_2_7 13 (.iload_n 1) 1 14 := ⟨by decide +kernel, rfl⟩
theorem zd_2_7_14 : zz_D zy_readNeighbour_2_7 14 (.iconst 1) 1 15 := ⟨by decide +kernel, rfl⟩
theorem zd_2_7_15 : zz_D zy_readNeighbour_2_7 15 (.invokevirtual 104) 3 18 := ⟨by decide +kernel, rfl⟩
theorem zd_2_7_18 : zz_D zy_readNeighbour_2_7 18 (.ireturn) 1 19 := ⟨by decide +kernel, rfl⟩
-- TensorForge$Assembler readNeighbour (II)Z
abbrev zr_readNeighbour_2_7 : Room := { frames := 6, cells := 0, slots := 0, locals := 81 }
def zp_readNeighbour_2_7 (p0 : Int) (p1 : Int) (S0 : zz_S) : Int → zz_S → Prop := fun r S => zz_G S ∧ zz_fr [(1070, 3), (1070, 4), (1070, 5), (1070, 6), (1072, 2), (1072, 3)] [] (fun _ _ => False) S0 S ∧ (0 ≤ r ∧ r ≤ 1)
theorem zc_readNeighbour_2_7 {g : mm_G} {l : Launch} (p0 : Int) (p1 : Int) (S0 : zz_S) (n : Nat) (hn : zz_end ≤ n) (G_S0 : zz_G S0) (hp0 : (-2147483648) ≤ p0 ∧ p0 ≤ 2147483647) (hp1 : (-2147483648) ≤ p1 ∧ p1 ≤ 2147483647) : mm_Met g l zy_readNeighbour_2_7 zr_readNeighbour_2_7 [.ref 1072, zi p0, zi p1] (zz_M S0 n) n (zz_QI n (zp_readNeighbour_2_7 p0 p1 S0)) := by
  refine zz_enter (by decide) (Nat.le_of_ble_eq_true rfl) (zz_less (ls1 := [some (.ref 1072), some (zi p0), some (zi p1)]) ⟨rfl, ⟨rfl, ⟨rfl, trivial⟩⟩⟩ ?_)
  have F_S0 : zz_fr [(1070, 3), (1070, 4), (1070, 5), (1070, 6), (1072, 2), (1072, 3)] [] (fun _ _ => False) S0 S0 := zz_fr.refl
  refine zz_aload_n (x := 1072) rfl zd_2_7_0 ?_
  refine zz_getr (kd := 0) (z := 1070) zd_2_7_1 zf_Assembler_9 zT_1072 rfl (zz_ltn hn rfl) (zz_G.eq G_S0 1072 0 1070 rfl rfl) (by decide) 1070 rfl ?_
  refine zz_ldcs (t := 18) (by decide +kernel) (by decide) zd_2_7_4 ?_
  refine zz_callVI [.ref (100 + 18)] zd_2_7_6 zk_Assembler_75 zT_1070 (zz_ltn hn rfl) rfl rfl ⟨Nat.le_of_ble_eq_true rfl, Nat.le_of_ble_eq_true rfl⟩ ⟨rfl, rfl⟩ (Nat.zero_le _) (Nat.zero_le _) (zc_nextIsWord_11_10 18 S0 n hn G_S0 (by omega)) (fun v2 S1 hP => ?_)
  obtain ⟨G_S1, fS1, o3⟩ := hP
  have F_S1 := zz_fr.trans F_S0 fS1 rfl zz_nv
  rcases (by omega : v2 = 0 ∨ v2 = 1) with rfl | rfl
  · refine zz_if_eq (by omega) zd_2_7_9 (fun c4 => ?_) (fun c4 => ?_)
    · refine zz_aload_n (x := 1072) rfl zd_2_7_19 ?_
      refine zz_getr (kd := 0) (z := 1070) zd_2_7_20 zf_Assembler_9 zT_1072 rfl (zz_ltn hn rfl) (zz_G.eq G_S1 1072 0 1070 rfl rfl) (by decide) 1070 rfl ?_
      refine zz_ldcs (t := 19) (by decide +kernel) (by decide) zd_2_7_23 ?_
      refine zz_callVI [.ref (100 + 19)] zd_2_7_25 zk_Assembler_61 zT_1070 (zz_ltn hn rfl) rfl rfl ⟨Nat.le_of_ble_eq_true rfl, Nat.le_of_ble_eq_true rfl⟩ ⟨rfl, rfl⟩ (Nat.zero_le _) (Nat.zero_le _) (zc_isWord_11_9 19 S1 n hn G_S1 (by omega)) (fun v6 S5 hP => ?_)
      obtain ⟨rfl, o7⟩ := hP
      rcases (by omega : v6 = 0 ∨ v6 = 1) with rfl | rfl
      · refine zz_if_eq (by omega) zd_2_7_28 (fun c8 => ?_) (fun c8 => ?_)
        · refine zz_iconst zd_2_7_44 ?_
          exact zz_zret zd_2_7_45 rfl (by omega) (Nat.zero_le _) (Nat.zero_le _) ⟨_, _, rfl, G_S1, F_S1, by omega⟩
        · exfalso; omega
      · refine zz_if_eq (by omega) zd_2_7_28 (fun c9 => ?_) (fun c9 => ?_)
        · exfalso; omega
        · refine zz_aload_n (x := 1072) rfl zd_2_7_31 ?_
          refine zz_iload_n (x := p1) rfl zd_2_7_32 ?_
          refine zz_iconst zd_2_7_33 ?_
          refine zz_callVI [zi p1, zi 1] zd_2_7_34 zk_Assembler_104 zT_1072 (zz_ltn hn rfl) rfl rfl ⟨Nat.le_of_ble_eq_true rfl, Nat.le_of_ble_eq_true rfl⟩ ⟨rfl, rfl⟩ (Nat.zero_le _) (Nat.zero_le _) (zc_setOnce_2_8 p1 1 S1 n hn G_S1 (by omega) (by omega)) (fun v11 S10 hP => ?_)
          obtain ⟨G_S10, fS10, o12⟩ := hP
          have F_S10 := zz_fr.trans F_S1 fS10 rfl zz_nv
          rcases (by omega : v11 = 0 ∨ v11 = 1) with rfl | rfl
          · refine zz_if_eq (by omega) zd_2_7_37 (fun c13 => ?_) (fun c13 => ?_)
            · refine zz_iconst zd_2_7_44 ?_
              exact zz_zret zd_2_7_45 rfl (by omega) (Nat.zero_le _) (Nat.zero_le _) ⟨_, _, rfl, G_S10, F_S10, by omega⟩
            · exfalso; omega
          · refine zz_if_eq (by omega) zd_2_7_37 (fun c14 => ?_) (fun c14 => ?_)
            · exfalso; omega
            · refine zz_iconst zd_2_7_40 ?_
              refine zz_goto zd_2_7_41 ?_
              exact zz_zret zd_2_7_45 rfl (by omega) (Nat.zero_le _) (Nat.zero_le _) ⟨_, _, rfl, G_S10, F_S10, by omega⟩
    · exfalso; omega
  · refine zz_if_eq (by omega) zd_2_7_9 (fun c15 => ?_) (fun c15 => ?_)
    · exfalso; omega
    · refine zz_aload_n (x := 1072) rfl zd_2_7_12 ?_
      refine zz_iload_n (x := p0) rfl zd_2_7_13 ?_
      refine zz_iconst zd_2_7_14 ?_
      refine zz_callVI [zi p0, zi 1] zd_2_7_15 zk_Assembler_104 zT_1072 (zz_ltn hn rfl) rfl rfl ⟨Nat.le_of_ble_eq_true rfl, Nat.le_of_ble_eq_true rfl⟩ ⟨rfl, rfl⟩ (Nat.zero_le _) (Nat.zero_le _) (zc_setOnce_2_8 p0 1 S1 n hn G_S1 (by omega) (by omega)) (fun v17 S16 hP => ?_)
      obtain ⟨G_S16, fS16, o18⟩ := hP
      have F_S16 := zz_fr.trans F_S1 fS16 rfl zz_nv
      rcases (by omega : v17 = 0 ∨ v17 = 1) with rfl | rfl
      · exact zz_zret zd_2_7_18 rfl (by omega) (Nat.zero_le _) (Nat.zero_le _) ⟨_, _, rfl, G_S16, F_S16, by omega⟩
      · exact zz_zret zd_2_7_18 rfl (by omega) (Nat.zero_le _) (Nat.zero_le _) ⟨_, _, rfl, G_S16, F_S16, by omega⟩
theorem zk_Assembler_88 : mm_Vl "TensorForge$Assembler" 88 7 2 zy_readNeighbour_2_7 := ⟨zyw_readNeighbour_2_7, (R_Assembler, F_Assembler, 4), rfl, mm_tb_1 682 (by decide +kernel) rfl, mm_tb_1 684 (by decide +kernel) rfl, mm_tb_s 12 (by decide +kernel) rfl⟩
theorem zd_2_5_179 : zz_B zy_readPart_2_5 179 (Instr.ifCond .eq) 186 182 := ⟨7, by decide +kernel, rfl, rfl⟩
theorem zd_2_5_182 : zz_D zy_readPart_2_5 182 (.iconst 1) 1 183 := ⟨by decide +kernel, rfl⟩
theorem zd_2_5_183 : zz_B zy_readPart_2_5 183 Instr.goto 187 186 := ⟨4, by decide +kernel, rfl, rfl⟩
theorem zd_2_5_154 : zz_D zy_readPart_2_5 154 (.aload_n 0) 1 155 := ⟨by decide +kernel, rfl⟩
theorem zd_2_5_155 : zz_D zy_readPart_2_5 155 (.iconst 1) 1 156 := ⟨by decide +kernel, rfl⟩
theorem zd_2_5_156 : zz_D zy_readPart_2_5 156 (.iconst 2) 1 157 := ⟨by decide +kernel, rfl⟩
theorem zd_2_5_157 : zz_D zy_readPart_2_5 157 (.invokevirtual 88) 3 160 := ⟨by decide +kernel, rfl⟩
theorem zd_2_5_160 : zz_D zy_readPart_2_5 160 (.ireturn) 1 161 := ⟨by decide +kernel, rfl⟩
theorem zd_2_5_135 : zz_D zy_readPart_2_5 135 (.aload_n 0) 1 136 := ⟨by decide +kernel, rfl⟩
theorem zd_2_5_136 : zz_D zy_readPart_2_5 136 (.bipush 11) 2 138 := ⟨by decide +kernel, rfl⟩
theorem zd_2_5_138 : zz_D zy_readPart_2_5 138 (.invokevirtual 67) 3 141 := ⟨by decide +kernel, rfl⟩
abbrev zy_readNumber_2_6 : mm_Y := (⟨"TensorForge$Assembler", "readNumber", "(I)Z"⟩, prog_2_method_6_code, 2, (some .boolean))
theorem zyw_readNumber_2_6 : mm_Yw zy_readNumber_2_6 1 := ⟨mm_tb_1 657 (by decide +kernel) rfl, mm_tb_1 8 (by decide +kernel) rfl, ⟨by decide, by decide⟩, by decide +kernel⟩
theorem zd_2_6_0 : zz_D zy_readNumber_2_6 0 (.aload_n 0) 1 1 := ⟨by decide +kernel, rfl⟩
theorem zd_2_6_1 : zz_D zy_readNumber_2_6 1 (.getfield 9) 3 4 := ⟨by decide +kernel, rfl⟩
theorem zd_2_6_4 : zz_D zy_readNumber_2_6 4 (.invokevirtual 94) 3 7 := ⟨by decide +kernel, rfl⟩
abbrev zy_nextIsNumber_11_11 : mm_Y := (⟨"TensorForge$Text", "nextIsNumber", "()Z"⟩, prog_11_method_11_code, 1, (some .boolean))
theorem zyw_nextIsNumber_11_11 : mm_Yw zy_nextIsNumber_11_11 0 := ⟨mm_tb_1 661 (by decide +kernel) rfl, mm_tb_1 7 (by decide +kernel) rfl, ⟨by decide, by decide⟩, by decide +kernel⟩
theorem zd_11_11_0 : zz_D zy_nextIsNumber_11_11 0 (.aload_n 0) 1 1 := ⟨by decide +kernel, rfl⟩
theorem zd_11_11_1 : zz_D zy_nextIsNumber_11_11 1 (.invokevirtual 47) 3 4 := ⟨by decide +kernel, rfl⟩
theorem zd_11_11_4 : zz_D zy_nextIsNumber_11_11 4 (.aload_n 0) 1 5 := ⟨by decide +kernel, rfl⟩
theorem zd_11_11_5 : zz_D zy_nextIsNumber_11_11 5 (.getfield 28) 3 8 := ⟨by decide +kernel, rfl⟩
theorem zd_11_11_8 : zz_D zy_nextIsNumber_11_11 8 (.iconst 2) 1 9 := ⟨by decide +kernel, rfl⟩
theorem zd_11_11_9 : zz_B zy_nextIsNumber_11_11 9 (Instr.if_icmp .ne) 16 12 := ⟨7, by decide +kernel, rfl, rfl⟩
theorem zd_11_11_16 : zz_D zy_nextIsNumber_11_11 16 (.iconst 0) 1 17 := ⟨by decide +kernel, rfl⟩
theorem zd_11_11_17 : zz_D zy_nextIsNumber_11_11 17 (.ireturn) 1 18 := ⟨by decide +kernel, rfl⟩
theorem zd_11_11_12 : zz_D zy_nextIsNumber_11_11 12 (.iconst 1) 1 13 := ⟨by decide +kernel, rfl⟩
theorem zd_11_11_13 : zz_B zy_nextIsNumber_11_11 13 Instr.goto 17 16 := ⟨4, by decide +kernel, rfl, rfl⟩
-- TensorForge$Text nextIsNumber ()Z
abbrev zr_nextIsNumber_11_11 : Room := { frames := 1, cells := 0, slots := 0, locals := 12 }
def zp_nextIsNumber_11_11  (S0 : zz_S) : Int → zz_S → Prop := fun r S => zz_G S ∧ zz_fr [(1070, 3), (1070, 4), (1070, 5), (1070, 6)] [] (fun _ _ => False) S0 S ∧ (0 ≤ r ∧ r ≤ 1)
theorem zc_nextIsNumber_11_11 {g : mm_G} {l : Launch}  (S0 : zz_S) (n : Nat) (hn : zz_end ≤ n) (G_S0 : zz_G S0)  : mm_Met g l zy_nextIsNumber_11_11 zr_nextIsNumber_11_11 [.ref 1070] (zz_M S0 n) n (zz_QI n (zp_nextIsNumber_11_11  S0)) := by
  refine zz_enter (by decide) (Nat.le_of_ble_eq_true rfl) (zz_less (ls1 := [some (.ref 1070)]) ⟨rfl, trivial⟩ ?_)
  have F_S0 : zz_fr [(1070, 3), (1070, 4), (1070, 5), (1070, 6)] [] (fun _ _ => False) S0 S0 := zz_fr.refl
  refine zz_aload_n (x := 1070) rfl zd_11_11_0 ?_
  refine zz_callVV [] zd_11_11_1 zk_Text_47 zT_1070 (zz_ltn hn rfl) rfl rfl ⟨Nat.le_of_ble_eq_true rfl, Nat.le_of_ble_eq_true rfl⟩ ⟨rfl, rfl⟩ (Nat.zero_le _) (Nat.zero_le _) (zc_nextToken_11_7  S0 n hn G_S0 ) (fun S1 hP => ?_)
  obtain ⟨G_S1, fS1⟩ := hP
  have F_S1 := zz_fr.trans F_S0 fS1 rfl zz_nv
  refine zz_aload_n (x := 1070) rfl zd_11_11_4 ?_
  have g3 := zz_G.r G_S1 1070 4 (-2147483648) 2147483647 rfl rfl
  refine zz_geti (z := S1 1070 4) zd_11_11_5 zf_Text_28 zT_1070 rfl (zz_ltn hn rfl) rfl ?_
  refine zz_iconst zd_11_11_8 ?_
  refine zz_icmp_ne (by omega) (by omega) zd_11_11_9 (fun c4 => ?_) (fun c4 => ?_)
  · refine zz_iconst zd_11_11_16 ?_
    exact zz_zret zd_11_11_17 rfl (by omega) (Nat.zero_le _) (Nat.zero_le _) ⟨_, _, rfl, G_S1, F_S1, by omega⟩
  · refine zz_iconst zd_11_11_12 ?_
    refine zz_goto zd_11_11_13 ?_
    exact zz_zret zd_11_11_17 rfl (by omega) (Nat.zero_le _) (Nat.zero_le _) ⟨_, _, rfl, G_S1, F_S1, by omega⟩
theorem zk_Assembler_94 : mm_Vl "TensorForge$Assembler" 94 6 0 zy_nextIsNumber_11_11 := ⟨zyw_nextIsNumber_11_11, (R_Text, F_Text, 7), rfl, mm_tb_1 658 (by decide +kernel) rfl, mm_tb_1 659 (by decide +kernel) rfl, mm_tb_1 660 (by decide +kernel) rfl⟩
theorem zd_2_6_7 : zz_B zy_readNumber_2_6 7 (Instr.ifCond .eq) 43 10 := ⟨36, by decide +kernel, rfl, rfl⟩
theorem zd_2_6_43 : zz_D zy_readNumber_2_6 43 (.iconst 0) 1 44 := ⟨by decide +kernel, rfl⟩
theorem zd_2_6_44 : zz_D zy_readNumber_2_6 44 (.ireturn) 1 45 := ⟨by decide +kernel, rfl⟩
theorem zd_2_6_10 : zz_D zy_readNumber_2_6 10 (.aload_n 0) 1 11 := ⟨by decide +kernel, rfl⟩
theorem zd_2_6_11 : zz_D zy_readNumber_2_6 11 (.getfield 9) 3 14 := ⟨by decide +kernel, rfl⟩
theorem zd_2_6_14 : zz_D zy_readNumber_2_6 14 (.getfield 97) 3 17 := ⟨by decide +kernel, rfl⟩
theorem zf_Assembler_97 : mm_Fl "TensorForge$Assembler" 97 6 6 .int false := ⟨R_Text, F_Text, 7, t_Text, rfl, i_Text, by decide, mm_tb_1 297 (by decide +kernel) rfl, rfl, t_Text_ok, n_Text, rfl, by decide +kernel⟩
theorem zd_2_6_17 : zz_D zy_readNumber_2_6 17 (.iload_n 1) 1 18 := ⟨by decide +kernel, rfl⟩
theorem zd_2_6_18 : zz_D zy_readNumber_2_6 18 (.invokestatic 100) 3 21 := ⟨by decide +kernel, rfl⟩
abbrev zy_most_12_7 : mm_Y := (⟨"TensorForge$Words", "most", "(I)I"⟩, prog_12_method_7_code, 1, (some .int))
theorem zyw_most_12_7 : mm_Yw zy_most_12_7 1 := ⟨mm_tb_1 665 (by decide +kernel) rfl, mm_tb_1 20 (by decide +kernel) rfl, ⟨by decide, by decide⟩, by decide +kernel⟩
theorem zd_12_7_0 : zz_D zy_most_12_7 0 (.iload_n 0) 1 1 := ⟨by decide +kernel, rfl⟩
theorem zd_12_7_1 : zz_B zy_most_12_7 1 (Instr.ifCond .lt) 10 4 := ⟨9, by decide +kernel, rfl, rfl⟩
theorem zd_12_7_10 : zz_D zy_most_12_7 10 (.iconst 0) 1 11 := ⟨by decide +kernel, rfl⟩
theorem zd_12_7_11 : zz_B zy_most_12_7 11 Instr.goto 19 14 := ⟨8, by decide +kernel, rfl, rfl⟩
theorem zd_12_7_19 : zz_D zy_most_12_7 19 (.ireturn) 1 20 := ⟨by decide +kernel, rfl⟩
theorem zd_12_7_4 : zz_D zy_most_12_7 4 (.iload_n 0) 1 5 := ⟨by decide +kernel, rfl⟩
theorem zd_12_7_5 : zz_D zy_most_12_7 5 (.bipush 12) 2 7 := ⟨by decide +kernel, rfl⟩
theorem zd_12_7_7 : zz_B zy_most_12_7 7 (Instr.if_icmp .lt) 14 10 := ⟨7, by decide +kernel, rfl, rfl⟩
theorem zd_12_7_14 : zz_D zy_most_12_7 14 (.getstatic 13) 3 17 := ⟨by decide +kernel, rfl⟩
theorem zd_12_7_17 : zz_D zy_most_12_7 17 (.iload_n 0) 1 18 := ⟨by decide +kernel, rfl⟩
theorem zd_12_7_18 : zz_D zy_most_12_7 18 (.iaload) 1 19 := ⟨by decide +kernel, rfl⟩
-- TensorForge$Words most (I)I
abbrev zr_most_12_7 : Room := { frames := 0, cells := 0, slots := 0, locals := 0 }
def zp_most_12_7 (p0 : Int) (S0 : zz_S) : Int → zz_S → Prop := fun r S => S0 = S ∧ ((-2147483648) ≤ r ∧ r ≤ 2147483647)
theorem zc_most_12_7 {g : mm_G} {l : Launch} (p0 : Int) (S0 : zz_S) (n : Nat) (hn : zz_end ≤ n) (G_S0 : zz_G S0) (hp0 : (-2147483648) ≤ p0 ∧ p0 ≤ 2147483647) : mm_Met g l zy_most_12_7 zr_most_12_7 [zi p0] (zz_M S0 n) n (zz_QI n (zp_most_12_7 p0 S0)) := by
  refine zz_enter (by decide) (Nat.le_of_ble_eq_true rfl) (zz_less (ls1 := [some (zi p0)]) ⟨rfl, trivial⟩ ?_)
  refine zz_iload_n (x := p0) rfl zd_12_7_0 ?_
  refine zz_if_lt (by omega) zd_12_7_1 (fun c1 => ?_) (fun c1 => ?_)
  · refine zz_iconst zd_12_7_10 ?_
    refine zz_goto zd_12_7_11 ?_
    exact zz_iret zd_12_7_19 rfl (Nat.zero_le _) (Nat.zero_le _) ⟨_, _, rfl, rfl, by omega⟩
  · refine zz_iload_n (x := p0) rfl zd_12_7_4 ?_
    refine zz_bipush (by decide) zd_12_7_5 ?_
    refine zz_icmp_lt (by omega) (by omega) zd_12_7_7 (fun c2 => ?_) (fun c2 => ?_)
    · refine zz_gets (q0 := 2) zd_12_7_14 rfl (by decide) zs_Words_13 ?_
      refine zz_iload_n (x := p0) rfl zd_12_7_17 ?_
      obtain ⟨v3, hv3, tv3⟩ := zz_sta2 (i := p0) (by omega)
      refine zz_tiald (N := 12) v3 zd_12_7_18 rfl (by decide) rfl (by decide) (by omega) tv3 ?_
      exact zz_iret zd_12_7_19 rfl (Nat.zero_le _) (Nat.zero_le _) ⟨_, _, rfl, rfl, by omega⟩
    · refine zz_iconst zd_12_7_10 ?_
      refine zz_goto zd_12_7_11 ?_
      exact zz_iret zd_12_7_19 rfl (Nat.zero_le _) (Nat.zero_le _) ⟨_, _, rfl, rfl, by omega⟩
theorem zk_Assembler_100 : mm_Sl "TensorForge$Assembler" 100 1 zy_most_12_7 := ⟨zyw_most_12_7, mm_tb_1 663 (by decide +kernel) rfl, mm_tb_1 664 (by decide +kernel) rfl⟩
theorem zd_2_6_21 : zz_B zy_readNumber_2_6 21 (Instr.if_icmp .gt) 43 24 := ⟨22, by decide +kernel, rfl, rfl⟩
theorem zd_2_6_24 : zz_D zy_readNumber_2_6 24 (.aload_n 0) 1 25 := ⟨by decide +kernel, rfl⟩
theorem zd_2_6_25 : zz_D zy_readNumber_2_6 25 (.iload_n 1) 1 26 := ⟨by decide +kernel, rfl⟩
theorem zd_2_6_26 : zz_D zy_readNumber_2_6 26 (.aload_n 0) 1 27 := ⟨by decide +kernel, rfl⟩
theorem zd_2_6_27 : zz_D zy_readNumber_2_6 27 (.getfield 9) 3 30 := ⟨by decide +kernel, rfl⟩
theorem zd_2_6_30 : zz_D zy_readNumber_2_6 30 (.getfield 97) 3 33 := ⟨by decide +kernel, rfl⟩
theorem zd_2_6_33 : zz_D zy_readNumber_2_6 33 (.invokevirtual 104) 3 36 := ⟨by decide +kernel, rfl⟩
theorem zd_2_6_36 : zz_B zy_readNumber_2_6 36 (Instr.ifCond .eq) 43 39 := ⟨7, by decide +kernel, rfl, rfl⟩
theorem zd_2_6_39 : zz_D zy_readNumber_2_6 39 (.iconst 1) 1 40 := ⟨by decide +kernel, rfl⟩
theorem zd_2_6_40 : zz_B zy_readNumber_2_6 40 Instr.goto 44 43 := ⟨4, by decide +kernel, rfl, rfl⟩
-- TensorForge$Assembler readNumber (I)Z
abbrev zr_readNumber_2_6 : Room := { frames := 2, cells := 0, slots := 0, locals := 30 }
def zp_readNumber_2_6 (p0 : Int) (S0 : zz_S) : Int → zz_S → Prop := fun r S => zz_G S ∧ zz_fr [(1070, 3), (1070, 4), (1070, 5), (1070, 6), (1072, 2), (1072, 3)] [] (fun _ _ => False) S0 S ∧ (0 ≤ r ∧ r ≤ 1)
theorem zc_readNumber_2_6 {g : mm_G} {l : Launch} (p0 : Int) (S0 : zz_S) (n : Nat) (hn : zz_end ≤ n) (G_S0 : zz_G S0) (hp0 : (-2147483648) ≤ p0 ∧ p0 ≤ 2147483647) : mm_Met g l zy_readNumber_2_6 zr_readNumber_2_6 [.ref 1072, zi p0] (zz_M S0 n) n (zz_QI n (zp_readNumber_2_6 p0 S0)) := by
  refine zz_enter (by decide) (Nat.le_of_ble_eq_true rfl) (zz_less (ls1 := [some (.ref 1072), some (zi p0)]) ⟨rfl, ⟨rfl, trivial⟩⟩ ?_)
  have F_S0 : zz_fr [(1070, 3), (1070, 4), (1070, 5), (1070, 6), (1072, 2), (1072, 3)] [] (fun _ _ => False) S0 S0 := zz_fr.refl
  refine zz_aload_n (x := 1072) rfl zd_2_6_0 ?_
  refine zz_getr (kd := 0) (z := 1070) zd_2_6_1 zf_Assembler_9 zT_1072 rfl (zz_ltn hn rfl) (zz_G.eq G_S0 1072 0 1070 rfl rfl) (by decide) 1070 rfl ?_
  refine zz_callVI [] zd_2_6_4 zk_Assembler_94 zT_1070 (zz_ltn hn rfl) rfl rfl ⟨Nat.le_of_ble_eq_true rfl, Nat.le_of_ble_eq_true rfl⟩ ⟨rfl, rfl⟩ (Nat.zero_le _) (Nat.zero_le _) (zc_nextIsNumber_11_11  S0 n hn G_S0 ) (fun v2 S1 hP => ?_)
  obtain ⟨G_S1, fS1, o3⟩ := hP
  have F_S1 := zz_fr.trans F_S0 fS1 rfl zz_nv
  rcases (by omega : v2 = 0 ∨ v2 = 1) with rfl | rfl
  · refine zz_if_eq (by omega) zd_2_6_7 (fun c4 => ?_) (fun c4 => ?_)
    · refine zz_iconst zd_2_6_43 ?_
      exact zz_zret zd_2_6_44 rfl (by omega) (Nat.zero_le _) (Nat.zero_le _) ⟨_, _, rfl, G_S1, F_S1, by omega⟩
    · exfalso; omega
  · refine zz_if_eq (by omega) zd_2_6_7 (fun c5 => ?_) (fun c5 => ?_)
    · exfalso; omega
    · refine zz_aload_n (x := 1072) rfl zd_2_6_10 ?_
      refine zz_getr (kd := 0) (z := 1070) zd_2_6_11 zf_Assembler_9 zT_1072 rfl (zz_ltn hn rfl) (zz_G.eq G_S1 1072 0 1070 rfl rfl) (by decide) 1070 rfl ?_
      have g6 := zz_G.r G_S1 1070 6 (-2147483648) 2147483647 rfl rfl
      refine zz_geti (z := S1 1070 6) zd_2_6_14 zf_Assembler_97 zT_1070 rfl (zz_ltn hn rfl) rfl ?_
      refine zz_iload_n (x := p0) rfl zd_2_6_17 ?_
      refine zz_callSI [zi p0] zd_2_6_18 zk_Assembler_100 rfl rfl ⟨Nat.le_of_ble_eq_true rfl, Nat.le_of_ble_eq_true rfl⟩ ⟨rfl, rfl⟩ (Nat.zero_le _) (Nat.zero_le _) (zc_most_12_7 p0 S1 n hn G_S1 (by omega)) (fun v8 S7 hP => ?_)
      obtain ⟨rfl, o9⟩ := hP
      refine zz_icmp_gt (by omega) (by omega) zd_2_6_21 (fun c10 => ?_) (fun c10 => ?_)
      · refine zz_iconst zd_2_6_43 ?_
        exact zz_zret zd_2_6_44 rfl (by omega) (Nat.zero_le _) (Nat.zero_le _) ⟨_, _, rfl, G_S1, F_S1, by omega⟩
      · refine zz_aload_n (x := 1072) rfl zd_2_6_24 ?_
        refine zz_iload_n (x := p0) rfl zd_2_6_25 ?_
        refine zz_aload_n (x := 1072) rfl zd_2_6_26 ?_
        refine zz_getr (kd := 0) (z := 1070) zd_2_6_27 zf_Assembler_9 zT_1072 rfl (zz_ltn hn rfl) (zz_G.eq G_S1 1072 0 1070 rfl rfl) (by decide) 1070 rfl ?_
        refine zz_geti (z := S1 1070 6) zd_2_6_30 zf_Assembler_97 zT_1070 rfl (zz_ltn hn rfl) rfl ?_
        refine zz_callVI [zi p0, zi (S1 1070 6)] zd_2_6_33 zk_Assembler_104 zT_1072 (zz_ltn hn rfl) rfl rfl ⟨Nat.le_of_ble_eq_true rfl, Nat.le_of_ble_eq_true rfl⟩ ⟨rfl, rfl⟩ (Nat.zero_le _) (Nat.zero_le _) (zc_setOnce_2_8 p0 (S1 1070 6) S1 n hn G_S1 (by omega) (by omega)) (fun v12 S11 hP => ?_)
        obtain ⟨G_S11, fS11, o13⟩ := hP
        have F_S11 := zz_fr.trans F_S1 fS11 rfl zz_nv
        rcases (by omega : v12 = 0 ∨ v12 = 1) with rfl | rfl
        · refine zz_if_eq (by omega) zd_2_6_36 (fun c14 => ?_) (fun c14 => ?_)
          · refine zz_iconst zd_2_6_43 ?_
            exact zz_zret zd_2_6_44 rfl (by omega) (Nat.zero_le _) (Nat.zero_le _) ⟨_, _, rfl, G_S11, F_S11, by omega⟩
          · exfalso; omega
        · refine zz_if_eq (by omega) zd_2_6_36 (fun c15 => ?_) (fun c15 => ?_)
          · exfalso; omega
          · refine zz_iconst zd_2_6_39 ?_
            refine zz_goto zd_2_6_40 ?_
            exact zz_zret zd_2_6_44 rfl (by omega) (Nat.zero_le _) (Nat.zero_le _) ⟨_, _, rfl, G_S11, F_S11, by omega⟩
theorem zk_Assembler_67 : mm_Vl "TensorForge$Assembler" 67 7 1 zy_readNumber_2_6 := ⟨zyw_readNumber_2_6, (R_Assembler, F_Assembler, 4), rfl, mm_tb_1 654 (by decide +kernel) rfl, mm_tb_1 656 (by decide +kernel) rfl, mm_tb_s 10 (by decide +kernel) rfl⟩
theorem zd_2_5_141 : zz_D zy_readPart_2_5 141 (.ireturn) 1 142 := ⟨by decide +kernel, rfl⟩
theorem zd_2_5_116 : zz_D zy_readPart_2_5 116 (.aload_n 0) 1 117 := ⟨by decide +kernel, rfl⟩
theorem zd_2_5_117 : zz_D zy_readPart_2_5 117 (.bipush 10) 2 119 := ⟨by decide +kernel, rfl⟩
theorem zd_2_5_119 : zz_D zy_readPart_2_5 119 (.invokevirtual 67) 3 122 := ⟨by decide +kernel, rfl⟩
theorem zd_2_5_122 : zz_D zy_readPart_2_5 122 (.ireturn) 1 123 := ⟨by decide +kernel, rfl⟩
theorem zd_2_5_97 : zz_D zy_readPart_2_5 97 (.aload_n 0) 1 98 := ⟨by decide +kernel, rfl⟩
theorem zd_2_5_98 : zz_D zy_readPart_2_5 98 (.bipush 9) 2 100 := ⟨by decide +kernel, rfl⟩
theorem zd_2_5_100 : zz_D zy_readPart_2_5 100 (.invokevirtual 67) 3 103 := ⟨by decide +kernel, rfl⟩
theorem zd_2_5_103 : zz_D zy_readPart_2_5 103 (.ireturn) 1 104 := ⟨by decide +kernel, rfl⟩
theorem zd_2_5_78 : zz_D zy_readPart_2_5 78 (.aload_n 0) 1 79 := ⟨by decide +kernel, rfl⟩
theorem zd_2_5_79 : zz_D zy_readPart_2_5 79 (.bipush 8) 2 81 := ⟨by decide +kernel, rfl⟩
theorem zd_2_5_81 : zz_D zy_readPart_2_5 81 (.invokevirtual 67) 3 84 := ⟨by decide +kernel, rfl⟩
theorem zd_2_5_84 : zz_D zy_readPart_2_5 84 (.ireturn) 1 85 := ⟨by decide +kernel, rfl⟩
theorem zd_2_5_30 : zz_D zy_readPart_2_5 30 (.aload_n 0) 1 31 := ⟨by decide +kernel, rfl⟩
theorem zd_2_5_31 : zz_D zy_readPart_2_5 31 (.bipush 6) 2 33 := ⟨by decide +kernel, rfl⟩
theorem zd_2_5_33 : zz_D zy_readPart_2_5 33 (.invokevirtual 67) 3 36 := ⟨by decide +kernel, rfl⟩
theorem zd_2_5_36 : zz_B zy_readPart_2_5 36 (Instr.ifCond .eq) 64 39 := ⟨28, by decide +kernel, rfl, rfl⟩
theorem zd_2_5_64 : zz_D zy_readPart_2_5 64 (.iconst 0) 1 65 := ⟨by decide +kernel, rfl⟩
theorem zd_2_5_65 : zz_D zy_readPart_2_5 65 (.ireturn) 1 66 := ⟨by decide +kernel, rfl⟩
theorem zd_2_5_39 : zz_D zy_readPart_2_5 39 (.aload_n 0) 1 40 := ⟨by decide +kernel, rfl⟩
theorem zd_2_5_40 : zz_D zy_readPart_2_5 40 (.getfield 9) 3 43 := ⟨by decide +kernel, rfl⟩
theorem zd_2_5_43 : zz_D zy_readPart_2_5 43 (.ldc 73) 2 45 := ⟨by decide +kernel, rfl⟩
theorem zd_2_5_45 : zz_D zy_readPart_2_5 45 (.invokevirtual 75) 3 48 := ⟨by decide +kernel, rfl⟩
theorem zd_2_5_48 : zz_B zy_readPart_2_5 48 (Instr.ifCond .eq) 64 51 := ⟨16, by decide +kernel, rfl, rfl⟩
theorem zd_2_5_51 : zz_D zy_readPart_2_5 51 (.aload_n 0) 1 52 := ⟨by decide +kernel, rfl⟩
theorem zd_2_5_52 : zz_D zy_readPart_2_5 52 (.bipush 7) 2 54 := ⟨by decide +kernel, rfl⟩
theorem zd_2_5_54 : zz_D zy_readPart_2_5 54 (.invokevirtual 67) 3 57 := ⟨by decide +kernel, rfl⟩
theorem zd_2_5_57 : zz_B zy_readPart_2_5 57 (Instr.ifCond .eq) 64 60 := ⟨7, by decide +kernel, rfl, rfl⟩
theorem zd_2_5_60 : zz_D zy_readPart_2_5 60 (.iconst 1) 1 61 := ⟨by decide +kernel, rfl⟩
theorem zd_2_5_61 : zz_B zy_readPart_2_5 61 Instr.goto 65 64 := ⟨4, by decide +kernel, rfl, rfl⟩
theorem zd_2_5_12 : zz_D zy_readPart_2_5 12 (.aload_n 0) 1 13 := ⟨by decide +kernel, rfl⟩
theorem zd_2_5_13 : zz_D zy_readPart_2_5 13 (.iconst 5) 1 14 := ⟨by decide +kernel, rfl⟩
theorem zd_2_5_14 : zz_D zy_readPart_2_5 14 (.invokevirtual 67) 3 17 := ⟨by decide +kernel, rfl⟩
theorem zd_2_5_17 : zz_D zy_readPart_2_5 17 (.ireturn) 1 18 := ⟨by decide +kernel, rfl⟩
-- TensorForge$Assembler readPart ()Z
abbrev zr_readPart_2_5 : Room := { frames := 7, cells := 0, slots := 0, locals := 95 }
def zp_readPart_2_5  (S0 : zz_S) : Int → zz_S → Prop := fun r S => zz_G S ∧ zz_fr [(1070, 3), (1070, 4), (1070, 5), (1070, 6), (1072, 2), (1072, 3)] [] (fun _ _ => False) S0 S ∧ (0 ≤ r ∧ r ≤ 1)
theorem zc_readPart_2_5 {g : mm_G} {l : Launch}  (S0 : zz_S) (n : Nat) (hn : zz_end ≤ n) (G_S0 : zz_G S0)  : mm_Met g l zy_readPart_2_5 zr_readPart_2_5 [.ref 1072] (zz_M S0 n) n (zz_QI n (zp_readPart_2_5  S0)) := by
  refine zz_enter (by decide) (Nat.le_of_ble_eq_true rfl) (zz_less (ls1 := [some (.ref 1072)]) ⟨rfl, trivial⟩ ?_)
  have F_S0 : zz_fr [(1070, 3), (1070, 4), (1070, 5), (1070, 6), (1072, 2), (1072, 3)] [] (fun _ _ => False) S0 S0 := zz_fr.refl
  refine zz_aload_n (x := 1072) rfl zd_2_5_0 ?_
  refine zz_getr (kd := 0) (z := 1070) zd_2_5_1 zf_Assembler_9 zT_1072 rfl (zz_ltn hn rfl) (zz_G.eq G_S0 1072 0 1070 rfl rfl) (by decide) 1070 rfl ?_
  refine zz_ldcs (t := 10) (by decide +kernel) (by decide) zd_2_5_4 ?_
  refine zz_callVI [.ref (100 + 10)] zd_2_5_6 zk_Assembler_61 zT_1070 (zz_ltn hn rfl) rfl rfl ⟨Nat.le_of_ble_eq_true rfl, Nat.le_of_ble_eq_true rfl⟩ ⟨rfl, rfl⟩ (Nat.zero_le _) (Nat.zero_le _) (zc_isWord_11_9 10 S0 n hn G_S0 (by omega)) (fun v2 S1 hP => ?_)
  obtain ⟨rfl, o3⟩ := hP
  rcases (by omega : v2 = 0 ∨ v2 = 1) with rfl | rfl
  · refine zz_if_eq (by omega) zd_2_5_9 (fun c4 => ?_) (fun c4 => ?_)
    · refine zz_aload_n (x := 1072) rfl zd_2_5_18 ?_
      refine zz_getr (kd := 0) (z := 1070) zd_2_5_19 zf_Assembler_9 zT_1072 rfl (zz_ltn hn rfl) (zz_G.eq G_S0 1072 0 1070 rfl rfl) (by decide) 1070 rfl ?_
      refine zz_ldcs (t := 11) (by decide +kernel) (by decide) zd_2_5_22 ?_
      refine zz_callVI [.ref (100 + 11)] zd_2_5_24 zk_Assembler_61 zT_1070 (zz_ltn hn rfl) rfl rfl ⟨Nat.le_of_ble_eq_true rfl, Nat.le_of_ble_eq_true rfl⟩ ⟨rfl, rfl⟩ (Nat.zero_le _) (Nat.zero_le _) (zc_isWord_11_9 11 S0 n hn G_S0 (by omega)) (fun v6 S5 hP => ?_)
      obtain ⟨rfl, o7⟩ := hP
      rcases (by omega : v6 = 0 ∨ v6 = 1) with rfl | rfl
      · refine zz_if_eq (by omega) zd_2_5_27 (fun c8 => ?_) (fun c8 => ?_)
        · refine zz_aload_n (x := 1072) rfl zd_2_5_66 ?_
          refine zz_getr (kd := 0) (z := 1070) zd_2_5_67 zf_Assembler_9 zT_1072 rfl (zz_ltn hn rfl) (zz_G.eq G_S0 1072 0 1070 rfl rfl) (by decide) 1070 rfl ?_
          refine zz_ldcs (t := 13) (by decide +kernel) (by decide) zd_2_5_70 ?_
          refine zz_callVI [.ref (100 + 13)] zd_2_5_72 zk_Assembler_61 zT_1070 (zz_ltn hn rfl) rfl rfl ⟨Nat.le_of_ble_eq_true rfl, Nat.le_of_ble_eq_true rfl⟩ ⟨rfl, rfl⟩ (Nat.zero_le _) (Nat.zero_le _) (zc_isWord_11_9 13 S0 n hn G_S0 (by omega)) (fun v10 S9 hP => ?_)
          obtain ⟨rfl, o11⟩ := hP
          rcases (by omega : v10 = 0 ∨ v10 = 1) with rfl | rfl
          · refine zz_if_eq (by omega) zd_2_5_75 (fun c12 => ?_) (fun c12 => ?_)
            · refine zz_aload_n (x := 1072) rfl zd_2_5_85 ?_
              refine zz_getr (kd := 0) (z := 1070) zd_2_5_86 zf_Assembler_9 zT_1072 rfl (zz_ltn hn rfl) (zz_G.eq G_S0 1072 0 1070 rfl rfl) (by decide) 1070 rfl ?_
              refine zz_ldcs (t := 14) (by decide +kernel) (by decide) zd_2_5_89 ?_
              refine zz_callVI [.ref (100 + 14)] zd_2_5_91 zk_Assembler_61 zT_1070 (zz_ltn hn rfl) rfl rfl ⟨Nat.le_of_ble_eq_true rfl, Nat.le_of_ble_eq_true rfl⟩ ⟨rfl, rfl⟩ (Nat.zero_le _) (Nat.zero_le _) (zc_isWord_11_9 14 S0 n hn G_S0 (by omega)) (fun v14 S13 hP => ?_)
              obtain ⟨rfl, o15⟩ := hP
              rcases (by omega : v14 = 0 ∨ v14 = 1) with rfl | rfl
              · refine zz_if_eq (by omega) zd_2_5_94 (fun c16 => ?_) (fun c16 => ?_)
                · refine zz_aload_n (x := 1072) rfl zd_2_5_104 ?_
                  refine zz_getr (kd := 0) (z := 1070) zd_2_5_105 zf_Assembler_9 zT_1072 rfl (zz_ltn hn rfl) (zz_G.eq G_S0 1072 0 1070 rfl rfl) (by decide) 1070 rfl ?_
                  refine zz_ldcs (t := 15) (by decide +kernel) (by decide) zd_2_5_108 ?_
                  refine zz_callVI [.ref (100 + 15)] zd_2_5_110 zk_Assembler_61 zT_1070 (zz_ltn hn rfl) rfl rfl ⟨Nat.le_of_ble_eq_true rfl, Nat.le_of_ble_eq_true rfl⟩ ⟨rfl, rfl⟩ (Nat.zero_le _) (Nat.zero_le _) (zc_isWord_11_9 15 S0 n hn G_S0 (by omega)) (fun v18 S17 hP => ?_)
                  obtain ⟨rfl, o19⟩ := hP
                  rcases (by omega : v18 = 0 ∨ v18 = 1) with rfl | rfl
                  · refine zz_if_eq (by omega) zd_2_5_113 (fun c20 => ?_) (fun c20 => ?_)
                    · refine zz_aload_n (x := 1072) rfl zd_2_5_123 ?_
                      refine zz_getr (kd := 0) (z := 1070) zd_2_5_124 zf_Assembler_9 zT_1072 rfl (zz_ltn hn rfl) (zz_G.eq G_S0 1072 0 1070 rfl rfl) (by decide) 1070 rfl ?_
                      refine zz_ldcs (t := 16) (by decide +kernel) (by decide) zd_2_5_127 ?_
                      refine zz_callVI [.ref (100 + 16)] zd_2_5_129 zk_Assembler_61 zT_1070 (zz_ltn hn rfl) rfl rfl ⟨Nat.le_of_ble_eq_true rfl, Nat.le_of_ble_eq_true rfl⟩ ⟨rfl, rfl⟩ (Nat.zero_le _) (Nat.zero_le _) (zc_isWord_11_9 16 S0 n hn G_S0 (by omega)) (fun v22 S21 hP => ?_)
                      obtain ⟨rfl, o23⟩ := hP
                      rcases (by omega : v22 = 0 ∨ v22 = 1) with rfl | rfl
                      · refine zz_if_eq (by omega) zd_2_5_132 (fun c24 => ?_) (fun c24 => ?_)
                        · refine zz_aload_n (x := 1072) rfl zd_2_5_142 ?_
                          refine zz_getr (kd := 0) (z := 1070) zd_2_5_143 zf_Assembler_9 zT_1072 rfl (zz_ltn hn rfl) (zz_G.eq G_S0 1072 0 1070 rfl rfl) (by decide) 1070 rfl ?_
                          refine zz_ldcs (t := 17) (by decide +kernel) (by decide) zd_2_5_146 ?_
                          refine zz_callVI [.ref (100 + 17)] zd_2_5_148 zk_Assembler_61 zT_1070 (zz_ltn hn rfl) rfl rfl ⟨Nat.le_of_ble_eq_true rfl, Nat.le_of_ble_eq_true rfl⟩ ⟨rfl, rfl⟩ (Nat.zero_le _) (Nat.zero_le _) (zc_isWord_11_9 17 S0 n hn G_S0 (by omega)) (fun v26 S25 hP => ?_)
                          obtain ⟨rfl, o27⟩ := hP
                          rcases (by omega : v26 = 0 ∨ v26 = 1) with rfl | rfl
                          · refine zz_if_eq (by omega) zd_2_5_151 (fun c28 => ?_) (fun c28 => ?_)
                            · refine zz_aload_n (x := 1072) rfl zd_2_5_161 ?_
                              refine zz_getr (kd := 0) (z := 1070) zd_2_5_162 zf_Assembler_9 zT_1072 rfl (zz_ltn hn rfl) (zz_G.eq G_S0 1072 0 1070 rfl rfl) (by decide) 1070 rfl ?_
                              refine zz_ldcs (t := 20) (by decide +kernel) (by decide) zd_2_5_165 ?_
                              refine zz_callVI [.ref (100 + 20)] zd_2_5_167 zk_Assembler_61 zT_1070 (zz_ltn hn rfl) rfl rfl ⟨Nat.le_of_ble_eq_true rfl, Nat.le_of_ble_eq_true rfl⟩ ⟨rfl, rfl⟩ (Nat.zero_le _) (Nat.zero_le _) (zc_isWord_11_9 20 S0 n hn G_S0 (by omega)) (fun v30 S29 hP => ?_)
                              obtain ⟨rfl, o31⟩ := hP
                              rcases (by omega : v30 = 0 ∨ v30 = 1) with rfl | rfl
                              · refine zz_if_eq (by omega) zd_2_5_170 (fun c32 => ?_) (fun c32 => ?_)
                                · refine zz_iconst zd_2_5_186 ?_
                                  exact zz_zret zd_2_5_187 rfl (by omega) (Nat.zero_le _) (Nat.zero_le _) ⟨_, _, rfl, G_S0, F_S0, by omega⟩
                                · exfalso; omega
                              · refine zz_if_eq (by omega) zd_2_5_170 (fun c33 => ?_) (fun c33 => ?_)
                                · exfalso; omega
                                · refine zz_aload_n (x := 1072) rfl zd_2_5_173 ?_
                                  refine zz_iconst zd_2_5_174 ?_
                                  refine zz_iconst zd_2_5_175 ?_
                                  refine zz_callVI [zi 3, zi 4] zd_2_5_176 zk_Assembler_88 zT_1072 (zz_ltn hn rfl) rfl rfl ⟨Nat.le_of_ble_eq_true rfl, Nat.le_of_ble_eq_true rfl⟩ ⟨rfl, rfl⟩ (Nat.zero_le _) (Nat.zero_le _) (zc_readNeighbour_2_7 3 4 S0 n hn G_S0 (by omega) (by omega)) (fun v35 S34 hP => ?_)
                                  obtain ⟨G_S34, fS34, o36⟩ := hP
                                  have F_S34 := zz_fr.trans F_S0 fS34 rfl zz_nv
                                  rcases (by omega : v35 = 0 ∨ v35 = 1) with rfl | rfl
                                  · refine zz_if_eq (by omega) zd_2_5_179 (fun c37 => ?_) (fun c37 => ?_)
                                    · refine zz_iconst zd_2_5_186 ?_
                                      exact zz_zret zd_2_5_187 rfl (by omega) (Nat.zero_le _) (Nat.zero_le _) ⟨_, _, rfl, G_S34, F_S34, by omega⟩
                                    · exfalso; omega
                                  · refine zz_if_eq (by omega) zd_2_5_179 (fun c38 => ?_) (fun c38 => ?_)
                                    · exfalso; omega
                                    · refine zz_iconst zd_2_5_182 ?_
                                      refine zz_goto zd_2_5_183 ?_
                                      exact zz_zret zd_2_5_187 rfl (by omega) (Nat.zero_le _) (Nat.zero_le _) ⟨_, _, rfl, G_S34, F_S34, by omega⟩
                            · exfalso; omega
                          · refine zz_if_eq (by omega) zd_2_5_151 (fun c39 => ?_) (fun c39 => ?_)
                            · exfalso; omega
                            · refine zz_aload_n (x := 1072) rfl zd_2_5_154 ?_
                              refine zz_iconst zd_2_5_155 ?_
                              refine zz_iconst zd_2_5_156 ?_
                              refine zz_callVI [zi 1, zi 2] zd_2_5_157 zk_Assembler_88 zT_1072 (zz_ltn hn rfl) rfl rfl ⟨Nat.le_of_ble_eq_true rfl, Nat.le_of_ble_eq_true rfl⟩ ⟨rfl, rfl⟩ (Nat.zero_le _) (Nat.zero_le _) (zc_readNeighbour_2_7 1 2 S0 n hn G_S0 (by omega) (by omega)) (fun v41 S40 hP => ?_)
                              obtain ⟨G_S40, fS40, o42⟩ := hP
                              have F_S40 := zz_fr.trans F_S0 fS40 rfl zz_nv
                              rcases (by omega : v41 = 0 ∨ v41 = 1) with rfl | rfl
                              · exact zz_zret zd_2_5_160 rfl (by omega) (Nat.zero_le _) (Nat.zero_le _) ⟨_, _, rfl, G_S40, F_S40, by omega⟩
                              · exact zz_zret zd_2_5_160 rfl (by omega) (Nat.zero_le _) (Nat.zero_le _) ⟨_, _, rfl, G_S40, F_S40, by omega⟩
                        · exfalso; omega
                      · refine zz_if_eq (by omega) zd_2_5_132 (fun c43 => ?_) (fun c43 => ?_)
                        · exfalso; omega
                        · refine zz_aload_n (x := 1072) rfl zd_2_5_135 ?_
                          refine zz_bipush (by decide) zd_2_5_136 ?_
                          refine zz_callVI [zi 11] zd_2_5_138 zk_Assembler_67 zT_1072 (zz_ltn hn rfl) rfl rfl ⟨Nat.le_of_ble_eq_true rfl, Nat.le_of_ble_eq_true rfl⟩ ⟨rfl, rfl⟩ (Nat.zero_le _) (Nat.zero_le _) (zc_readNumber_2_6 11 S0 n hn G_S0 (by omega)) (fun v45 S44 hP => ?_)
                          obtain ⟨G_S44, fS44, o46⟩ := hP
                          have F_S44 := zz_fr.trans F_S0 fS44 rfl zz_nv
                          rcases (by omega : v45 = 0 ∨ v45 = 1) with rfl | rfl
                          · exact zz_zret zd_2_5_141 rfl (by omega) (Nat.zero_le _) (Nat.zero_le _) ⟨_, _, rfl, G_S44, F_S44, by omega⟩
                          · exact zz_zret zd_2_5_141 rfl (by omega) (Nat.zero_le _) (Nat.zero_le _) ⟨_, _, rfl, G_S44, F_S44, by omega⟩
                    · exfalso; omega
                  · refine zz_if_eq (by omega) zd_2_5_113 (fun c47 => ?_) (fun c47 => ?_)
                    · exfalso; omega
                    · refine zz_aload_n (x := 1072) rfl zd_2_5_116 ?_
                      refine zz_bipush (by decide) zd_2_5_117 ?_
                      refine zz_callVI [zi 10] zd_2_5_119 zk_Assembler_67 zT_1072 (zz_ltn hn rfl) rfl rfl ⟨Nat.le_of_ble_eq_true rfl, Nat.le_of_ble_eq_true rfl⟩ ⟨rfl, rfl⟩ (Nat.zero_le _) (Nat.zero_le _) (zc_readNumber_2_6 10 S0 n hn G_S0 (by omega)) (fun v49 S48 hP => ?_)
                      obtain ⟨G_S48, fS48, o50⟩ := hP
                      have F_S48 := zz_fr.trans F_S0 fS48 rfl zz_nv
                      rcases (by omega : v49 = 0 ∨ v49 = 1) with rfl | rfl
                      · exact zz_zret zd_2_5_122 rfl (by omega) (Nat.zero_le _) (Nat.zero_le _) ⟨_, _, rfl, G_S48, F_S48, by omega⟩
                      · exact zz_zret zd_2_5_122 rfl (by omega) (Nat.zero_le _) (Nat.zero_le _) ⟨_, _, rfl, G_S48, F_S48, by omega⟩
                · exfalso; omega
              · refine zz_if_eq (by omega) zd_2_5_94 (fun c51 => ?_) (fun c51 => ?_)
                · exfalso; omega
                · refine zz_aload_n (x := 1072) rfl zd_2_5_97 ?_
                  refine zz_bipush (by decide) zd_2_5_98 ?_
                  refine zz_callVI [zi 9] zd_2_5_100 zk_Assembler_67 zT_1072 (zz_ltn hn rfl) rfl rfl ⟨Nat.le_of_ble_eq_true rfl, Nat.le_of_ble_eq_true rfl⟩ ⟨rfl, rfl⟩ (Nat.zero_le _) (Nat.zero_le _) (zc_readNumber_2_6 9 S0 n hn G_S0 (by omega)) (fun v53 S52 hP => ?_)
                  obtain ⟨G_S52, fS52, o54⟩ := hP
                  have F_S52 := zz_fr.trans F_S0 fS52 rfl zz_nv
                  rcases (by omega : v53 = 0 ∨ v53 = 1) with rfl | rfl
                  · exact zz_zret zd_2_5_103 rfl (by omega) (Nat.zero_le _) (Nat.zero_le _) ⟨_, _, rfl, G_S52, F_S52, by omega⟩
                  · exact zz_zret zd_2_5_103 rfl (by omega) (Nat.zero_le _) (Nat.zero_le _) ⟨_, _, rfl, G_S52, F_S52, by omega⟩
            · exfalso; omega
          · refine zz_if_eq (by omega) zd_2_5_75 (fun c55 => ?_) (fun c55 => ?_)
            · exfalso; omega
            · refine zz_aload_n (x := 1072) rfl zd_2_5_78 ?_
              refine zz_bipush (by decide) zd_2_5_79 ?_
              refine zz_callVI [zi 8] zd_2_5_81 zk_Assembler_67 zT_1072 (zz_ltn hn rfl) rfl rfl ⟨Nat.le_of_ble_eq_true rfl, Nat.le_of_ble_eq_true rfl⟩ ⟨rfl, rfl⟩ (Nat.zero_le _) (Nat.zero_le _) (zc_readNumber_2_6 8 S0 n hn G_S0 (by omega)) (fun v57 S56 hP => ?_)
              obtain ⟨G_S56, fS56, o58⟩ := hP
              have F_S56 := zz_fr.trans F_S0 fS56 rfl zz_nv
              rcases (by omega : v57 = 0 ∨ v57 = 1) with rfl | rfl
              · exact zz_zret zd_2_5_84 rfl (by omega) (Nat.zero_le _) (Nat.zero_le _) ⟨_, _, rfl, G_S56, F_S56, by omega⟩
              · exact zz_zret zd_2_5_84 rfl (by omega) (Nat.zero_le _) (Nat.zero_le _) ⟨_, _, rfl, G_S56, F_S56, by omega⟩
        · exfalso; omega
      · refine zz_if_eq (by omega) zd_2_5_27 (fun c59 => ?_) (fun c59 => ?_)
        · exfalso; omega
        · refine zz_aload_n (x := 1072) rfl zd_2_5_30 ?_
          refine zz_bipush (by decide) zd_2_5_31 ?_
          refine zz_callVI [zi 6] zd_2_5_33 zk_Assembler_67 zT_1072 (zz_ltn hn rfl) rfl rfl ⟨Nat.le_of_ble_eq_true rfl, Nat.le_of_ble_eq_true rfl⟩ ⟨rfl, rfl⟩ (Nat.zero_le _) (Nat.zero_le _) (zc_readNumber_2_6 6 S0 n hn G_S0 (by omega)) (fun v61 S60 hP => ?_)
          obtain ⟨G_S60, fS60, o62⟩ := hP
          have F_S60 := zz_fr.trans F_S0 fS60 rfl zz_nv
          rcases (by omega : v61 = 0 ∨ v61 = 1) with rfl | rfl
          · refine zz_if_eq (by omega) zd_2_5_36 (fun c63 => ?_) (fun c63 => ?_)
            · refine zz_iconst zd_2_5_64 ?_
              exact zz_zret zd_2_5_65 rfl (by omega) (Nat.zero_le _) (Nat.zero_le _) ⟨_, _, rfl, G_S60, F_S60, by omega⟩
            · exfalso; omega
          · refine zz_if_eq (by omega) zd_2_5_36 (fun c64 => ?_) (fun c64 => ?_)
            · exfalso; omega
            · refine zz_aload_n (x := 1072) rfl zd_2_5_39 ?_
              refine zz_getr (kd := 0) (z := 1070) zd_2_5_40 zf_Assembler_9 zT_1072 rfl (zz_ltn hn rfl) (zz_G.eq G_S60 1072 0 1070 rfl rfl) (by decide) 1070 rfl ?_
              refine zz_ldcs (t := 12) (by decide +kernel) (by decide) zd_2_5_43 ?_
              refine zz_callVI [.ref (100 + 12)] zd_2_5_45 zk_Assembler_75 zT_1070 (zz_ltn hn rfl) rfl rfl ⟨Nat.le_of_ble_eq_true rfl, Nat.le_of_ble_eq_true rfl⟩ ⟨rfl, rfl⟩ (Nat.zero_le _) (Nat.zero_le _) (zc_nextIsWord_11_10 12 S60 n hn G_S60 (by omega)) (fun v66 S65 hP => ?_)
              obtain ⟨G_S65, fS65, o67⟩ := hP
              have F_S65 := zz_fr.trans F_S60 fS65 rfl zz_nv
              rcases (by omega : v66 = 0 ∨ v66 = 1) with rfl | rfl
              · refine zz_if_eq (by omega) zd_2_5_48 (fun c68 => ?_) (fun c68 => ?_)
                · refine zz_iconst zd_2_5_64 ?_
                  exact zz_zret zd_2_5_65 rfl (by omega) (Nat.zero_le _) (Nat.zero_le _) ⟨_, _, rfl, G_S65, F_S65, by omega⟩
                · exfalso; omega
              · refine zz_if_eq (by omega) zd_2_5_48 (fun c69 => ?_) (fun c69 => ?_)
                · exfalso; omega
                · refine zz_aload_n (x := 1072) rfl zd_2_5_51 ?_
                  refine zz_bipush (by decide) zd_2_5_52 ?_
                  refine zz_callVI [zi 7] zd_2_5_54 zk_Assembler_67 zT_1072 (zz_ltn hn rfl) rfl rfl ⟨Nat.le_of_ble_eq_true rfl, Nat.le_of_ble_eq_true rfl⟩ ⟨rfl, rfl⟩ (Nat.zero_le _) (Nat.zero_le _) (zc_readNumber_2_6 7 S65 n hn G_S65 (by omega)) (fun v71 S70 hP => ?_)
                  obtain ⟨G_S70, fS70, o72⟩ := hP
                  have F_S70 := zz_fr.trans F_S65 fS70 rfl zz_nv
                  rcases (by omega : v71 = 0 ∨ v71 = 1) with rfl | rfl
                  · refine zz_if_eq (by omega) zd_2_5_57 (fun c73 => ?_) (fun c73 => ?_)
                    · refine zz_iconst zd_2_5_64 ?_
                      exact zz_zret zd_2_5_65 rfl (by omega) (Nat.zero_le _) (Nat.zero_le _) ⟨_, _, rfl, G_S70, F_S70, by omega⟩
                    · exfalso; omega
                  · refine zz_if_eq (by omega) zd_2_5_57 (fun c74 => ?_) (fun c74 => ?_)
                    · exfalso; omega
                    · refine zz_iconst zd_2_5_60 ?_
                      refine zz_goto zd_2_5_61 ?_
                      exact zz_zret zd_2_5_65 rfl (by omega) (Nat.zero_le _) (Nat.zero_le _) ⟨_, _, rfl, G_S70, F_S70, by omega⟩
    · exfalso; omega
  · refine zz_if_eq (by omega) zd_2_5_9 (fun c75 => ?_) (fun c75 => ?_)
    · exfalso; omega
    · refine zz_aload_n (x := 1072) rfl zd_2_5_12 ?_
      refine zz_iconst zd_2_5_13 ?_
      refine zz_callVI [zi 5] zd_2_5_14 zk_Assembler_67 zT_1072 (zz_ltn hn rfl) rfl rfl ⟨Nat.le_of_ble_eq_true rfl, Nat.le_of_ble_eq_true rfl⟩ ⟨rfl, rfl⟩ (Nat.zero_le _) (Nat.zero_le _) (zc_readNumber_2_6 5 S0 n hn G_S0 (by omega)) (fun v77 S76 hP => ?_)
      obtain ⟨G_S76, fS76, o78⟩ := hP
      have F_S76 := zz_fr.trans F_S0 fS76 rfl zz_nv
      rcases (by omega : v77 = 0 ∨ v77 = 1) with rfl | rfl
      · exact zz_zret zd_2_5_17 rfl (by omega) (Nat.zero_le _) (Nat.zero_le _) ⟨_, _, rfl, G_S76, F_S76, by omega⟩
      · exact zz_zret zd_2_5_17 rfl (by omega) (Nat.zero_le _) (Nat.zero_le _) ⟨_, _, rfl, G_S76, F_S76, by omega⟩
theorem zk_Assembler_54 : mm_Vl "TensorForge$Assembler" 54 7 0 zy_readPart_2_5 := ⟨zyw_readPart_2_5, (R_Assembler, F_Assembler, 4), rfl, mm_tb_1 649 (by decide +kernel) rfl, mm_tb_1 651 (by decide +kernel) rfl, mm_tb_s 9 (by decide +kernel) rfl⟩
theorem zd_2_3_58 : zz_B zy_readInstruction_2_3 58 (Instr.ifCond .ne) 63 61 := ⟨5, by decide +kernel, rfl, rfl⟩
theorem zd_2_3_61 : zz_D zy_readInstruction_2_3 61 (.iconst 0) 1 62 := ⟨by decide +kernel, rfl⟩
theorem zd_2_3_62 : zz_D zy_readInstruction_2_3 62 (.ireturn) 1 63 := ⟨by decide +kernel, rfl⟩
theorem zd_2_3_63 : zz_D zy_readInstruction_2_3 63 (.iinc 2 1) 3 66 := ⟨by decide +kernel, rfl⟩
theorem zd_2_3_66 : zz_B zy_readInstruction_2_3 66 Instr.goto 28 69 := ⟨(-38), by decide +kernel, rfl, rfl⟩
theorem zd_2_3_52 : zz_D zy_readInstruction_2_3 52 (.iconst 1) 1 53 := ⟨by decide +kernel, rfl⟩
theorem zd_2_3_53 : zz_D zy_readInstruction_2_3 53 (.ireturn) 1 54 := ⟨by decide +kernel, rfl⟩
theorem zd_2_3_69 : zz_D zy_readInstruction_2_3 69 (.iconst 0) 1 70 := ⟨by decide +kernel, rfl⟩
theorem zd_2_3_70 : zz_D zy_readInstruction_2_3 70 (.ireturn) 1 71 := ⟨by decide +kernel, rfl⟩
-- TensorForge$Assembler readInstruction ()Z
abbrev zr_readInstruction_2_3 : Room := { frames := 8, cells := 0, slots := 0, locals := 107 }
def zp_readInstruction_2_3  (S0 : zz_S) : Int → zz_S → Prop := fun r S => zz_G S ∧ zz_fr [(1070, 3), (1070, 4), (1070, 5), (1070, 6), (1072, 2), (1072, 3)] [] (fun _ _ => False) S0 S ∧ (0 ≤ r ∧ r ≤ 1)
theorem zb_readInstruction_2_3_28 {g : mm_G} {l : Launch}  (S0 : zz_S) (n : Nat) (hn : zz_end ≤ n) (G_S0 : zz_G S0)  (x2 : Int) (S : zz_S) (G_S : zz_G S) (F_S : zz_fr [(1070, 3), (1070, 4), (1070, 5), (1070, 6), (1072, 2), (1072, 3)] [] (fun _ _ => False) S0 S) (i28_0 : 0 ≤ x2 ∧ x2 ≤ 1501) (R : Nat) (hR : (1500 + 1 - x2).toNat = R) (k28 : ∀ (x2 : Int) (S : zz_S), zz_G S → zz_fr [(1070, 3), (1070, 4), (1070, 5), (1070, 6), (1072, 2), (1072, 3)] [] (fun _ _ => False) S0 S → (0 ≤ x2 ∧ x2 ≤ 1501) → (1500 + 1 - x2).toNat < R → zz_E g l zy_readInstruction_2_3 zr_readInstruction_2_3 (zz_QI n (zp_readInstruction_2_3  S0)) S n 28 [some (.ref 1072), none, some (zi x2)] [] 0 0) : zz_E g l zy_readInstruction_2_3 zr_readInstruction_2_3 (zz_QI n (zp_readInstruction_2_3  S0)) S n 28 [some (.ref 1072), none, some (zi x2)] [] 0 0 := by
  refine zz_iload_n (x := x2) rfl zd_2_3_28 ?_
  refine zz_sipush (by decide) zd_2_3_29 ?_
  refine zz_icmp_gt (by omega) (by omega) zd_2_3_32 (fun c10 => ?_) (fun c10 => ?_)
  · refine zz_iconst zd_2_3_69 ?_
    exact zz_zret zd_2_3_70 rfl (by omega) (Nat.zero_le _) (Nat.zero_le _) ⟨_, _, rfl, G_S, F_S, by omega⟩
  · refine zz_aload_n (x := 1072) rfl zd_2_3_35 ?_
    refine zz_getr (kd := 0) (z := 1070) zd_2_3_36 zf_Assembler_9 zT_1072 rfl (zz_ltn hn rfl) (zz_G.eq G_S 1072 0 1070 rfl rfl) (by decide) 1070 rfl ?_
    refine zz_callVV [] zd_2_3_39 zk_Assembler_35 zT_1070 (zz_ltn hn rfl) rfl rfl ⟨Nat.le_of_ble_eq_true rfl, Nat.le_of_ble_eq_true rfl⟩ ⟨rfl, rfl⟩ (Nat.zero_le _) (Nat.zero_le _) (zc_nextToken_11_7  S n hn G_S ) (fun S11 hP => ?_)
    obtain ⟨G_S11, fS11⟩ := hP
    have F_S11 := zz_fr.trans F_S fS11 rfl zz_nv
    refine zz_aload_n (x := 1072) rfl zd_2_3_42 ?_
    refine zz_getr (kd := 0) (z := 1070) zd_2_3_43 zf_Assembler_9 zT_1072 rfl (zz_ltn hn rfl) (zz_G.eq G_S11 1072 0 1070 rfl rfl) (by decide) 1070 rfl ?_
    have g13 := zz_G.r G_S11 1070 4 (-2147483648) 2147483647 rfl rfl
    refine zz_geti (z := S11 1070 4) zd_2_3_46 zf_Assembler_38 zT_1070 rfl (zz_ltn hn rfl) rfl ?_
    refine zz_if_ne (by omega) zd_2_3_49 (fun c14 => ?_) (fun c14 => ?_)
    · refine zz_aload_n (x := 1072) rfl zd_2_3_54 ?_
      refine zz_callVI [] zd_2_3_55 zk_Assembler_54 zT_1072 (zz_ltn hn rfl) rfl rfl ⟨Nat.le_of_ble_eq_true rfl, Nat.le_of_ble_eq_true rfl⟩ ⟨rfl, rfl⟩ (Nat.zero_le _) (Nat.zero_le _) (zc_readPart_2_5  S11 n hn G_S11 ) (fun v16 S15 hP => ?_)
      obtain ⟨G_S15, fS15, o17⟩ := hP
      have F_S15 := zz_fr.trans F_S11 fS15 rfl zz_nv
      rcases (by omega : v16 = 0 ∨ v16 = 1) with rfl | rfl
      · refine zz_if_ne (by omega) zd_2_3_58 (fun c18 => ?_) (fun c18 => ?_)
        · exfalso; omega
        · refine zz_iconst zd_2_3_61 ?_
          exact zz_zret zd_2_3_62 rfl (by omega) (Nat.zero_le _) (Nat.zero_le _) ⟨_, _, rfl, G_S15, F_S15, by omega⟩
      · refine zz_if_ne (by omega) zd_2_3_58 (fun c19 => ?_) (fun c19 => ?_)
        · refine zz_iinc [some (.ref 1072), none, some (zi (x2 + 1))] zd_2_3_63 rfl rfl ?_
          refine zz_goto zd_2_3_66 ?_
          refine zz_less (ls1 := [some (.ref 1072), none, some (zi (x2 + 1))]) ⟨rfl, ⟨rfl, trivial⟩⟩ ?_
          exact k28 (x2 + 1) S15 G_S15 F_S15 (by omega) (by omega)
        · exfalso; omega
    · refine zz_iconst zd_2_3_52 ?_
      exact zz_zret zd_2_3_53 rfl (by omega) (Nat.zero_le _) (Nat.zero_le _) ⟨_, _, rfl, G_S11, F_S11, by omega⟩
theorem zi_readInstruction_2_3 {g : mm_G} {l : Launch}  (S0 : zz_S) (n : Nat) (hn : zz_end ≤ n) (G_S0 : zz_G S0)  : ∀ N : Nat, (∀ (x2 : Int) (S : zz_S), zz_G S → zz_fr [(1070, 3), (1070, 4), (1070, 5), (1070, 6), (1072, 2), (1072, 3)] [] (fun _ _ => False) S0 S → (0 ≤ x2 ∧ x2 ≤ 1501) → (1500 + 1 - x2).toNat < N → zz_E g l zy_readInstruction_2_3 zr_readInstruction_2_3 (zz_QI n (zp_readInstruction_2_3  S0)) S n 28 [some (.ref 1072), none, some (zi x2)] [] 0 0) := by
  intro N
  induction N with
  | zero => exact fun x2 S _ _ _ h => absurd h (Nat.not_lt_zero _)
  | succ N ih =>
    exact fun x2 S a b j0 hR => zb_readInstruction_2_3_28  S0 n hn G_S0  x2 S a b j0 _ rfl (fun x2 S a b j0 h => ih x2 S a b j0 (Nat.lt_of_lt_of_le h (Nat.le_of_lt_succ hR)))
theorem zc_readInstruction_2_3 {g : mm_G} {l : Launch}  (S0 : zz_S) (n : Nat) (hn : zz_end ≤ n) (G_S0 : zz_G S0)  : mm_Met g l zy_readInstruction_2_3 zr_readInstruction_2_3 [.ref 1072] (zz_M S0 n) n (zz_QI n (zp_readInstruction_2_3  S0)) := by
  refine zz_enter (by decide) (Nat.le_of_ble_eq_true rfl) (zz_less (ls1 := [some (.ref 1072)]) ⟨rfl, trivial⟩ ?_)
  have F_S0 : zz_fr [(1070, 3), (1070, 4), (1070, 5), (1070, 6), (1072, 2), (1072, 3)] [] (fun _ _ => False) S0 S0 := zz_fr.refl
  have k28 : ∀ (x2 : Int) (S : zz_S), zz_G S → zz_fr [(1070, 3), (1070, 4), (1070, 5), (1070, 6), (1072, 2), (1072, 3)] [] (fun _ _ => False) S0 S → (0 ≤ x2 ∧ x2 ≤ 1501) → zz_E g l zy_readInstruction_2_3 zr_readInstruction_2_3 (zz_QI n (zp_readInstruction_2_3  S0)) S n 28 [some (.ref 1072), none, some (zi x2)] [] 0 0 := fun x2 S a b j0 => (zi_readInstruction_2_3 (g := g) (l := l)  S0 n hn G_S0  _) x2 S a b j0 (Nat.lt_succ_self _)
  refine zz_aload_n (x := 1072) rfl zd_2_3_0 ?_
  refine zz_callVI [] zd_2_3_1 zk_Assembler_44 zT_1072 (zz_ltn hn rfl) rfl rfl ⟨Nat.le_of_ble_eq_true rfl, Nat.le_of_ble_eq_true rfl⟩ ⟨rfl, rfl⟩ (Nat.zero_le _) (Nat.zero_le _) (zc_kindTold_2_4  S0 n hn G_S0 ) (fun v2 S1 hP => ?_)
  obtain ⟨rfl, o3⟩ := hP
  refine zz_istore_n [some (.ref 1072), some (zi v2)] zd_2_3_4 (by decide) rfl ?_
  refine zz_iload_n (x := v2) rfl zd_2_3_5 ?_
  refine zz_iconst zd_2_3_6 ?_
  refine zz_icmp_ne (by omega) (by omega) zd_2_3_7 (fun c4 => ?_) (fun c4 => ?_)
  · refine zz_aload_n (x := 1072) rfl zd_2_3_12 ?_
    refine zz_iconst zd_2_3_13 ?_
    refine zz_iload_n (x := v2) rfl zd_2_3_14 ?_
    refine zz_callSJ [zi 0, zi v2] zd_2_3_15 zk_Assembler_50 rfl rfl ⟨Nat.le_of_ble_eq_true rfl, Nat.le_of_ble_eq_true rfl⟩ ⟨rfl, rfl⟩ (Nat.zero_le _) (Nat.zero_le _) (zc_bits_12_4 0 v2 S0 n hn G_S0 (by omega) (by omega)) (fun v6 S5 hP => ?_)
    obtain ⟨rfl, o7⟩ := hP
    refine zz_putl zd_2_3_18 zf_Assembler_19 zT_1072 rfl (zz_ltn hn rfl) (fun S8 qS8 => ?_)
    have G_S8 := zz_G.put G_S0 qS8 (-9223372036854775808) 9223372036854775807 rfl (by omega)
    have F_S8 := zz_fr.puts F_S0 qS8 rfl
    refine zz_aload_n (x := 1072) rfl zd_2_3_21 ?_
    refine zz_iconst zd_2_3_22 ?_
    refine zz_puti zd_2_3_23 zf_Assembler_23 zT_1072 rfl (zz_ltn hn rfl) (fun S9 qS9 => ?_)
    have G_S9 := zz_G.put G_S8 qS9 (-2147483648) 2147483647 rfl (by omega)
    have F_S9 := zz_fr.puts F_S8 qS9 rfl
    refine zz_iconst zd_2_3_26 ?_
    refine zz_istore_n [some (.ref 1072), some (zi v2), some (zi 0)] zd_2_3_27 (by decide) rfl ?_
    refine zz_less (ls1 := [some (.ref 1072), none, some (zi 0)]) ⟨rfl, ⟨rfl, trivial⟩⟩ ?_
    exact k28 0 S9 G_S9 F_S9 (by omega)
  · refine zz_iconst zd_2_3_10 ?_
    exact zz_zret zd_2_3_11 rfl (by omega) (Nat.zero_le _) (Nat.zero_le _) ⟨_, _, rfl, G_S0, F_S0, by omega⟩
theorem zk_Assembler_41 : mm_Vl "TensorForge$Assembler" 41 7 0 zy_readInstruction_2_3 := ⟨zyw_readInstruction_2_3, (R_Assembler, F_Assembler, 4), rfl, mm_tb_1 573 (by decide +kernel) rfl, mm_tb_1 575 (by decide +kernel) rfl, mm_tb_s 7 (by decide +kernel) rfl⟩
theorem zd_2_2_71 : zz_B zy_readInto_2_2 71 (Instr.ifCond .ne) 76 74 := ⟨5, by decide +kernel, rfl, rfl⟩
theorem zd_2_2_76 : zz_D zy_readInto_2_2 76 (.aload_n 1) 1 77 := ⟨by decide +kernel, rfl⟩
theorem zd_2_2_77 : zz_D zy_readInto_2_2 77 (.aload_n 0) 1 78 := ⟨by decide +kernel, rfl⟩
theorem zd_2_2_78 : zz_D zy_readInto_2_2 78 (.getfield 15) 3 81 := ⟨by decide +kernel, rfl⟩
theorem zd_2_2_81 : zz_D zy_readInto_2_2 81 (.aload_n 0) 1 82 := ⟨by decide +kernel, rfl⟩
theorem zd_2_2_82 : zz_D zy_readInto_2_2 82 (.getfield 19) 3 85 := ⟨by decide +kernel, rfl⟩
theorem zd_2_2_85 : zz_D zy_readInto_2_2 85 (.lastore) 1 86 := ⟨by decide +kernel, rfl⟩
theorem zd_2_2_86 : zz_D zy_readInto_2_2 86 (.aload_n 0) 1 87 := ⟨by decide +kernel, rfl⟩
theorem zd_2_2_87 : zz_D zy_readInto_2_2 87 (.dup) 1 88 := ⟨by decide +kernel, rfl⟩
theorem zd_2_2_88 : zz_D zy_readInto_2_2 88 (.getfield 15) 3 91 := ⟨by decide +kernel, rfl⟩
theorem zd_2_2_91 : zz_D zy_readInto_2_2 91 (.iconst 1) 1 92 := ⟨by decide +kernel, rfl⟩
theorem zd_2_2_92 : zz_D zy_readInto_2_2 92 (.iadd) 1 93 := ⟨by decide +kernel, rfl⟩
theorem zd_2_2_93 : zz_D zy_readInto_2_2 93 (.putfield 15) 3 96 := ⟨by decide +kernel, rfl⟩
-- TensorForge$Assembler readInto ([J)I
abbrev zr_readInto_2_2 : Room := { frames := 9, cells := 0, slots := 0, locals := 121 }
def zp_readInto_2_2 (p0 : Int) (S0 : zz_S) : Int → zz_S → Prop := fun r S => zz_G S ∧ zz_fr [(1070, 2), (1070, 3), (1070, 4), (1070, 5), (1070, 6), (1072, 1), (1072, 2), (1072, 3)] [] (fun a i => a = zz_rf 4 p0) S0 S ∧ ((-2147483648) ≤ r ∧ r ≤ 2147483647)
theorem zb_readInto_2_2_14 {g : mm_G} {l : Launch} (p0 : Int) (S0 : zz_S) (n : Nat) (hn : zz_end ≤ n) (G_S0 : zz_G S0) (hp0 : 0 ≤ p0 ∧ p0 ≤ 1) (x2 : Int) (S : zz_S) (G_S : zz_G S) (F_S : zz_fr [(1070, 2), (1070, 3), (1070, 4), (1070, 5), (1070, 6), (1072, 1), (1072, 2), (1072, 3)] [] (fun a i => a = zz_rf 4 p0) S0 S) (i14_0 : 0 ≤ x2 ∧ x2 ≤ 1501) (R : Nat) (hR : (1500 + 1 - x2).toNat = R) (k14 : ∀ (x2 : Int) (S : zz_S), zz_G S → zz_fr [(1070, 2), (1070, 3), (1070, 4), (1070, 5), (1070, 6), (1072, 1), (1072, 2), (1072, 3)] [] (fun a i => a = zz_rf 4 p0) S0 S → (0 ≤ x2 ∧ x2 ≤ 1501) → (1500 + 1 - x2).toNat < R → zz_E g l zy_readInto_2_2 zr_readInto_2_2 (zz_QI n (zp_readInto_2_2 p0 S0)) S n 14 [some (.ref 1072), some (.ref (zz_rf 4 p0)), some (zi x2)] [] 0 0) : zz_E g l zy_readInto_2_2 zr_readInto_2_2 (zz_QI n (zp_readInto_2_2 p0 S0)) S n 14 [some (.ref 1072), some (.ref (zz_rf 4 p0)), some (zi x2)] [] 0 0 := by
  have b_p0 := zz_rf4 (z := p0) (by omega)
  refine zz_iload_n (x := x2) rfl zd_2_2_14 ?_
  refine zz_sipush (by decide) zd_2_2_15 ?_
  refine zz_icmp_gt (by omega) (by omega) zd_2_2_18 (fun c4 => ?_) (fun c4 => ?_)
  · refine zz_iconst zd_2_2_102 ?_
    exact zz_iret zd_2_2_103 rfl (Nat.zero_le _) (Nat.zero_le _) ⟨_, _, rfl, G_S, F_S, by omega⟩
  · refine zz_aload_n (x := 1072) rfl zd_2_2_21 ?_
    refine zz_getr (kd := 0) (z := 1070) zd_2_2_22 zf_Assembler_9 zT_1072 rfl (zz_ltn hn rfl) (zz_G.eq G_S 1072 0 1070 rfl rfl) (by decide) 1070 rfl ?_
    refine zz_callVI [] zd_2_2_25 zk_Assembler_31 zT_1070 (zz_ltn hn rfl) rfl rfl ⟨Nat.le_of_ble_eq_true rfl, Nat.le_of_ble_eq_true rfl⟩ ⟨rfl, rfl⟩ (Nat.zero_le _) (Nat.zero_le _) (zc_nextLine_11_6  S n hn G_S ) (fun v6 S5 hP => ?_)
    obtain ⟨G_S5, fS5, o7⟩ := hP
    have F_S5 := zz_fr.trans F_S fS5 rfl zz_nv
    rcases (by omega : v6 = 0 ∨ v6 = 1) with rfl | rfl
    · refine zz_if_eq (by omega) zd_2_2_28 (fun c8 => ?_) (fun c8 => ?_)
      · refine zz_iconst zd_2_2_102 ?_
        exact zz_iret zd_2_2_103 rfl (Nat.zero_le _) (Nat.zero_le _) ⟨_, _, rfl, G_S5, F_S5, by omega⟩
      · exfalso; omega
    · refine zz_if_eq (by omega) zd_2_2_28 (fun c9 => ?_) (fun c9 => ?_)
      · exfalso; omega
      · refine zz_aload_n (x := 1072) rfl zd_2_2_31 ?_
        refine zz_getr (kd := 0) (z := 1070) zd_2_2_32 zf_Assembler_9 zT_1072 rfl (zz_ltn hn rfl) (zz_G.eq G_S5 1072 0 1070 rfl rfl) (by decide) 1070 rfl ?_
        refine zz_callVV [] zd_2_2_35 zk_Assembler_35 zT_1070 (zz_ltn hn rfl) rfl rfl ⟨Nat.le_of_ble_eq_true rfl, Nat.le_of_ble_eq_true rfl⟩ ⟨rfl, rfl⟩ (Nat.zero_le _) (Nat.zero_le _) (zc_nextToken_11_7  S5 n hn G_S5 ) (fun S10 hP => ?_)
        obtain ⟨G_S10, fS10⟩ := hP
        have F_S10 := zz_fr.trans F_S5 fS10 rfl zz_nv
        refine zz_aload_n (x := 1072) rfl zd_2_2_38 ?_
        refine zz_getr (kd := 0) (z := 1070) zd_2_2_39 zf_Assembler_9 zT_1072 rfl (zz_ltn hn rfl) (zz_G.eq G_S10 1072 0 1070 rfl rfl) (by decide) 1070 rfl ?_
        have g12 := zz_G.r G_S10 1070 4 (-2147483648) 2147483647 rfl rfl
        refine zz_geti (z := S10 1070 4) zd_2_2_42 zf_Assembler_38 zT_1070 rfl (zz_ltn hn rfl) rfl ?_
        refine zz_if_eq (by omega) zd_2_2_45 (fun c13 => ?_) (fun c13 => ?_)
        · refine zz_iinc [some (.ref 1072), some (.ref (zz_rf 4 p0)), some (zi (x2 + 1))] zd_2_2_96 rfl rfl ?_
          refine zz_goto zd_2_2_99 ?_
          refine zz_less (ls1 := [some (.ref 1072), some (.ref (zz_rf 4 p0)), some (zi (x2 + 1))]) ⟨rfl, ⟨rfl, ⟨rfl, trivial⟩⟩⟩ ?_
          exact k14 (x2 + 1) S10 G_S10 F_S10 (by omega) (by omega)
        · refine zz_aload_n (x := 1072) rfl zd_2_2_48 ?_
          have g14 := zz_G.r G_S 1072 1 0 600 rfl rfl
          refine zz_geti (z := S 1072 1) zd_2_2_49 zf_Assembler_15 zT_1072 rfl (zz_ltn hn rfl) (zz_rc fS10 rfl rfl (fun h => h) (zz_rc fS5 rfl rfl (fun h => h) rfl)) ?_
          refine zz_sipush (by decide) zd_2_2_52 ?_
          refine zz_icmp_ge (by omega) (by omega) zd_2_2_55 (fun c15 => ?_) (fun c15 => ?_)
          · refine zz_iload_n (x := x2) rfl zd_2_2_74 ?_
            exact zz_iret zd_2_2_75 rfl (Nat.zero_le _) (Nat.zero_le _) ⟨_, _, rfl, G_S10, F_S10, by omega⟩
          · refine zz_aload_n (x := 1072) rfl zd_2_2_58 ?_
            refine zz_geti (z := S 1072 1) zd_2_2_59 zf_Assembler_15 zT_1072 rfl (zz_ltn hn rfl) (zz_rc fS10 rfl rfl (fun h => h) (zz_rc fS5 rfl rfl (fun h => h) rfl)) ?_
            refine zz_aload_n (x := zz_rf 4 p0) rfl zd_2_2_62 ?_
            refine zz_alen zd_2_2_63 (zT_k4 (by omega)) rfl (zN_k4 hn (by omega)) ?_
            refine zz_icmp_ge (by omega) (by omega) zd_2_2_64 (fun c16 => ?_) (fun c16 => ?_)
            · exfalso; omega
            · refine zz_aload_n (x := 1072) rfl zd_2_2_67 ?_
              refine zz_callVI [] zd_2_2_68 zk_Assembler_41 zT_1072 (zz_ltn hn rfl) rfl rfl ⟨Nat.le_of_ble_eq_true rfl, Nat.le_of_ble_eq_true rfl⟩ ⟨rfl, rfl⟩ (Nat.zero_le _) (Nat.zero_le _) (zc_readInstruction_2_3  S10 n hn G_S10 ) (fun v18 S17 hP => ?_)
              obtain ⟨G_S17, fS17, o19⟩ := hP
              have F_S17 := zz_fr.trans F_S10 fS17 rfl zz_nv
              rcases (by omega : v18 = 0 ∨ v18 = 1) with rfl | rfl
              · refine zz_if_ne (by omega) zd_2_2_71 (fun c20 => ?_) (fun c20 => ?_)
                · exfalso; omega
                · refine zz_iload_n (x := x2) rfl zd_2_2_74 ?_
                  exact zz_iret zd_2_2_75 rfl (Nat.zero_le _) (Nat.zero_le _) ⟨_, _, rfl, G_S17, F_S17, by omega⟩
              · refine zz_if_ne (by omega) zd_2_2_71 (fun c21 => ?_) (fun c21 => ?_)
                · refine zz_aload_n (x := zz_rf 4 p0) rfl zd_2_2_76 ?_
                  refine zz_aload_n (x := 1072) rfl zd_2_2_77 ?_
                  refine zz_geti (z := S 1072 1) zd_2_2_78 zf_Assembler_15 zT_1072 rfl (zz_ltn hn rfl) (zz_rc fS17 rfl rfl (fun h => h) (zz_rc fS10 rfl rfl (fun h => h) (zz_rc fS5 rfl rfl (fun h => h) rfl))) ?_
                  refine zz_aload_n (x := 1072) rfl zd_2_2_81 ?_
                  have g22 := zz_G.r G_S17 1072 2 (-9223372036854775808) 9223372036854775807 rfl rfl
                  refine zz_getl (z := S17 1072 2) zd_2_2_82 zf_Assembler_19 zT_1072 rfl (zz_ltn hn rfl) rfl ?_
                  refine zz_last zd_2_2_85 (zT_k4 (by omega)) rfl (zN_k4 hn (by omega)) (by decide) (by omega) (fun S23 qS23 => ?_)
                  have G_S23 := zz_G.put G_S17 qS23 (-9223372036854775808) 9223372036854775807 (zR_k4 (by omega)) (by omega)
                  have F_S23 := zz_fr.putv F_S17 qS23 (rfl)
                  refine zz_aload_n (x := 1072) rfl zd_2_2_86 ?_
                  refine zz_dup rfl zd_2_2_87 ?_
                  refine zz_geti (z := S 1072 1) zd_2_2_88 zf_Assembler_15 zT_1072 rfl (zz_ltn hn rfl) (zz_ro qS23 (fun h => absurd h.1 (by have := zz_rf4 (z := p0) (by omega); omega)) (zz_rc fS17 rfl rfl (fun h => h) (zz_rc fS10 rfl rfl (fun h => h) (zz_rc fS5 rfl rfl (fun h => h) rfl)))) ?_
                  refine zz_iconst zd_2_2_91 ?_
                  refine zz_iadd zd_2_2_92 ?_
                  refine zz_puti zd_2_2_93 zf_Assembler_15 zT_1072 rfl (zz_ltn hn rfl) (fun S24 qS24 => ?_)
                  have G_S24 := zz_G.put G_S23 qS24 0 600 rfl (by omega)
                  have F_S24 := zz_fr.puts F_S23 qS24 rfl
                  refine zz_iinc [some (.ref 1072), some (.ref (zz_rf 4 p0)), some (zi (x2 + 1))] zd_2_2_96 rfl rfl ?_
                  refine zz_goto zd_2_2_99 ?_
                  refine zz_less (ls1 := [some (.ref 1072), some (.ref (zz_rf 4 p0)), some (zi (x2 + 1))]) ⟨rfl, ⟨rfl, ⟨rfl, trivial⟩⟩⟩ ?_
                  exact k14 (x2 + 1) S24 G_S24 F_S24 (by omega) (by omega)
                · exfalso; omega
theorem zi_readInto_2_2 {g : mm_G} {l : Launch} (p0 : Int) (S0 : zz_S) (n : Nat) (hn : zz_end ≤ n) (G_S0 : zz_G S0) (hp0 : 0 ≤ p0 ∧ p0 ≤ 1) : ∀ N : Nat, (∀ (x2 : Int) (S : zz_S), zz_G S → zz_fr [(1070, 2), (1070, 3), (1070, 4), (1070, 5), (1070, 6), (1072, 1), (1072, 2), (1072, 3)] [] (fun a i => a = zz_rf 4 p0) S0 S → (0 ≤ x2 ∧ x2 ≤ 1501) → (1500 + 1 - x2).toNat < N → zz_E g l zy_readInto_2_2 zr_readInto_2_2 (zz_QI n (zp_readInto_2_2 p0 S0)) S n 14 [some (.ref 1072), some (.ref (zz_rf 4 p0)), some (zi x2)] [] 0 0) := by
  intro N
  induction N with
  | zero => exact fun x2 S _ _ _ h => absurd h (Nat.not_lt_zero _)
  | succ N ih =>
    exact fun x2 S a b j0 hR => zb_readInto_2_2_14 p0 S0 n hn G_S0 hp0 x2 S a b j0 _ rfl (fun x2 S a b j0 h => ih x2 S a b j0 (Nat.lt_of_lt_of_le h (Nat.le_of_lt_succ hR)))
theorem zc_readInto_2_2 {g : mm_G} {l : Launch} (p0 : Int) (S0 : zz_S) (n : Nat) (hn : zz_end ≤ n) (G_S0 : zz_G S0) (hp0 : 0 ≤ p0 ∧ p0 ≤ 1) : mm_Met g l zy_readInto_2_2 zr_readInto_2_2 [.ref 1072, .ref (zz_rf 4 p0)] (zz_M S0 n) n (zz_QI n (zp_readInto_2_2 p0 S0)) := by
  refine zz_enter (by decide) (Nat.le_of_ble_eq_true rfl) (zz_less (ls1 := [some (.ref 1072), some (.ref (zz_rf 4 p0))]) ⟨rfl, ⟨rfl, trivial⟩⟩ ?_)
  have F_S0 : zz_fr [(1070, 2), (1070, 3), (1070, 4), (1070, 5), (1070, 6), (1072, 1), (1072, 2), (1072, 3)] [] (fun a i => a = zz_rf 4 p0) S0 S0 := zz_fr.refl
  have k14 : ∀ (x2 : Int) (S : zz_S), zz_G S → zz_fr [(1070, 2), (1070, 3), (1070, 4), (1070, 5), (1070, 6), (1072, 1), (1072, 2), (1072, 3)] [] (fun a i => a = zz_rf 4 p0) S0 S → (0 ≤ x2 ∧ x2 ≤ 1501) → zz_E g l zy_readInto_2_2 zr_readInto_2_2 (zz_QI n (zp_readInto_2_2 p0 S0)) S n 14 [some (.ref 1072), some (.ref (zz_rf 4 p0)), some (zi x2)] [] 0 0 := fun x2 S a b j0 => (zi_readInto_2_2 (g := g) (l := l) p0 S0 n hn G_S0 hp0 _) x2 S a b j0 (Nat.lt_succ_self _)
  have b_p0 := zz_rf4 (z := p0) (by omega)
  refine zz_aload_n (x := 1072) rfl zd_2_2_0 ?_
  refine zz_iconst zd_2_2_1 ?_
  refine zz_puti zd_2_2_2 zf_Assembler_15 zT_1072 rfl (zz_ltn hn rfl) (fun S1 qS1 => ?_)
  have G_S1 := zz_G.put G_S0 qS1 0 600 rfl (by omega)
  have F_S1 := zz_fr.puts F_S0 qS1 rfl
  refine zz_aload_n (x := 1072) rfl zd_2_2_5 ?_
  refine zz_getr (kd := 0) (z := 1070) zd_2_2_6 zf_Assembler_9 zT_1072 rfl (zz_ltn hn rfl) (zz_G.eq G_S1 1072 0 1070 rfl rfl) (by decide) 1070 rfl ?_
  refine zz_callVV [] zd_2_2_9 zk_Assembler_26 zT_1070 (zz_ltn hn rfl) rfl rfl ⟨Nat.le_of_ble_eq_true rfl, Nat.le_of_ble_eq_true rfl⟩ ⟨rfl, rfl⟩ (Nat.zero_le _) (Nat.zero_le _) (zc_rewind_11_5  S1 n hn G_S1 ) (fun S2 hP => ?_)
  obtain ⟨G_S2, fS2⟩ := hP
  have F_S2 := zz_fr.trans F_S1 fS2 rfl zz_nv
  refine zz_iconst zd_2_2_12 ?_
  refine zz_istore_n [some (.ref 1072), some (.ref (zz_rf 4 p0)), some (zi 0)] zd_2_2_13 (by decide) rfl ?_
  refine zz_less (ls1 := [some (.ref 1072), some (.ref (zz_rf 4 p0)), some (zi 0)]) ⟨rfl, ⟨rfl, ⟨rfl, trivial⟩⟩⟩ ?_
  exact k14 0 S2 G_S2 F_S2 (by omega)
theorem zk_TF_162 : mm_Vl "TensorForge" 162 7 1 zy_readInto_2_2 := ⟨zyw_readInto_2_2, (R_Assembler, F_Assembler, 4), rfl, mm_tb_1 560 (by decide +kernel) rfl, mm_tb_1 561 (by decide +kernel) rfl, mm_tb_1 562 (by decide +kernel) rfl⟩
theorem zd_1_13_11 : zz_D zy_assemble_1_13 11 (.istore_n 1) 1 12 := ⟨by decide +kernel, rfl⟩
theorem zd_1_13_12 : zz_D zy_assemble_1_13 12 (.iload_n 1) 1 13 := ⟨by decide +kernel, rfl⟩
theorem zd_1_13_13 : zz_D zy_assemble_1_13 13 (.iconst (-1)) 1 14 := ⟨by decide +kernel, rfl⟩
theorem zd_1_13_14 : zz_B zy_assemble_1_13 14 (Instr.if_icmp .ne) 28 17 := ⟨14, by decide +kernel, rfl, rfl⟩
theorem zd_1_13_28 : zz_D zy_assemble_1_13 28 (.iload_n 1) 1 29 := ⟨by decide +kernel, rfl⟩
theorem zd_1_13_29 : zz_D zy_assemble_1_13 29 (.ireturn) 1 30 := ⟨by decide +kernel, rfl⟩
theorem zd_1_13_17 : zz_D zy_assemble_1_13 17 (.aload_n 0) 1 18 := ⟨by decide +kernel, rfl⟩
theorem zd_1_13_18 : zz_D zy_assemble_1_13 18 (.aload_n 0) 1 19 := ⟨by decide +kernel, rfl⟩
theorem zd_1_13_19 : zz_D zy_assemble_1_13 19 (.getfield 58) 3 22 := ⟨by decide +kernel, rfl⟩
theorem zd_1_13_22 : zz_D zy_assemble_1_13 22 (.getfield 166) 3 25 := ⟨by decide +kernel, rfl⟩
theorem zf_TF_166 : mm_Fl "TensorForge" 166 7 1 .int false := ⟨R_Assembler, F_Assembler, 4, t_Assembler, rfl, i_Assembler, by decide, mm_tb_1 322 (by decide +kernel) rfl, rfl, t_Assembler_ok, n_Assembler, rfl, by decide +kernel⟩
theorem zd_1_13_25 : zz_D zy_assemble_1_13 25 (.invokevirtual 169) 3 28 := ⟨by decide +kernel, rfl⟩
abbrev zy_takeSpareWords_1_30 : mm_Y := (⟨"TensorForge", "takeSpareWords", "(I)V"⟩, prog_1_method_30_code, 3, none)
theorem zyw_takeSpareWords_1_30 : mm_Yw zy_takeSpareWords_1_30 1 := ⟨mm_tb_1 692 (by decide +kernel) rfl, mm_tb_1 1 (by decide +kernel) rfl, ⟨by decide, by decide⟩, by decide +kernel⟩
theorem zd_1_30_0 : zz_D zy_takeSpareWords_1_30 0 (.aload_n 0) 1 1 := ⟨by decide +kernel, rfl⟩
theorem zd_1_30_1 : zz_D zy_takeSpareWords_1_30 1 (.getfield 19) 3 4 := ⟨by decide +kernel, rfl⟩
theorem zd_1_30_4 : zz_D zy_takeSpareWords_1_30 4 (.astore_n 2) 1 5 := ⟨by decide +kernel, rfl⟩
theorem zd_1_30_5 : zz_D zy_takeSpareWords_1_30 5 (.aload_n 0) 1 6 := ⟨by decide +kernel, rfl⟩
theorem zd_1_30_6 : zz_D zy_takeSpareWords_1_30 6 (.aload_n 0) 1 7 := ⟨by decide +kernel, rfl⟩
theorem zd_1_30_7 : zz_D zy_takeSpareWords_1_30 7 (.getfield 23) 3 10 := ⟨by decide +kernel, rfl⟩
theorem zd_1_30_10 : zz_D zy_takeSpareWords_1_30 10 (.putfield 19) 3 13 := ⟨by decide +kernel, rfl⟩
theorem zd_1_30_13 : zz_D zy_takeSpareWords_1_30 13 (.aload_n 0) 1 14 := ⟨by decide +kernel, rfl⟩
theorem zd_1_30_14 : zz_D zy_takeSpareWords_1_30 14 (.aload_n 2) 1 15 := ⟨by decide +kernel, rfl⟩
theorem zd_1_30_15 : zz_D zy_takeSpareWords_1_30 15 (.putfield 23) 3 18 := ⟨by decide +kernel, rfl⟩
theorem zd_1_30_18 : zz_D zy_takeSpareWords_1_30 18 (.aload_n 0) 1 19 := ⟨by decide +kernel, rfl⟩
theorem zd_1_30_19 : zz_D zy_takeSpareWords_1_30 19 (.iload_n 1) 1 20 := ⟨by decide +kernel, rfl⟩
theorem zd_1_30_20 : zz_D zy_takeSpareWords_1_30 20 (.putfield 26) 3 23 := ⟨by decide +kernel, rfl⟩
theorem zd_1_30_23 : zz_D zy_takeSpareWords_1_30 23 (.return_) 1 24 := ⟨by decide +kernel, rfl⟩
-- TensorForge takeSpareWords (I)V
abbrev zr_takeSpareWords_1_30 : Room := { frames := 0, cells := 0, slots := 0, locals := 0 }
def zp_takeSpareWords_1_30 (p0 : Int) (S0 : zz_S) : zz_S → Prop := fun S => zz_G S ∧ zz_fr [(1000, 9), (1000, 10), (1000, 11)] [] (fun _ _ => False) S0 S
theorem zc_takeSpareWords_1_30 {g : mm_G} {l : Launch} (p0 : Int) (S0 : zz_S) (n : Nat) (hn : zz_end ≤ n) (G_S0 : zz_G S0) (hp0 : 0 ≤ p0 ∧ p0 ≤ 600) : mm_Met g l zy_takeSpareWords_1_30 zr_takeSpareWords_1_30 [.ref 1000, zi p0] (zz_M S0 n) n (zz_QV n (zp_takeSpareWords_1_30 p0 S0)) := by
  refine zz_enter (by decide) (Nat.le_of_ble_eq_true rfl) (zz_less (ls1 := [some (.ref 1000), some (zi p0)]) ⟨rfl, ⟨rfl, trivial⟩⟩ ?_)
  have F_S0 : zz_fr [(1000, 9), (1000, 10), (1000, 11)] [] (fun _ _ => False) S0 S0 := zz_fr.refl
  refine zz_aload_n (x := 1000) rfl zd_1_30_0 ?_
  have g1 := zz_G.r G_S0 1000 9 0 1 rfl rfl
  refine zz_getr (kd := 2) (z := S0 1000 9) zd_1_30_1 zf_TF_19 zT_1000 rfl (zz_ltn hn rfl) rfl (by omega) (zz_rf 4 (S0 1000 9)) rfl ?_
  refine zz_astore_n [some (.ref 1000), some (zi p0), some (.ref (zz_rf 4 (S0 1000 9)))] zd_1_30_4 (by decide) rfl ?_
  refine zz_aload_n (x := 1000) rfl zd_1_30_5 ?_
  refine zz_aload_n (x := 1000) rfl zd_1_30_6 ?_
  have g2 := zz_G.r G_S0 1000 10 0 1 rfl rfl
  refine zz_getr (kd := 2) (z := S0 1000 10) zd_1_30_7 zf_TF_23 zT_1000 rfl (zz_ltn hn rfl) rfl (by omega) (zz_rf 4 (S0 1000 10)) rfl ?_
  refine zz_putr (kd := 2) (S0 1000 10) zd_1_30_10 zf_TF_19 zT_1000 rfl (zz_ltn hn rfl) (by omega) rfl (fun _ => rfl) (fun _ => rfl) (fun S3 qS3 => ?_)
  have G_S3 := zz_G.put G_S0 qS3 0 1 rfl (by omega)
  have F_S3 := zz_fr.puts F_S0 qS3 rfl
  refine zz_aload_n (x := 1000) rfl zd_1_30_13 ?_
  refine zz_aload_n (x := zz_rf 4 (S0 1000 9)) rfl zd_1_30_14 ?_
  refine zz_putr (kd := 2) (S0 1000 9) zd_1_30_15 zf_TF_23 zT_1000 rfl (zz_ltn hn rfl) (by omega) rfl (fun _ => rfl) (fun _ => rfl) (fun S4 qS4 => ?_)
  have G_S4 := zz_G.put G_S3 qS4 0 1 rfl (by omega)
  have F_S4 := zz_fr.puts F_S3 qS4 rfl
  refine zz_aload_n (x := 1000) rfl zd_1_30_18 ?_
  refine zz_iload_n (x := p0) rfl zd_1_30_19 ?_
  refine zz_puti zd_1_30_20 zf_TF_26 zT_1000 rfl (zz_ltn hn rfl) (fun S5 qS5 => ?_)
  have G_S5 := zz_G.put G_S4 qS5 0 600 rfl (by omega)
  have F_S5 := zz_fr.puts F_S4 qS5 rfl
  exact zz_vret zd_1_30_23 rfl (Nat.zero_le _) (Nat.zero_le _) ⟨_, rfl, G_S5, F_S5⟩
theorem zk_TF_169 : mm_Vl "TensorForge" 169 0 1 zy_takeSpareWords_1_30 := ⟨zyw_takeSpareWords_1_30, (R_TF, F_TF, 12), rfl, mm_tb_1 689 (by decide +kernel) rfl, mm_tb_1 691 (by decide +kernel) rfl, mm_tb_s 13 (by decide +kernel) rfl⟩
-- TensorForge assemble ()I
abbrev zr_assemble_1_13 : Room := { frames := 10, cells := 0, slots := 0, locals := 135 }
def zp_assemble_1_13  (S0 : zz_S) : Int → zz_S → Prop := fun r S => zz_G S ∧ zz_fr [(1000, 9), (1000, 10), (1000, 11), (1070, 2), (1070, 3), (1070, 4), (1070, 5), (1070, 6), (1072, 1), (1072, 2), (1072, 3)] [] (fun a i => a = zz_rf 4 (S0 1000 10)) S0 S ∧ ((-2147483648) ≤ r ∧ r ≤ 2147483647)
theorem zc_assemble_1_13 {g : mm_G} {l : Launch}  (S0 : zz_S) (n : Nat) (hn : zz_end ≤ n) (G_S0 : zz_G S0)  : mm_Met g l zy_assemble_1_13 zr_assemble_1_13 [.ref 1000] (zz_M S0 n) n (zz_QI n (zp_assemble_1_13  S0)) := by
  refine zz_enter (by decide) (Nat.le_of_ble_eq_true rfl) (zz_less (ls1 := [some (.ref 1000)]) ⟨rfl, trivial⟩ ?_)
  have F_S0 : zz_fr [(1000, 9), (1000, 10), (1000, 11), (1070, 2), (1070, 3), (1070, 4), (1070, 5), (1070, 6), (1072, 1), (1072, 2), (1072, 3)] [] (fun a i => a = zz_rf 4 (S0 1000 10)) S0 S0 := zz_fr.refl
  refine zz_aload_n (x := 1000) rfl zd_1_13_0 ?_
  refine zz_getr (kd := 0) (z := 1072) zd_1_13_1 zf_TF_58 zT_1000 rfl (zz_ltn hn rfl) (zz_G.eq G_S0 1000 3 1072 rfl rfl) (by decide) 1072 rfl ?_
  refine zz_aload_n (x := 1000) rfl zd_1_13_4 ?_
  have g1 := zz_G.r G_S0 1000 10 0 1 rfl rfl
  refine zz_getr (kd := 2) (z := S0 1000 10) zd_1_13_5 zf_TF_23 zT_1000 rfl (zz_ltn hn rfl) rfl (by omega) (zz_rf 4 (S0 1000 10)) rfl ?_
  refine zz_callVI [.ref (zz_rf 4 (S0 1000 10))] zd_1_13_8 zk_TF_162 zT_1072 (zz_ltn hn rfl) rfl rfl ⟨Nat.le_of_ble_eq_true rfl, Nat.le_of_ble_eq_true rfl⟩ ⟨rfl, rfl⟩ (Nat.zero_le _) (Nat.zero_le _) (zc_readInto_2_2 (S0 1000 10) S0 n hn G_S0 (by omega)) (fun v3 S2 hP => ?_)
  obtain ⟨G_S2, fS2, o4⟩ := hP
  have F_S2 := zz_fr.trans F_S0 fS2 rfl (fun a i h => Or.inr (Or.inr (h)))
  refine zz_istore_n [some (.ref 1000), some (zi v3)] zd_1_13_11 (by decide) rfl ?_
  refine zz_iload_n (x := v3) rfl zd_1_13_12 ?_
  refine zz_iconst zd_1_13_13 ?_
  refine zz_icmp_ne (by omega) (by omega) zd_1_13_14 (fun c5 => ?_) (fun c5 => ?_)
  · refine zz_iload_n (x := v3) rfl zd_1_13_28 ?_
    exact zz_iret zd_1_13_29 rfl (Nat.zero_le _) (Nat.zero_le _) ⟨_, _, rfl, G_S2, F_S2, by omega⟩
  · refine zz_aload_n (x := 1000) rfl zd_1_13_17 ?_
    refine zz_aload_n (x := 1000) rfl zd_1_13_18 ?_
    refine zz_getr (kd := 0) (z := 1072) zd_1_13_19 zf_TF_58 zT_1000 rfl (zz_ltn hn rfl) (zz_G.eq G_S2 1000 3 1072 rfl rfl) (by decide) 1072 rfl ?_
    have g6 := zz_G.r G_S2 1072 1 0 600 rfl rfl
    refine zz_geti (z := S2 1072 1) zd_1_13_22 zf_TF_166 zT_1072 rfl (zz_ltn hn rfl) rfl ?_
    refine zz_callVV [zi (S2 1072 1)] zd_1_13_25 zk_TF_169 zT_1000 (zz_ltn hn rfl) rfl rfl ⟨Nat.le_of_ble_eq_true rfl, Nat.le_of_ble_eq_true rfl⟩ ⟨rfl, rfl⟩ (Nat.zero_le _) (Nat.zero_le _) (zc_takeSpareWords_1_30 (S2 1072 1) S2 n hn G_S2 (by omega)) (fun S7 hP => ?_)
    obtain ⟨G_S7, fS7⟩ := hP
    have F_S7 := zz_fr.trans F_S2 fS7 rfl zz_nv
    refine zz_iload_n (x := v3) rfl zd_1_13_28 ?_
    exact zz_iret zd_1_13_29 rfl (Nat.zero_le _) (Nat.zero_le _) ⟨_, _, rfl, G_S7, F_S7, by omega⟩
end
