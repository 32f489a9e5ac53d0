section
-- ===== PART A: goes FIRST, ahead of the names: the tables' words, and 'selects' of the private methods out of them =====
/-- a private method of a class that the tables say can be made, by its rows of tables_1 -/
def lw_okq (q : MethodName × Nat) : Prop := (q.1.cls ≠ "java/lang/invoke/MethodHandle" ∧ q.1.cls ≠ "java/lang/invoke/VarHandle") ∧ Cond.instantiable q.1.cls q.2 ∈ tables_1 ∧ Cond.privateMethod q.1 ∈ tables_1 ∧ Cond.instanceMethod q.1 ∈ tables_1
theorem lw_p0 : lw_okq (⟨"TensorForge$Machine", "shapeFits", "(J)Z"⟩, 14) := ⟨⟨by decide +kernel, by decide +kernel⟩, List.mem_of_getElem? (i := 155) (by decide +kernel), List.mem_of_getElem? (i := 508) (by decide +kernel), List.mem_of_getElem? (i := 509) (by decide +kernel)⟩
theorem lw_p1 : lw_okq (⟨"TensorForge$Machine", "numberFits", "(J)Z"⟩, 14) := ⟨⟨by decide +kernel, by decide +kernel⟩, List.mem_of_getElem? (i := 155) (by decide +kernel), List.mem_of_getElem? (i := 513) (by decide +kernel), List.mem_of_getElem? (i := 514) (by decide +kernel)⟩
theorem lw_p2 : lw_okq (⟨"TensorForge$Reaches", "forget", "()V"⟩, 4) := ⟨⟨by decide +kernel, by decide +kernel⟩, List.mem_of_getElem? (i := 163) (by decide +kernel), List.mem_of_getElem? (i := 528) (by decide +kernel), List.mem_of_getElem? (i := 529) (by decide +kernel)⟩
theorem lw_p3 : lw_okq (⟨"TensorForge$Reaches", "reads", "(III)V"⟩, 4) := ⟨⟨by decide +kernel, by decide +kernel⟩, List.mem_of_getElem? (i := 163) (by decide +kernel), List.mem_of_getElem? (i := 536) (by decide +kernel), List.mem_of_getElem? (i := 537) (by decide +kernel)⟩
theorem lw_p4 : lw_okq (⟨"TensorForge$Reaches", "writes", "(III)V"⟩, 4) := ⟨⟨by decide +kernel, by decide +kernel⟩, List.mem_of_getElem? (i := 163) (by decide +kernel), List.mem_of_getElem? (i := 540) (by decide +kernel), List.mem_of_getElem? (i := 541) (by decide +kernel)⟩
theorem lw_p5 : lw_okq (⟨"TensorForge$Reaches", "takeWork", "(JI)V"⟩, 4) := ⟨⟨by decide +kernel, by decide +kernel⟩, List.mem_of_getElem? (i := 163) (by decide +kernel), List.mem_of_getElem? (i := 544) (by decide +kernel), List.mem_of_getElem? (i := 545) (by decide +kernel)⟩
theorem lw_p6 : lw_okq (⟨"TensorForge$Reaches", "workOnSums", "(IIZ)V"⟩, 4) := ⟨⟨by decide +kernel, by decide +kernel⟩, List.mem_of_getElem? (i := 163) (by decide +kernel), List.mem_of_getElem? (i := 548) (by decide +kernel), List.mem_of_getElem? (i := 549) (by decide +kernel)⟩
theorem lw_p7 : lw_okq (⟨"TensorForge$Assembler", "readInstruction", "()Z"⟩, 4) := ⟨⟨by decide +kernel, by decide +kernel⟩, List.mem_of_getElem? (i := 315) (by decide +kernel), List.mem_of_getElem? (i := 574) (by decide +kernel), List.mem_of_getElem? (i := 575) (by decide +kernel)⟩
theorem lw_p8 : lw_okq (⟨"TensorForge$Assembler", "kindTold", "()I"⟩, 4) := ⟨⟨by decide +kernel, by decide +kernel⟩, List.mem_of_getElem? (i := 315) (by decide +kernel), List.mem_of_getElem? (i := 578) (by decide +kernel), List.mem_of_getElem? (i := 579) (by decide +kernel)⟩
theorem lw_p9 : lw_okq (⟨"TensorForge$Assembler", "readPart", "()Z"⟩, 4) := ⟨⟨by decide +kernel, by decide +kernel⟩, List.mem_of_getElem? (i := 315) (by decide +kernel), List.mem_of_getElem? (i := 650) (by decide +kernel), List.mem_of_getElem? (i := 651) (by decide +kernel)⟩
theorem lw_p10 : lw_okq (⟨"TensorForge$Assembler", "readNumber", "(I)Z"⟩, 4) := ⟨⟨by decide +kernel, by decide +kernel⟩, List.mem_of_getElem? (i := 315) (by decide +kernel), List.mem_of_getElem? (i := 655) (by decide +kernel), List.mem_of_getElem? (i := 656) (by decide +kernel)⟩
theorem lw_p11 : lw_okq (⟨"TensorForge$Assembler", "setOnce", "(II)Z"⟩, 4) := ⟨⟨by decide +kernel, by decide +kernel⟩, List.mem_of_getElem? (i := 315) (by decide +kernel), List.mem_of_getElem? (i := 667) (by decide +kernel), List.mem_of_getElem? (i := 668) (by decide +kernel)⟩
theorem lw_p12 : lw_okq (⟨"TensorForge$Assembler", "readNeighbour", "(II)Z"⟩, 4) := ⟨⟨by decide +kernel, by decide +kernel⟩, List.mem_of_getElem? (i := 315) (by decide +kernel), List.mem_of_getElem? (i := 683) (by decide +kernel), List.mem_of_getElem? (i := 684) (by decide +kernel)⟩
theorem lw_p13 : lw_okq (⟨"TensorForge", "takeSpareWords", "(I)V"⟩, 12) := ⟨⟨by decide +kernel, by decide +kernel⟩, List.mem_of_getElem? (i := 29) (by decide +kernel), List.mem_of_getElem? (i := 690) (by decide +kernel), List.mem_of_getElem? (i := 691) (by decide +kernel)⟩
theorem lw_p14 : lw_okq (⟨"TensorForge$Run", "prepare", "([JI)V"⟩, 10) := ⟨⟨by decide +kernel, by decide +kernel⟩, List.mem_of_getElem? (i := 231) (by decide +kernel), List.mem_of_getElem? (i := 702) (by decide +kernel), List.mem_of_getElem? (i := 703) (by decide +kernel)⟩
theorem lw_p15 : lw_okq (⟨"TensorForge$Run", "nextOf", "(II)I"⟩, 10) := ⟨⟨by decide +kernel, by decide +kernel⟩, List.mem_of_getElem? (i := 231) (by decide +kernel), List.mem_of_getElem? (i := 716) (by decide +kernel), List.mem_of_getElem? (i := 717) (by decide +kernel)⟩
def lw_privs_1 : List (MethodName × Nat) := [(⟨"TensorForge$Machine", "shapeFits", "(J)Z"⟩, 14), (⟨"TensorForge$Machine", "numberFits", "(J)Z"⟩, 14), (⟨"TensorForge$Reaches", "forget", "()V"⟩, 4), (⟨"TensorForge$Reaches", "reads", "(III)V"⟩, 4), (⟨"TensorForge$Reaches", "writes", "(III)V"⟩, 4), (⟨"TensorForge$Reaches", "takeWork", "(JI)V"⟩, 4), (⟨"TensorForge$Reaches", "workOnSums", "(IIZ)V"⟩, 4), (⟨"TensorForge$Assembler", "readInstruction", "()Z"⟩, 4), (⟨"TensorForge$Assembler", "kindTold", "()I"⟩, 4), (⟨"TensorForge$Assembler", "readPart", "()Z"⟩, 4), (⟨"TensorForge$Assembler", "readNumber", "(I)Z"⟩, 4), (⟨"TensorForge$Assembler", "setOnce", "(II)Z"⟩, 4), (⟨"TensorForge$Assembler", "readNeighbour", "(II)Z"⟩, 4), (⟨"TensorForge", "takeSpareWords", "(I)V"⟩, 12), (⟨"TensorForge$Run", "prepare", "([JI)V"⟩, 10), (⟨"TensorForge$Run", "nextOf", "(II)I"⟩, 10)]
theorem lw_r1 : ∀ q ∈ lw_privs_1, lw_okq q := List.forall_mem_cons.mpr ⟨lw_p0, List.forall_mem_cons.mpr ⟨lw_p1, List.forall_mem_cons.mpr ⟨lw_p2, List.forall_mem_cons.mpr ⟨lw_p3, List.forall_mem_cons.mpr ⟨lw_p4, List.forall_mem_cons.mpr ⟨lw_p5, List.forall_mem_cons.mpr ⟨lw_p6, List.forall_mem_cons.mpr ⟨lw_p7, List.forall_mem_cons.mpr ⟨lw_p8, List.forall_mem_cons.mpr ⟨lw_p9, List.forall_mem_cons.mpr ⟨lw_p10, List.forall_mem_cons.mpr ⟨lw_p11, List.forall_mem_cons.mpr ⟨lw_p12, List.forall_mem_cons.mpr ⟨lw_p13, List.forall_mem_cons.mpr ⟨lw_p14, List.forall_mem_cons.mpr ⟨lw_p15, fun _ h => absurd h List.not_mem_nil⟩⟩⟩⟩⟩⟩⟩⟩⟩⟩⟩⟩⟩⟩⟩⟩
theorem lw_p16 : lw_okq (⟨"TensorForge$Run", "firstForbidden", "()I"⟩, 10) := ⟨⟨by decide +kernel, by decide +kernel⟩, List.mem_of_getElem? (i := 231) (by decide +kernel), List.mem_of_getElem? (i := 721) (by decide +kernel), List.mem_of_getElem? (i := 722) (by decide +kernel)⟩
theorem lw_p17 : lw_okq (⟨"TensorForge$Run", "tell", "(III)V"⟩, 10) := ⟨⟨by decide +kernel, by decide +kernel⟩, List.mem_of_getElem? (i := 231) (by decide +kernel), List.mem_of_getElem? (i := 726) (by decide +kernel), List.mem_of_getElem? (i := 727) (by decide +kernel)⟩
theorem lw_p18 : lw_okq (⟨"TensorForge$Run", "endUpTo", "(I)V"⟩, 10) := ⟨⟨by decide +kernel, by decide +kernel⟩, List.mem_of_getElem? (i := 231) (by decide +kernel), List.mem_of_getElem? (i := 730) (by decide +kernel), List.mem_of_getElem? (i := 731) (by decide +kernel)⟩
theorem lw_p19 : lw_okq (⟨"TensorForge$Run", "pushTokens", "(IJ)V"⟩, 10) := ⟨⟨by decide +kernel, by decide +kernel⟩, List.mem_of_getElem? (i := 231) (by decide +kernel), List.mem_of_getElem? (i := 734) (by decide +kernel), List.mem_of_getElem? (i := 735) (by decide +kernel)⟩
theorem lw_p20 : lw_okq (⟨"TensorForge$Run", "addTokens", "(II)V"⟩, 10) := ⟨⟨by decide +kernel, by decide +kernel⟩, List.mem_of_getElem? (i := 231) (by decide +kernel), List.mem_of_getElem? (i := 742) (by decide +kernel), List.mem_of_getElem? (i := 743) (by decide +kernel)⟩
theorem lw_p21 : lw_okq (⟨"TensorForge$Run", "beginAt", "(I)I"⟩, 10) := ⟨⟨by decide +kernel, by decide +kernel⟩, List.mem_of_getElem? (i := 231) (by decide +kernel), List.mem_of_getElem? (i := 749) (by decide +kernel), List.mem_of_getElem? (i := 750) (by decide +kernel)⟩
theorem lw_p22 : lw_okq (⟨"TensorForge$Run", "hasTokens", "(IJ)Z"⟩, 10) := ⟨⟨by decide +kernel, by decide +kernel⟩, List.mem_of_getElem? (i := 231) (by decide +kernel), List.mem_of_getElem? (i := 753) (by decide +kernel), List.mem_of_getElem? (i := 754) (by decide +kernel)⟩
theorem lw_p23 : lw_okq (⟨"TensorForge$Run", "tokens", "(I)I"⟩, 10) := ⟨⟨by decide +kernel, by decide +kernel⟩, List.mem_of_getElem? (i := 231) (by decide +kernel), List.mem_of_getElem? (i := 761) (by decide +kernel), List.mem_of_getElem? (i := 762) (by decide +kernel)⟩
theorem lw_p24 : lw_okq (⟨"TensorForge$Run", "races", "()Z"⟩, 10) := ⟨⟨by decide +kernel, by decide +kernel⟩, List.mem_of_getElem? (i := 231) (by decide +kernel), List.mem_of_getElem? (i := 769) (by decide +kernel), List.mem_of_getElem? (i := 770) (by decide +kernel)⟩
theorem lw_p25 : lw_okq (⟨"TensorForge$Run", "begin", "(III)V"⟩, 10) := ⟨⟨by decide +kernel, by decide +kernel⟩, List.mem_of_getElem? (i := 231) (by decide +kernel), List.mem_of_getElem? (i := 780) (by decide +kernel), List.mem_of_getElem? (i := 781) (by decide +kernel)⟩
theorem lw_p26 : lw_okq (⟨"TensorForge$Run", "popTokens", "(IJ)V"⟩, 10) := ⟨⟨by decide +kernel, by decide +kernel⟩, List.mem_of_getElem? (i := 231) (by decide +kernel), List.mem_of_getElem? (i := 787) (by decide +kernel), List.mem_of_getElem? (i := 788) (by decide +kernel)⟩
theorem lw_p27 : lw_okq (⟨"TensorForge$Machine", "decode", "(J)V"⟩, 14) := ⟨⟨by decide +kernel, by decide +kernel⟩, List.mem_of_getElem? (i := 155) (by decide +kernel), List.mem_of_getElem? (i := 795) (by decide +kernel), List.mem_of_getElem? (i := 796) (by decide +kernel)⟩
theorem lw_p28 : lw_okq (⟨"TensorForge$Machine", "loadBytes", "([B)V"⟩, 14) := ⟨⟨by decide +kernel, by decide +kernel⟩, List.mem_of_getElem? (i := 155) (by decide +kernel), List.mem_of_getElem? (i := 799) (by decide +kernel), List.mem_of_getElem? (i := 800) (by decide +kernel)⟩
theorem lw_p29 : lw_okq (⟨"TensorForge$Machine", "clearCells", "()V"⟩, 14) := ⟨⟨by decide +kernel, by decide +kernel⟩, List.mem_of_getElem? (i := 155) (by decide +kernel), List.mem_of_getElem? (i := 803) (by decide +kernel), List.mem_of_getElem? (i := 804) (by decide +kernel)⟩
theorem lw_p30 : lw_okq (⟨"TensorForge$Machine", "loadSums", "()V"⟩, 14) := ⟨⟨by decide +kernel, by decide +kernel⟩, List.mem_of_getElem? (i := 155) (by decide +kernel), List.mem_of_getElem? (i := 807) (by decide +kernel), List.mem_of_getElem? (i := 808) (by decide +kernel)⟩
theorem lw_p31 : lw_okq (⟨"TensorForge$Machine", "multiply", "()V"⟩, 14) := ⟨⟨by decide +kernel, by decide +kernel⟩, List.mem_of_getElem? (i := 155) (by decide +kernel), List.mem_of_getElem? (i := 814) (by decide +kernel), List.mem_of_getElem? (i := 815) (by decide +kernel)⟩
def lw_privs_2 : List (MethodName × Nat) := [(⟨"TensorForge$Run", "firstForbidden", "()I"⟩, 10), (⟨"TensorForge$Run", "tell", "(III)V"⟩, 10), (⟨"TensorForge$Run", "endUpTo", "(I)V"⟩, 10), (⟨"TensorForge$Run", "pushTokens", "(IJ)V"⟩, 10), (⟨"TensorForge$Run", "addTokens", "(II)V"⟩, 10), (⟨"TensorForge$Run", "beginAt", "(I)I"⟩, 10), (⟨"TensorForge$Run", "hasTokens", "(IJ)Z"⟩, 10), (⟨"TensorForge$Run", "tokens", "(I)I"⟩, 10), (⟨"TensorForge$Run", "races", "()Z"⟩, 10), (⟨"TensorForge$Run", "begin", "(III)V"⟩, 10), (⟨"TensorForge$Run", "popTokens", "(IJ)V"⟩, 10), (⟨"TensorForge$Machine", "decode", "(J)V"⟩, 14), (⟨"TensorForge$Machine", "loadBytes", "([B)V"⟩, 14), (⟨"TensorForge$Machine", "clearCells", "()V"⟩, 14), (⟨"TensorForge$Machine", "loadSums", "()V"⟩, 14), (⟨"TensorForge$Machine", "multiply", "()V"⟩, 14)]
theorem lw_r2 : ∀ q ∈ lw_privs_2, lw_okq q := List.forall_mem_cons.mpr ⟨lw_p16, List.forall_mem_cons.mpr ⟨lw_p17, List.forall_mem_cons.mpr ⟨lw_p18, List.forall_mem_cons.mpr ⟨lw_p19, List.forall_mem_cons.mpr ⟨lw_p20, List.forall_mem_cons.mpr ⟨lw_p21, List.forall_mem_cons.mpr ⟨lw_p22, List.forall_mem_cons.mpr ⟨lw_p23, List.forall_mem_cons.mpr ⟨lw_p24, List.forall_mem_cons.mpr ⟨lw_p25, List.forall_mem_cons.mpr ⟨lw_p26, List.forall_mem_cons.mpr ⟨lw_p27, List.forall_mem_cons.mpr ⟨lw_p28, List.forall_mem_cons.mpr ⟨lw_p29, List.forall_mem_cons.mpr ⟨lw_p30, List.forall_mem_cons.mpr ⟨lw_p31, fun _ h => absurd h List.not_mem_nil⟩⟩⟩⟩⟩⟩⟩⟩⟩⟩⟩⟩⟩⟩⟩⟩
theorem lw_p32 : lw_okq (⟨"TensorForge$Machine", "combine", "()V"⟩, 14) := ⟨⟨by decide +kernel, by decide +kernel⟩, List.mem_of_getElem? (i := 155) (by decide +kernel), List.mem_of_getElem? (i := 818) (by decide +kernel), List.mem_of_getElem? (i := 819) (by decide +kernel)⟩
theorem lw_p33 : lw_okq (⟨"TensorForge$Machine", "narrow", "()V"⟩, 14) := ⟨⟨by decide +kernel, by decide +kernel⟩, List.mem_of_getElem? (i := 155) (by decide +kernel), List.mem_of_getElem? (i := 823) (by decide +kernel), List.mem_of_getElem? (i := 824) (by decide +kernel)⟩
theorem lw_p34 : lw_okq (⟨"TensorForge$Machine", "store", "()V"⟩, 14) := ⟨⟨by decide +kernel, by decide +kernel⟩, List.mem_of_getElem? (i := 155) (by decide +kernel), List.mem_of_getElem? (i := 838) (by decide +kernel), List.mem_of_getElem? (i := 839) (by decide +kernel)⟩
theorem lw_p35 : lw_okq (⟨"TensorForge$Run", "soonestEnd", "()I"⟩, 10) := ⟨⟨by decide +kernel, by decide +kernel⟩, List.mem_of_getElem? (i := 231) (by decide +kernel), List.mem_of_getElem? (i := 842) (by decide +kernel), List.mem_of_getElem? (i := 843) (by decide +kernel)⟩
theorem lw_p36 : lw_okq (⟨"TensorForge$Run", "leastNext", "()I"⟩, 10) := ⟨⟨by decide +kernel, by decide +kernel⟩, List.mem_of_getElem? (i := 231) (by decide +kernel), List.mem_of_getElem? (i := 846) (by decide +kernel), List.mem_of_getElem? (i := 847) (by decide +kernel)⟩
theorem lw_p37 : lw_okq (⟨"TensorForge$Layer", "sumOf", "([BLTensorForge$Layer;LTensorForge$Layer;III)I"⟩, 15) := ⟨⟨by decide +kernel, by decide +kernel⟩, List.mem_of_getElem? (i := 44) (by decide +kernel), List.mem_of_getElem? (i := 871) (by decide +kernel), List.mem_of_getElem? (i := 872) (by decide +kernel)⟩
theorem lw_p38 : lw_okq (⟨"TensorForge$Layer", "convolved", "([BLTensorForge$Layer;III)I"⟩, 15) := ⟨⟨by decide +kernel, by decide +kernel⟩, List.mem_of_getElem? (i := 44) (by decide +kernel), List.mem_of_getElem? (i := 875) (by decide +kernel), List.mem_of_getElem? (i := 876) (by decide +kernel)⟩
theorem lw_p39 : lw_okq (⟨"TensorForge$Layer", "product", "([BLTensorForge$Layer;II)I"⟩, 15) := ⟨⟨by decide +kernel, by decide +kernel⟩, List.mem_of_getElem? (i := 44) (by decide +kernel), List.mem_of_getElem? (i := 892) (by decide +kernel), List.mem_of_getElem? (i := 893) (by decide +kernel)⟩
theorem lw_p40 : lw_okq (⟨"TensorForge$Layer", "greatest", "([BLTensorForge$Layer;III)I"⟩, 15) := ⟨⟨by decide +kernel, by decide +kernel⟩, List.mem_of_getElem? (i := 44) (by decide +kernel), List.mem_of_getElem? (i := 899) (by decide +kernel), List.mem_of_getElem? (i := 900) (by decide +kernel)⟩
theorem lw_p41 : lw_okq (⟨"TensorForge$NetworkReader", "readLayer", "()Z"⟩, 9) := ⟨⟨by decide +kernel, by decide +kernel⟩, List.mem_of_getElem? (i := 335) (by decide +kernel), List.mem_of_getElem? (i := 921) (by decide +kernel), List.mem_of_getElem? (i := 922) (by decide +kernel)⟩
theorem lw_p42 : lw_okq (⟨"TensorForge$NetworkReader", "readTensor", "()I"⟩, 9) := ⟨⟨by decide +kernel, by decide +kernel⟩, List.mem_of_getElem? (i := 335) (by decide +kernel), List.mem_of_getElem? (i := 929) (by decide +kernel), List.mem_of_getElem? (i := 930) (by decide +kernel)⟩
theorem lw_p43 : lw_okq (⟨"TensorForge$NetworkReader", "tensorNamed", "()I"⟩, 9) := ⟨⟨by decide +kernel, by decide +kernel⟩, List.mem_of_getElem? (i := 335) (by decide +kernel), List.mem_of_getElem? (i := 933) (by decide +kernel), List.mem_of_getElem? (i := 934) (by decide +kernel)⟩
theorem lw_p44 : lw_okq (⟨"TensorForge$NetworkReader", "readOptions", "()Z"⟩, 9) := ⟨⟨by decide +kernel, by decide +kernel⟩, List.mem_of_getElem? (i := 335) (by decide +kernel), List.mem_of_getElem? (i := 946) (by decide +kernel), List.mem_of_getElem? (i := 947) (by decide +kernel)⟩
theorem lw_p45 : lw_okq (⟨"TensorForge$NetworkReader", "optionTold", "()I"⟩, 9) := ⟨⟨by decide +kernel, by decide +kernel⟩, List.mem_of_getElem? (i := 335) (by decide +kernel), List.mem_of_getElem? (i := 950) (by decide +kernel), List.mem_of_getElem? (i := 951) (by decide +kernel)⟩
theorem lw_p46 : lw_okq (⟨"TensorForge$NetworkReader", "readOption", "(I)Z"⟩, 9) := ⟨⟨by decide +kernel, by decide +kernel⟩, List.mem_of_getElem? (i := 335) (by decide +kernel), List.mem_of_getElem? (i := 962) (by decide +kernel), List.mem_of_getElem? (i := 963) (by decide +kernel)⟩
theorem lw_p47 : lw_okq (⟨"TensorForge$NetworkReader", "readName", "()Z"⟩, 9) := ⟨⟨by decide +kernel, by decide +kernel⟩, List.mem_of_getElem? (i := 335) (by decide +kernel), List.mem_of_getElem? (i := 966) (by decide +kernel), List.mem_of_getElem? (i := 967) (by decide +kernel)⟩
def lw_privs_3 : List (MethodName × Nat) := [(⟨"TensorForge$Machine", "combine", "()V"⟩, 14), (⟨"TensorForge$Machine", "narrow", "()V"⟩, 14), (⟨"TensorForge$Machine", "store", "()V"⟩, 14), (⟨"TensorForge$Run", "soonestEnd", "()I"⟩, 10), (⟨"TensorForge$Run", "leastNext", "()I"⟩, 10), (⟨"TensorForge$Layer", "sumOf", "([BLTensorForge$Layer;LTensorForge$Layer;III)I"⟩, 15), (⟨"TensorForge$Layer", "convolved", "([BLTensorForge$Layer;III)I"⟩, 15), (⟨"TensorForge$Layer", "product", "([BLTensorForge$Layer;II)I"⟩, 15), (⟨"TensorForge$Layer", "greatest", "([BLTensorForge$Layer;III)I"⟩, 15), (⟨"TensorForge$NetworkReader", "readLayer", "()Z"⟩, 9), (⟨"TensorForge$NetworkReader", "readTensor", "()I"⟩, 9), (⟨"TensorForge$NetworkReader", "tensorNamed", "()I"⟩, 9), (⟨"TensorForge$NetworkReader", "readOptions", "()Z"⟩, 9), (⟨"TensorForge$NetworkReader", "optionTold", "()I"⟩, 9), (⟨"TensorForge$NetworkReader", "readOption", "(I)Z"⟩, 9), (⟨"TensorForge$NetworkReader", "readName", "()Z"⟩, 9)]
theorem lw_r3 : ∀ q ∈ lw_privs_3, lw_okq q := List.forall_mem_cons.mpr ⟨lw_p32, List.forall_mem_cons.mpr ⟨lw_p33, List.forall_mem_cons.mpr ⟨lw_p34, List.forall_mem_cons.mpr ⟨lw_p35, List.forall_mem_cons.mpr ⟨lw_p36, List.forall_mem_cons.mpr ⟨lw_p37, List.forall_mem_cons.mpr ⟨lw_p38, List.forall_mem_cons.mpr ⟨lw_p39, List.forall_mem_cons.mpr ⟨lw_p40, List.forall_mem_cons.mpr ⟨lw_p41, List.forall_mem_cons.mpr ⟨lw_p42, List.forall_mem_cons.mpr ⟨lw_p43, List.forall_mem_cons.mpr ⟨lw_p44, List.forall_mem_cons.mpr ⟨lw_p45, List.forall_mem_cons.mpr ⟨lw_p46, List.forall_mem_cons.mpr ⟨lw_p47, fun _ h => absurd h List.not_mem_nil⟩⟩⟩⟩⟩⟩⟩⟩⟩⟩⟩⟩⟩⟩⟩⟩
theorem lw_p48 : lw_okq (⟨"TensorForge$NetworkReader", "beginsLineOrIsX", "()Z"⟩, 9) := ⟨⟨by decide +kernel, by decide +kernel⟩, List.mem_of_getElem? (i := 335) (by decide +kernel), List.mem_of_getElem? (i := 974) (by decide +kernel), List.mem_of_getElem? (i := 975) (by decide +kernel)⟩
theorem lw_p49 : lw_okq (⟨"TensorForge$NetworkReader", "readKernelFrom", "(ILTensorForge$Layer;)Z"⟩, 9) := ⟨⟨by decide +kernel, by decide +kernel⟩, List.mem_of_getElem? (i := 335) (by decide +kernel), List.mem_of_getElem? (i := 981) (by decide +kernel), List.mem_of_getElem? (i := 982) (by decide +kernel)⟩
theorem lw_p50 : lw_okq (⟨"TensorForge$Layer", "parametersSize", "(LTensorForge$Layer;)I"⟩, 15) := ⟨⟨by decide +kernel, by decide +kernel⟩, List.mem_of_getElem? (i := 44) (by decide +kernel), List.mem_of_getElem? (i := 1006) (by decide +kernel), List.mem_of_getElem? (i := 1007) (by decide +kernel)⟩
theorem lw_p51 : lw_okq (⟨"TensorForge$NetworkReader", "readInput", "()Z"⟩, 9) := ⟨⟨by decide +kernel, by decide +kernel⟩, List.mem_of_getElem? (i := 335) (by decide +kernel), List.mem_of_getElem? (i := 1019) (by decide +kernel), List.mem_of_getElem? (i := 1020) (by decide +kernel)⟩
theorem lw_p52 : lw_okq (⟨"TensorForge$NetworkReader", "keepName", "(I)V"⟩, 9) := ⟨⟨by decide +kernel, by decide +kernel⟩, List.mem_of_getElem? (i := 335) (by decide +kernel), List.mem_of_getElem? (i := 1037) (by decide +kernel), List.mem_of_getElem? (i := 1038) (by decide +kernel)⟩
theorem lw_p53 : lw_okq (⟨"java/lang/Throwable", "fillInStackTrace", "(I)Ljava/lang/Throwable;"⟩, 6) := ⟨⟨by decide +kernel, by decide +kernel⟩, List.mem_of_getElem? (i := 1088) (by decide +kernel), List.mem_of_getElem? (i := 1086) (by decide +kernel), List.mem_of_getElem? (i := 1087) (by decide +kernel)⟩
theorem lw_p54 : lw_okq (⟨"TensorForge$Line", "addToken", "(Ljava/lang/String;)V"⟩, 2) := ⟨⟨by decide +kernel, by decide +kernel⟩, List.mem_of_getElem? (i := 428) (by decide +kernel), List.mem_of_getElem? (i := 1259) (by decide +kernel), List.mem_of_getElem? (i := 1260) (by decide +kernel)⟩
theorem lw_p55 : lw_okq (⟨"TensorForge$Line", "addSign", "(C)V"⟩, 2) := ⟨⟨by decide +kernel, by decide +kernel⟩, List.mem_of_getElem? (i := 428) (by decide +kernel), List.mem_of_getElem? (i := 1263) (by decide +kernel), List.mem_of_getElem? (i := 1264) (by decide +kernel)⟩
theorem lw_p56 : lw_okq (⟨"TensorForge$Line", "addUnlessNothing", "(Ljava/lang/String;JI)V"⟩, 2) := ⟨⟨by decide +kernel, by decide +kernel⟩, List.mem_of_getElem? (i := 428) (by decide +kernel), List.mem_of_getElem? (i := 1270) (by decide +kernel), List.mem_of_getElem? (i := 1271) (by decide +kernel)⟩
theorem lw_p57 : lw_okq (⟨"TensorForge$Line", "addNumbered", "(Ljava/lang/String;I)V"⟩, 2) := ⟨⟨by decide +kernel, by decide +kernel⟩, List.mem_of_getElem? (i := 428) (by decide +kernel), List.mem_of_getElem? (i := 1275) (by decide +kernel), List.mem_of_getElem? (i := 1276) (by decide +kernel)⟩
theorem lw_p58 : lw_okq (⟨"TensorForge$Line", "addNumber", "(I)V"⟩, 2) := ⟨⟨by decide +kernel, by decide +kernel⟩, List.mem_of_getElem? (i := 428) (by decide +kernel), List.mem_of_getElem? (i := 1279) (by decide +kernel), List.mem_of_getElem? (i := 1280) (by decide +kernel)⟩
theorem lw_p59 : lw_okq (⟨"TensorForge$Line", "addPair", "(Ljava/lang/String;II)V"⟩, 2) := ⟨⟨by decide +kernel, by decide +kernel⟩, List.mem_of_getElem? (i := 428) (by decide +kernel), List.mem_of_getElem? (i := 1284) (by decide +kernel), List.mem_of_getElem? (i := 1285) (by decide +kernel)⟩
theorem lw_p60 : lw_okq (⟨"TensorForge$Line", "addIf", "(ZLjava/lang/String;)V"⟩, 2) := ⟨⟨by decide +kernel, by decide +kernel⟩, List.mem_of_getElem? (i := 428) (by decide +kernel), List.mem_of_getElem? (i := 1294) (by decide +kernel), List.mem_of_getElem? (i := 1295) (by decide +kernel)⟩
theorem lw_p61 : lw_okq (⟨"TensorForge", "needRun", "()V"⟩, 12) := ⟨⟨by decide +kernel, by decide +kernel⟩, List.mem_of_getElem? (i := 29) (by decide +kernel), List.mem_of_getElem? (i := 1321) (by decide +kernel), List.mem_of_getElem? (i := 1322) (by decide +kernel)⟩
theorem lw_p62 : lw_okq (⟨"TensorForge", "added", "()I"⟩, 12) := ⟨⟨by decide +kernel, by decide +kernel⟩, List.mem_of_getElem? (i := 29) (by decide +kernel), List.mem_of_getElem? (i := 1368) (by decide +kernel), List.mem_of_getElem? (i := 1369) (by decide +kernel)⟩
theorem lw_p63 : lw_okq (⟨"TensorForge$Compiler", "makeTile", "()V"⟩, 17) := ⟨⟨by decide +kernel, by decide +kernel⟩, List.mem_of_getElem? (i := 369) (by decide +kernel), List.mem_of_getElem? (i := 1417) (by decide +kernel), List.mem_of_getElem? (i := 1418) (by decide +kernel)⟩
def lw_privs_4 : List (MethodName × Nat) := [(⟨"TensorForge$NetworkReader", "beginsLineOrIsX", "()Z"⟩, 9), (⟨"TensorForge$NetworkReader", "readKernelFrom", "(ILTensorForge$Layer;)Z"⟩, 9), (⟨"TensorForge$Layer", "parametersSize", "(LTensorForge$Layer;)I"⟩, 15), (⟨"TensorForge$NetworkReader", "readInput", "()Z"⟩, 9), (⟨"TensorForge$NetworkReader", "keepName", "(I)V"⟩, 9), (⟨"java/lang/Throwable", "fillInStackTrace", "(I)Ljava/lang/Throwable;"⟩, 6), (⟨"TensorForge$Line", "addToken", "(Ljava/lang/String;)V"⟩, 2), (⟨"TensorForge$Line", "addSign", "(C)V"⟩, 2), (⟨"TensorForge$Line", "addUnlessNothing", "(Ljava/lang/String;JI)V"⟩, 2), (⟨"TensorForge$Line", "addNumbered", "(Ljava/lang/String;I)V"⟩, 2), (⟨"TensorForge$Line", "addNumber", "(I)V"⟩, 2), (⟨"TensorForge$Line", "addPair", "(Ljava/lang/String;II)V"⟩, 2), (⟨"TensorForge$Line", "addIf", "(ZLjava/lang/String;)V"⟩, 2), (⟨"TensorForge", "needRun", "()V"⟩, 12), (⟨"TensorForge", "added", "()I"⟩, 12), (⟨"TensorForge$Compiler", "makeTile", "()V"⟩, 17)]
theorem lw_r4 : ∀ q ∈ lw_privs_4, lw_okq q := List.forall_mem_cons.mpr ⟨lw_p48, List.forall_mem_cons.mpr ⟨lw_p49, List.forall_mem_cons.mpr ⟨lw_p50, List.forall_mem_cons.mpr ⟨lw_p51, List.forall_mem_cons.mpr ⟨lw_p52, List.forall_mem_cons.mpr ⟨lw_p53, List.forall_mem_cons.mpr ⟨lw_p54, List.forall_mem_cons.mpr ⟨lw_p55, List.forall_mem_cons.mpr ⟨lw_p56, List.forall_mem_cons.mpr ⟨lw_p57, List.forall_mem_cons.mpr ⟨lw_p58, List.forall_mem_cons.mpr ⟨lw_p59, List.forall_mem_cons.mpr ⟨lw_p60, List.forall_mem_cons.mpr ⟨lw_p61, List.forall_mem_cons.mpr ⟨lw_p62, List.forall_mem_cons.mpr ⟨lw_p63, fun _ h => absurd h List.not_mem_nil⟩⟩⟩⟩⟩⟩⟩⟩⟩⟩⟩⟩⟩⟩⟩⟩
theorem lw_p64 : lw_okq (⟨"TensorForge$Compiler", "makeGroup", "(ZZ)V"⟩, 17) := ⟨⟨by decide +kernel, by decide +kernel⟩, List.mem_of_getElem? (i := 369) (by decide +kernel), List.mem_of_getElem? (i := 1421) (by decide +kernel), List.mem_of_getElem? (i := 1422) (by decide +kernel)⟩
theorem lw_p65 : lw_okq (⟨"TensorForge$Compiler", "loadParameters", "(Z)V"⟩, 17) := ⟨⟨by decide +kernel, by decide +kernel⟩, List.mem_of_getElem? (i := 369) (by decide +kernel), List.mem_of_getElem? (i := 1425) (by decide +kernel), List.mem_of_getElem? (i := 1426) (by decide +kernel)⟩
theorem lw_p66 : lw_okq (⟨"TensorForge$Compiler", "tileHalf", "()I"⟩, 17) := ⟨⟨by decide +kernel, by decide +kernel⟩, List.mem_of_getElem? (i := 369) (by decide +kernel), List.mem_of_getElem? (i := 1432) (by decide +kernel), List.mem_of_getElem? (i := 1433) (by decide +kernel)⟩
theorem lw_p67 : lw_okq (⟨"TensorForge$Compiler", "emit", "(J)V"⟩, 17) := ⟨⟨by decide +kernel, by decide +kernel⟩, List.mem_of_getElem? (i := 369) (by decide +kernel), List.mem_of_getElem? (i := 1438) (by decide +kernel), List.mem_of_getElem? (i := 1439) (by decide +kernel)⟩
theorem lw_p68 : lw_okq (⟨"TensorForge$Compiler", "groupHalf", "()I"⟩, 17) := ⟨⟨by decide +kernel, by decide +kernel⟩, List.mem_of_getElem? (i := 369) (by decide +kernel), List.mem_of_getElem? (i := 1442) (by decide +kernel), List.mem_of_getElem? (i := 1443) (by decide +kernel)⟩
theorem lw_p69 : lw_okq (⟨"TensorForge$Compiler", "loadMet", "(I)V"⟩, 17) := ⟨⟨by decide +kernel, by decide +kernel⟩, List.mem_of_getElem? (i := 369) (by decide +kernel), List.mem_of_getElem? (i := 1447) (by decide +kernel), List.mem_of_getElem? (i := 1448) (by decide +kernel)⟩
theorem lw_p70 : lw_okq (⟨"TensorForge$Compiler", "clearPlaces", "(II)V"⟩, 17) := ⟨⟨by decide +kernel, by decide +kernel⟩, List.mem_of_getElem? (i := 369) (by decide +kernel), List.mem_of_getElem? (i := 1451) (by decide +kernel), List.mem_of_getElem? (i := 1452) (by decide +kernel)⟩
theorem lw_p71 : lw_okq (⟨"TensorForge$Compiler", "metColumn", "(I)I"⟩, 17) := ⟨⟨by decide +kernel, by decide +kernel⟩, List.mem_of_getElem? (i := 369) (by decide +kernel), List.mem_of_getElem? (i := 1455) (by decide +kernel), List.mem_of_getElem? (i := 1456) (by decide +kernel)⟩
theorem lw_p72 : lw_okq (⟨"TensorForge$Compiler", "loadPlaces", "(IIII)V"⟩, 17) := ⟨⟨by decide +kernel, by decide +kernel⟩, List.mem_of_getElem? (i := 369) (by decide +kernel), List.mem_of_getElem? (i := 1460) (by decide +kernel), List.mem_of_getElem? (i := 1461) (by decide +kernel)⟩
theorem lw_p73 : lw_okq (⟨"TensorForge$Compiler", "mark", "(II)V"⟩, 17) := ⟨⟨by decide +kernel, by decide +kernel⟩, List.mem_of_getElem? (i := 369) (by decide +kernel), List.mem_of_getElem? (i := 1464) (by decide +kernel), List.mem_of_getElem? (i := 1465) (by decide +kernel)⟩
theorem lw_p74 : lw_okq (⟨"TensorForge$Compiler", "workOf", "(Z)J"⟩, 17) := ⟨⟨by decide +kernel, by decide +kernel⟩, List.mem_of_getElem? (i := 369) (by decide +kernel), List.mem_of_getElem? (i := 1472) (by decide +kernel), List.mem_of_getElem? (i := 1473) (by decide +kernel)⟩
theorem lw_p75 : lw_okq (⟨"TensorForge$Compiler", "makeWaits", "()V"⟩, 17) := ⟨⟨by decide +kernel, by decide +kernel⟩, List.mem_of_getElem? (i := 369) (by decide +kernel), List.mem_of_getElem? (i := 1477) (by decide +kernel), List.mem_of_getElem? (i := 1478) (by decide +kernel)⟩
theorem lw_p76 : lw_okq (⟨"TensorForge$Line", "addOptions", "(LTensorForge$Layer;)V"⟩, 2) := ⟨⟨by decide +kernel, by decide +kernel⟩, List.mem_of_getElem? (i := 428) (by decide +kernel), List.mem_of_getElem? (i := 1499) (by decide +kernel), List.mem_of_getElem? (i := 1500) (by decide +kernel)⟩
theorem lw_p77 : lw_okq (⟨"TensorForge$Network", "leastSpot", "(I)I"⟩, 2) := ⟨⟨by decide +kernel, by decide +kernel⟩, List.mem_of_getElem? (i := 37) (by decide +kernel), List.mem_of_getElem? (i := 1517) (by decide +kernel), List.mem_of_getElem? (i := 1518) (by decide +kernel)⟩
theorem lw_p78 : lw_okq (⟨"TensorForge$Network", "isNeeded", "(II)Z"⟩, 2) := ⟨⟨by decide +kernel, by decide +kernel⟩, List.mem_of_getElem? (i := 37) (by decide +kernel), List.mem_of_getElem? (i := 1521) (by decide +kernel), List.mem_of_getElem? (i := 1522) (by decide +kernel)⟩
theorem lw_p79 : lw_okq (⟨"TensorForge", "needUnitAndCycle", "(II)V"⟩, 12) := ⟨⟨by decide +kernel, by decide +kernel⟩, List.mem_of_getElem? (i := 29) (by decide +kernel), List.mem_of_getElem? (i := 1542) (by decide +kernel), List.mem_of_getElem? (i := 1543) (by decide +kernel)⟩
def lw_privs_5 : List (MethodName × Nat) := [(⟨"TensorForge$Compiler", "makeGroup", "(ZZ)V"⟩, 17), (⟨"TensorForge$Compiler", "loadParameters", "(Z)V"⟩, 17), (⟨"TensorForge$Compiler", "tileHalf", "()I"⟩, 17), (⟨"TensorForge$Compiler", "emit", "(J)V"⟩, 17), (⟨"TensorForge$Compiler", "groupHalf", "()I"⟩, 17), (⟨"TensorForge$Compiler", "loadMet", "(I)V"⟩, 17), (⟨"TensorForge$Compiler", "clearPlaces", "(II)V"⟩, 17), (⟨"TensorForge$Compiler", "metColumn", "(I)I"⟩, 17), (⟨"TensorForge$Compiler", "loadPlaces", "(IIII)V"⟩, 17), (⟨"TensorForge$Compiler", "mark", "(II)V"⟩, 17), (⟨"TensorForge$Compiler", "workOf", "(Z)J"⟩, 17), (⟨"TensorForge$Compiler", "makeWaits", "()V"⟩, 17), (⟨"TensorForge$Line", "addOptions", "(LTensorForge$Layer;)V"⟩, 2), (⟨"TensorForge$Network", "leastSpot", "(I)I"⟩, 2), (⟨"TensorForge$Network", "isNeeded", "(II)Z"⟩, 2), (⟨"TensorForge", "needUnitAndCycle", "(II)V"⟩, 12)]
theorem lw_r5 : ∀ q ∈ lw_privs_5, lw_okq q := List.forall_mem_cons.mpr ⟨lw_p64, List.forall_mem_cons.mpr ⟨lw_p65, List.forall_mem_cons.mpr ⟨lw_p66, List.forall_mem_cons.mpr ⟨lw_p67, List.forall_mem_cons.mpr ⟨lw_p68, List.forall_mem_cons.mpr ⟨lw_p69, List.forall_mem_cons.mpr ⟨lw_p70, List.forall_mem_cons.mpr ⟨lw_p71, List.forall_mem_cons.mpr ⟨lw_p72, List.forall_mem_cons.mpr ⟨lw_p73, List.forall_mem_cons.mpr ⟨lw_p74, List.forall_mem_cons.mpr ⟨lw_p75, List.forall_mem_cons.mpr ⟨lw_p76, List.forall_mem_cons.mpr ⟨lw_p77, List.forall_mem_cons.mpr ⟨lw_p78, List.forall_mem_cons.mpr ⟨lw_p79, fun _ h => absurd h List.not_mem_nil⟩⟩⟩⟩⟩⟩⟩⟩⟩⟩⟩⟩⟩⟩⟩⟩
theorem lw_p80 : lw_okq (⟨"TensorForge$Run", "hadBegun", "(II)Z"⟩, 10) := ⟨⟨by decide +kernel, by decide +kernel⟩, List.mem_of_getElem? (i := 231) (by decide +kernel), List.mem_of_getElem? (i := 1551) (by decide +kernel), List.mem_of_getElem? (i := 1552) (by decide +kernel)⟩
theorem lw_p81 : lw_okq (⟨"TensorForge$Run", "hadEnded", "(II)Z"⟩, 10) := ⟨⟨by decide +kernel, by decide +kernel⟩, List.mem_of_getElem? (i := 231) (by decide +kernel), List.mem_of_getElem? (i := 1555) (by decide +kernel), List.mem_of_getElem? (i := 1556) (by decide +kernel)⟩
theorem lw_p82 : lw_okq (⟨"TensorForge$Run", "firstNotBegun", "(II)I"⟩, 10) := ⟨⟨by decide +kernel, by decide +kernel⟩, List.mem_of_getElem? (i := 231) (by decide +kernel), List.mem_of_getElem? (i := 1570) (by decide +kernel), List.mem_of_getElem? (i := 1571) (by decide +kernel)⟩
theorem lw_p83 : lw_okq (⟨"TensorForge$Run", "pushesUpTo", "(III)I"⟩, 10) := ⟨⟨by decide +kernel, by decide +kernel⟩, List.mem_of_getElem? (i := 231) (by decide +kernel), List.mem_of_getElem? (i := 1575) (by decide +kernel), List.mem_of_getElem? (i := 1576) (by decide +kernel)⟩
theorem lw_p84 : lw_okq (⟨"TensorForge$Run", "popsUpTo", "(III)I"⟩, 10) := ⟨⟨by decide +kernel, by decide +kernel⟩, List.mem_of_getElem? (i := 231) (by decide +kernel), List.mem_of_getElem? (i := 1579) (by decide +kernel), List.mem_of_getElem? (i := 1580) (by decide +kernel)⟩
theorem lw_p85 : lw_okq (⟨"TensorForgeModel", "form", "(III)V"⟩, 69) := ⟨⟨by decide +kernel, by decide +kernel⟩, List.mem_of_getElem? (i := 1583) (by decide +kernel), List.mem_of_getElem? (i := 1608) (by decide +kernel), List.mem_of_getElem? (i := 1609) (by decide +kernel)⟩
theorem lw_p86 : lw_okq (⟨"TensorForgeModel", "refuse", "(ZZZ)Z"⟩, 69) := ⟨⟨by decide +kernel, by decide +kernel⟩, List.mem_of_getElem? (i := 1583) (by decide +kernel), List.mem_of_getElem? (i := 1833) (by decide +kernel), List.mem_of_getElem? (i := 1834) (by decide +kernel)⟩
theorem lw_p87 : lw_okq (⟨"TensorForgeModel", "sizeOf", "(I)I"⟩, 69) := ⟨⟨by decide +kernel, by decide +kernel⟩, List.mem_of_getElem? (i := 1583) (by decide +kernel), List.mem_of_getElem? (i := 1837) (by decide +kernel), List.mem_of_getElem? (i := 1838) (by decide +kernel)⟩
theorem lw_p88 : lw_okq (⟨"TensorForgeModel", "isIllegal", "(J)Z"⟩, 69) := ⟨⟨by decide +kernel, by decide +kernel⟩, List.mem_of_getElem? (i := 1583) (by decide +kernel), List.mem_of_getElem? (i := 1888) (by decide +kernel), List.mem_of_getElem? (i := 1889) (by decide +kernel)⟩
theorem lw_p89 : lw_okq (⟨"TensorForgeModel", "take", "(J)V"⟩, 69) := ⟨⟨by decide +kernel, by decide +kernel⟩, List.mem_of_getElem? (i := 1583) (by decide +kernel), List.mem_of_getElem? (i := 1892) (by decide +kernel), List.mem_of_getElem? (i := 1893) (by decide +kernel)⟩
theorem lw_p90 : lw_okq (⟨"TensorForgeModel", "unit", "()I"⟩, 69) := ⟨⟨by decide +kernel, by decide +kernel⟩, List.mem_of_getElem? (i := 1583) (by decide +kernel), List.mem_of_getElem? (i := 1900) (by decide +kernel), List.mem_of_getElem? (i := 1901) (by decide +kernel)⟩
theorem lw_p91 : lw_okq (⟨"TensorForgeModel", "reaches", "()V"⟩, 69) := ⟨⟨by decide +kernel, by decide +kernel⟩, List.mem_of_getElem? (i := 1583) (by decide +kernel), List.mem_of_getElem? (i := 1904) (by decide +kernel), List.mem_of_getElem? (i := 1905) (by decide +kernel)⟩
theorem lw_p92 : lw_okq (⟨"TensorForgeModel", "reach", "([IIII)V"⟩, 69) := ⟨⟨by decide +kernel, by decide +kernel⟩, List.mem_of_getElem? (i := 1583) (by decide +kernel), List.mem_of_getElem? (i := 1908) (by decide +kernel), List.mem_of_getElem? (i := 1909) (by decide +kernel)⟩
theorem lw_p93 : lw_okq (⟨"TensorForgeModel", "rowsEnd", "(II)I"⟩, 69) := ⟨⟨by decide +kernel, by decide +kernel⟩, List.mem_of_getElem? (i := 1583) (by decide +kernel), List.mem_of_getElem? (i := 1912) (by decide +kernel), List.mem_of_getElem? (i := 1913) (by decide +kernel)⟩
theorem lw_p94 : lw_okq (⟨"TensorForgeModel", "firstIllegal", "()I"⟩, 69) := ⟨⟨by decide +kernel, by decide +kernel⟩, List.mem_of_getElem? (i := 1583) (by decide +kernel), List.mem_of_getElem? (i := 1920) (by decide +kernel), List.mem_of_getElem? (i := 1921) (by decide +kernel)⟩
theorem lw_p95 : lw_okq (⟨"TensorForgeModel", "startRun", "()V"⟩, 69) := ⟨⟨by decide +kernel, by decide +kernel⟩, List.mem_of_getElem? (i := 1583) (by decide +kernel), List.mem_of_getElem? (i := 1924) (by decide +kernel), List.mem_of_getElem? (i := 1925) (by decide +kernel)⟩
def lw_privs_6 : List (MethodName × Nat) := [(⟨"TensorForge$Run", "hadBegun", "(II)Z"⟩, 10), (⟨"TensorForge$Run", "hadEnded", "(II)Z"⟩, 10), (⟨"TensorForge$Run", "firstNotBegun", "(II)I"⟩, 10), (⟨"TensorForge$Run", "pushesUpTo", "(III)I"⟩, 10), (⟨"TensorForge$Run", "popsUpTo", "(III)I"⟩, 10), (⟨"TensorForgeModel", "form", "(III)V"⟩, 69), (⟨"TensorForgeModel", "refuse", "(ZZZ)Z"⟩, 69), (⟨"TensorForgeModel", "sizeOf", "(I)I"⟩, 69), (⟨"TensorForgeModel", "isIllegal", "(J)Z"⟩, 69), (⟨"TensorForgeModel", "take", "(J)V"⟩, 69), (⟨"TensorForgeModel", "unit", "()I"⟩, 69), (⟨"TensorForgeModel", "reaches", "()V"⟩, 69), (⟨"TensorForgeModel", "reach", "([IIII)V"⟩, 69), (⟨"TensorForgeModel", "rowsEnd", "(II)I"⟩, 69), (⟨"TensorForgeModel", "firstIllegal", "()I"⟩, 69), (⟨"TensorForgeModel", "startRun", "()V"⟩, 69)]
theorem lw_r6 : ∀ q ∈ lw_privs_6, lw_okq q := List.forall_mem_cons.mpr ⟨lw_p80, List.forall_mem_cons.mpr ⟨lw_p81, List.forall_mem_cons.mpr ⟨lw_p82, List.forall_mem_cons.mpr ⟨lw_p83, List.forall_mem_cons.mpr ⟨lw_p84, List.forall_mem_cons.mpr ⟨lw_p85, List.forall_mem_cons.mpr ⟨lw_p86, List.forall_mem_cons.mpr ⟨lw_p87, List.forall_mem_cons.mpr ⟨lw_p88, List.forall_mem_cons.mpr ⟨lw_p89, List.forall_mem_cons.mpr ⟨lw_p90, List.forall_mem_cons.mpr ⟨lw_p91, List.forall_mem_cons.mpr ⟨lw_p92, List.forall_mem_cons.mpr ⟨lw_p93, List.forall_mem_cons.mpr ⟨lw_p94, List.forall_mem_cons.mpr ⟨lw_p95, fun _ h => absurd h List.not_mem_nil⟩⟩⟩⟩⟩⟩⟩⟩⟩⟩⟩⟩⟩⟩⟩⟩
theorem lw_p96 : lw_okq (⟨"TensorForgeModel", "findNext", "(I)V"⟩, 69) := ⟨⟨by decide +kernel, by decide +kernel⟩, List.mem_of_getElem? (i := 1583) (by decide +kernel), List.mem_of_getElem? (i := 1928) (by decide +kernel), List.mem_of_getElem? (i := 1929) (by decide +kernel)⟩
theorem lw_p97 : lw_okq (⟨"TensorForgeModel", "stop", "(III)I"⟩, 69) := ⟨⟨by decide +kernel, by decide +kernel⟩, List.mem_of_getElem? (i := 1583) (by decide +kernel), List.mem_of_getElem? (i := 1932) (by decide +kernel), List.mem_of_getElem? (i := 1933) (by decide +kernel)⟩
theorem lw_p98 : lw_okq (⟨"TensorForgeModel", "cycle", "(I)I"⟩, 69) := ⟨⟨by decide +kernel, by decide +kernel⟩, List.mem_of_getElem? (i := 1583) (by decide +kernel), List.mem_of_getElem? (i := 1936) (by decide +kernel), List.mem_of_getElem? (i := 1937) (by decide +kernel)⟩
theorem lw_p99 : lw_okq (⟨"TensorForgeModel", "pushAll", "(I)V"⟩, 69) := ⟨⟨by decide +kernel, by decide +kernel⟩, List.mem_of_getElem? (i := 1583) (by decide +kernel), List.mem_of_getElem? (i := 1940) (by decide +kernel), List.mem_of_getElem? (i := 1941) (by decide +kernel)⟩
theorem lw_p100 : lw_okq (⟨"TensorForgeModel", "isBusy", "(II)Z"⟩, 69) := ⟨⟨by decide +kernel, by decide +kernel⟩, List.mem_of_getElem? (i := 1583) (by decide +kernel), List.mem_of_getElem? (i := 1947) (by decide +kernel), List.mem_of_getElem? (i := 1948) (by decide +kernel)⟩
theorem lw_p101 : lw_okq (⟨"TensorForgeModel", "hasTokens", "(I)Z"⟩, 69) := ⟨⟨by decide +kernel, by decide +kernel⟩, List.mem_of_getElem? (i := 1583) (by decide +kernel), List.mem_of_getElem? (i := 1951) (by decide +kernel), List.mem_of_getElem? (i := 1952) (by decide +kernel)⟩
theorem lw_p102 : lw_okq (⟨"TensorForgeModel", "races", "(II)Z"⟩, 69) := ⟨⟨by decide +kernel, by decide +kernel⟩, List.mem_of_getElem? (i := 1583) (by decide +kernel), List.mem_of_getElem? (i := 1958) (by decide +kernel), List.mem_of_getElem? (i := 1959) (by decide +kernel)⟩
theorem lw_p103 : lw_okq (⟨"TensorForgeModel", "beginNext", "(II)V"⟩, 69) := ⟨⟨by decide +kernel, by decide +kernel⟩, List.mem_of_getElem? (i := 1583) (by decide +kernel), List.mem_of_getElem? (i := 1965) (by decide +kernel), List.mem_of_getElem? (i := 1966) (by decide +kernel)⟩
theorem lw_p104 : lw_okq (⟨"TensorForgeModel", "cycles", "()I"⟩, 69) := ⟨⟨by decide +kernel, by decide +kernel⟩, List.mem_of_getElem? (i := 1583) (by decide +kernel), List.mem_of_getElem? (i := 1969) (by decide +kernel), List.mem_of_getElem? (i := 1970) (by decide +kernel)⟩
theorem lw_p105 : lw_okq (⟨"TensorForgeModel", "doWord", "()V"⟩, 69) := ⟨⟨by decide +kernel, by decide +kernel⟩, List.mem_of_getElem? (i := 1583) (by decide +kernel), List.mem_of_getElem? (i := 1973) (by decide +kernel), List.mem_of_getElem? (i := 1974) (by decide +kernel)⟩
theorem lw_p106 : lw_okq (⟨"TensorForgeModel", "doPlace", "(II)V"⟩, 69) := ⟨⟨by decide +kernel, by decide +kernel⟩, List.mem_of_getElem? (i := 1583) (by decide +kernel), List.mem_of_getElem? (i := 1977) (by decide +kernel), List.mem_of_getElem? (i := 1978) (by decide +kernel)⟩
theorem lw_p107 : lw_okq (⟨"TensorForgeModel", "intAt", "(I)I"⟩, 69) := ⟨⟨by decide +kernel, by decide +kernel⟩, List.mem_of_getElem? (i := 1583) (by decide +kernel), List.mem_of_getElem? (i := 1981) (by decide +kernel), List.mem_of_getElem? (i := 1982) (by decide +kernel)⟩
theorem lw_p108 : lw_okq (⟨"TensorForgeModel", "readLine", "()I"⟩, 69) := ⟨⟨by decide +kernel, by decide +kernel⟩, List.mem_of_getElem? (i := 1583) (by decide +kernel), List.mem_of_getElem? (i := 2012) (by decide +kernel), List.mem_of_getElem? (i := 2013) (by decide +kernel)⟩
theorem lw_p109 : lw_okq (⟨"TensorForgeModel", "advance", "()V"⟩, 69) := ⟨⟨by decide +kernel, by decide +kernel⟩, List.mem_of_getElem? (i := 1583) (by decide +kernel), List.mem_of_getElem? (i := 2016) (by decide +kernel), List.mem_of_getElem? (i := 2017) (by decide +kernel)⟩
theorem lw_p110 : lw_okq (⟨"TensorForgeModel", "wordAt", "(II)I"⟩, 69) := ⟨⟨by decide +kernel, by decide +kernel⟩, List.mem_of_getElem? (i := 1583) (by decide +kernel), List.mem_of_getElem? (i := 2022) (by decide +kernel), List.mem_of_getElem? (i := 2023) (by decide +kernel)⟩
theorem lw_p111 : lw_okq (⟨"TensorForgeModel", "part", "()I"⟩, 69) := ⟨⟨by decide +kernel, by decide +kernel⟩, List.mem_of_getElem? (i := 1583) (by decide +kernel), List.mem_of_getElem? (i := 2029) (by decide +kernel), List.mem_of_getElem? (i := 2030) (by decide +kernel)⟩
def lw_privs_7 : List (MethodName × Nat) := [(⟨"TensorForgeModel", "findNext", "(I)V"⟩, 69), (⟨"TensorForgeModel", "stop", "(III)I"⟩, 69), (⟨"TensorForgeModel", "cycle", "(I)I"⟩, 69), (⟨"TensorForgeModel", "pushAll", "(I)V"⟩, 69), (⟨"TensorForgeModel", "isBusy", "(II)Z"⟩, 69), (⟨"TensorForgeModel", "hasTokens", "(I)Z"⟩, 69), (⟨"TensorForgeModel", "races", "(II)Z"⟩, 69), (⟨"TensorForgeModel", "beginNext", "(II)V"⟩, 69), (⟨"TensorForgeModel", "cycles", "()I"⟩, 69), (⟨"TensorForgeModel", "doWord", "()V"⟩, 69), (⟨"TensorForgeModel", "doPlace", "(II)V"⟩, 69), (⟨"TensorForgeModel", "intAt", "(I)I"⟩, 69), (⟨"TensorForgeModel", "readLine", "()I"⟩, 69), (⟨"TensorForgeModel", "advance", "()V"⟩, 69), (⟨"TensorForgeModel", "wordAt", "(II)I"⟩, 69), (⟨"TensorForgeModel", "part", "()I"⟩, 69)]
theorem lw_r7 : ∀ q ∈ lw_privs_7, lw_okq q := List.forall_mem_cons.mpr ⟨lw_p96, List.forall_mem_cons.mpr ⟨lw_p97, List.forall_mem_cons.mpr ⟨lw_p98, List.forall_mem_cons.mpr ⟨lw_p99, List.forall_mem_cons.mpr ⟨lw_p100, List.forall_mem_cons.mpr ⟨lw_p101, List.forall_mem_cons.mpr ⟨lw_p102, List.forall_mem_cons.mpr ⟨lw_p103, List.forall_mem_cons.mpr ⟨lw_p104, List.forall_mem_cons.mpr ⟨lw_p105, List.forall_mem_cons.mpr ⟨lw_p106, List.forall_mem_cons.mpr ⟨lw_p107, List.forall_mem_cons.mpr ⟨lw_p108, List.forall_mem_cons.mpr ⟨lw_p109, List.forall_mem_cons.mpr ⟨lw_p110, List.forall_mem_cons.mpr ⟨lw_p111, fun _ h => absurd h List.not_mem_nil⟩⟩⟩⟩⟩⟩⟩⟩⟩⟩⟩⟩⟩⟩⟩⟩
theorem lw_p112 : lw_okq (⟨"TensorForgeModel", "setNumber", "(I)Z"⟩, 69) := ⟨⟨by decide +kernel, by decide +kernel⟩, List.mem_of_getElem? (i := 1583) (by decide +kernel), List.mem_of_getElem? (i := 2033) (by decide +kernel), List.mem_of_getElem? (i := 2034) (by decide +kernel)⟩
theorem lw_p113 : lw_okq (⟨"TensorForgeModel", "wordOfFields", "()J"⟩, 69) := ⟨⟨by decide +kernel, by decide +kernel⟩, List.mem_of_getElem? (i := 1583) (by decide +kernel), List.mem_of_getElem? (i := 2039) (by decide +kernel), List.mem_of_getElem? (i := 2040) (by decide +kernel)⟩
theorem lw_p114 : lw_okq (⟨"TensorForgeModel", "takeMade", "()V"⟩, 69) := ⟨⟨by decide +kernel, by decide +kernel⟩, List.mem_of_getElem? (i := 1583) (by decide +kernel), List.mem_of_getElem? (i := 2043) (by decide +kernel), List.mem_of_getElem? (i := 2044) (by decide +kernel)⟩
theorem lw_p115 : lw_okq (⟨"TensorForgeModel", "sayWord", "(I)V"⟩, 69) := ⟨⟨by decide +kernel, by decide +kernel⟩, List.mem_of_getElem? (i := 1583) (by decide +kernel), List.mem_of_getElem? (i := 2051) (by decide +kernel), List.mem_of_getElem? (i := 2052) (by decide +kernel)⟩
theorem lw_p116 : lw_okq (⟨"TensorForgeModel", "say", "(J)V"⟩, 69) := ⟨⟨by decide +kernel, by decide +kernel⟩, List.mem_of_getElem? (i := 1583) (by decide +kernel), List.mem_of_getElem? (i := 2055) (by decide +kernel), List.mem_of_getElem? (i := 2056) (by decide +kernel)⟩
theorem lw_p117 : lw_okq (⟨"TensorForgeModel", "sayField", "(II)V"⟩, 69) := ⟨⟨by decide +kernel, by decide +kernel⟩, List.mem_of_getElem? (i := 1583) (by decide +kernel), List.mem_of_getElem? (i := 2061) (by decide +kernel), List.mem_of_getElem? (i := 2062) (by decide +kernel)⟩
theorem lw_p118 : lw_okq (⟨"TensorForgeModel", "sayNumber", "(I)V"⟩, 69) := ⟨⟨by decide +kernel, by decide +kernel⟩, List.mem_of_getElem? (i := 1583) (by decide +kernel), List.mem_of_getElem? (i := 2065) (by decide +kernel), List.mem_of_getElem? (i := 2066) (by decide +kernel)⟩
theorem lw_p119 : lw_okq (⟨"TensorForgeModel", "sayFlag", "(I)V"⟩, 69) := ⟨⟨by decide +kernel, by decide +kernel⟩, List.mem_of_getElem? (i := 1583) (by decide +kernel), List.mem_of_getElem? (i := 2069) (by decide +kernel), List.mem_of_getElem? (i := 2070) (by decide +kernel)⟩
theorem lw_p120 : lw_okq (⟨"TensorForgeModel", "isTensor", "(I)Z"⟩, 69) := ⟨⟨by decide +kernel, by decide +kernel⟩, List.mem_of_getElem? (i := 1583) (by decide +kernel), List.mem_of_getElem? (i := 2083) (by decide +kernel), List.mem_of_getElem? (i := 2084) (by decide +kernel)⟩
theorem lw_p121 : lw_okq (⟨"TensorForgeModel", "add", "(IIIII)I"⟩, 69) := ⟨⟨by decide +kernel, by decide +kernel⟩, List.mem_of_getElem? (i := 1583) (by decide +kernel), List.mem_of_getElem? (i := 2094) (by decide +kernel), List.mem_of_getElem? (i := 2095) (by decide +kernel)⟩
theorem lw_p122 : lw_okq (⟨"TensorForgeModel", "setLayer", "(IIIIII)V"⟩, 69) := ⟨⟨by decide +kernel, by decide +kernel⟩, List.mem_of_getElem? (i := 1583) (by decide +kernel), List.mem_of_getElem? (i := 2098) (by decide +kernel), List.mem_of_getElem? (i := 2099) (by decide +kernel)⟩
theorem lw_p123 : lw_okq (⟨"TensorForgeModel", "convolved", "(IIII)I"⟩, 69) := ⟨⟨by decide +kernel, by decide +kernel⟩, List.mem_of_getElem? (i := 1583) (by decide +kernel), List.mem_of_getElem? (i := 2118) (by decide +kernel), List.mem_of_getElem? (i := 2119) (by decide +kernel)⟩
theorem lw_p124 : lw_okq (⟨"TensorForgeModel", "isThere", "(III)Z"⟩, 69) := ⟨⟨by decide +kernel, by decide +kernel⟩, List.mem_of_getElem? (i := 1583) (by decide +kernel), List.mem_of_getElem? (i := 2122) (by decide +kernel), List.mem_of_getElem? (i := 2123) (by decide +kernel)⟩
theorem lw_p125 : lw_okq (⟨"TensorForgeModel", "cellAt", "(IIII)I"⟩, 69) := ⟨⟨by decide +kernel, by decide +kernel⟩, List.mem_of_getElem? (i := 1583) (by decide +kernel), List.mem_of_getElem? (i := 2126) (by decide +kernel), List.mem_of_getElem? (i := 2127) (by decide +kernel)⟩
theorem lw_p126 : lw_okq (⟨"TensorForgeModel", "pooled", "(IIII)I"⟩, 69) := ⟨⟨by decide +kernel, by decide +kernel⟩, List.mem_of_getElem? (i := 1583) (by decide +kernel), List.mem_of_getElem? (i := 2130) (by decide +kernel), List.mem_of_getElem? (i := 2131) (by decide +kernel)⟩
theorem lw_p127 : lw_okq (⟨"TensorForgeModel", "layer", "(I)V"⟩, 69) := ⟨⟨by decide +kernel, by decide +kernel⟩, List.mem_of_getElem? (i := 1583) (by decide +kernel), List.mem_of_getElem? (i := 2138) (by decide +kernel), List.mem_of_getElem? (i := 2139) (by decide +kernel)⟩
def lw_privs_8 : List (MethodName × Nat) := [(⟨"TensorForgeModel", "setNumber", "(I)Z"⟩, 69), (⟨"TensorForgeModel", "wordOfFields", "()J"⟩, 69), (⟨"TensorForgeModel", "takeMade", "()V"⟩, 69), (⟨"TensorForgeModel", "sayWord", "(I)V"⟩, 69), (⟨"TensorForgeModel", "say", "(J)V"⟩, 69), (⟨"TensorForgeModel", "sayField", "(II)V"⟩, 69), (⟨"TensorForgeModel", "sayNumber", "(I)V"⟩, 69), (⟨"TensorForgeModel", "sayFlag", "(I)V"⟩, 69), (⟨"TensorForgeModel", "isTensor", "(I)Z"⟩, 69), (⟨"TensorForgeModel", "add", "(IIIII)I"⟩, 69), (⟨"TensorForgeModel", "setLayer", "(IIIIII)V"⟩, 69), (⟨"TensorForgeModel", "convolved", "(IIII)I"⟩, 69), (⟨"TensorForgeModel", "isThere", "(III)Z"⟩, 69), (⟨"TensorForgeModel", "cellAt", "(IIII)I"⟩, 69), (⟨"TensorForgeModel", "pooled", "(IIII)I"⟩, 69), (⟨"TensorForgeModel", "layer", "(I)V"⟩, 69)]
theorem lw_r8 : ∀ q ∈ lw_privs_8, lw_okq q := List.forall_mem_cons.mpr ⟨lw_p112, List.forall_mem_cons.mpr ⟨lw_p113, List.forall_mem_cons.mpr ⟨lw_p114, List.forall_mem_cons.mpr ⟨lw_p115, List.forall_mem_cons.mpr ⟨lw_p116, List.forall_mem_cons.mpr ⟨lw_p117, List.forall_mem_cons.mpr ⟨lw_p118, List.forall_mem_cons.mpr ⟨lw_p119, List.forall_mem_cons.mpr ⟨lw_p120, List.forall_mem_cons.mpr ⟨lw_p121, List.forall_mem_cons.mpr ⟨lw_p122, List.forall_mem_cons.mpr ⟨lw_p123, List.forall_mem_cons.mpr ⟨lw_p124, List.forall_mem_cons.mpr ⟨lw_p125, List.forall_mem_cons.mpr ⟨lw_p126, List.forall_mem_cons.mpr ⟨lw_p127, fun _ h => absurd h List.not_mem_nil⟩⟩⟩⟩⟩⟩⟩⟩⟩⟩⟩⟩⟩⟩⟩⟩
theorem lw_p128 : lw_okq (⟨"TensorForgeModel", "tile", "(I)V"⟩, 69) := ⟨⟨by decide +kernel, by decide +kernel⟩, List.mem_of_getElem? (i := 1583) (by decide +kernel), List.mem_of_getElem? (i := 2145) (by decide +kernel), List.mem_of_getElem? (i := 2146) (by decide +kernel)⟩
theorem lw_p129 : lw_okq (⟨"TensorForgeModel", "group", "(IIIIIZ)V"⟩, 69) := ⟨⟨by decide +kernel, by decide +kernel⟩, List.mem_of_getElem? (i := 1583) (by decide +kernel), List.mem_of_getElem? (i := 2149) (by decide +kernel), List.mem_of_getElem? (i := 2150) (by decide +kernel)⟩
theorem lw_p130 : lw_okq (⟨"TensorForgeModel", "groupLoads", "(IIIIIZZ)V"⟩, 69) := ⟨⟨by decide +kernel, by decide +kernel⟩, List.mem_of_getElem? (i := 1583) (by decide +kernel), List.mem_of_getElem? (i := 2153) (by decide +kernel), List.mem_of_getElem? (i := 2154) (by decide +kernel)⟩
theorem lw_p131 : lw_okq (⟨"TensorForgeModel", "set", "(IIII)V"⟩, 69) := ⟨⟨by decide +kernel, by decide +kernel⟩, List.mem_of_getElem? (i := 1583) (by decide +kernel), List.mem_of_getElem? (i := 2157) (by decide +kernel), List.mem_of_getElem? (i := 2158) (by decide +kernel)⟩
theorem lw_p132 : lw_okq (⟨"TensorForgeModel", "quarter", "()I"⟩, 69) := ⟨⟨by decide +kernel, by decide +kernel⟩, List.mem_of_getElem? (i := 1583) (by decide +kernel), List.mem_of_getElem? (i := 2161) (by decide +kernel), List.mem_of_getElem? (i := 2162) (by decide +kernel)⟩
theorem lw_p133 : lw_okq (⟨"TensorForgeModel", "with", "(IIII)V"⟩, 69) := ⟨⟨by decide +kernel, by decide +kernel⟩, List.mem_of_getElem? (i := 1583) (by decide +kernel), List.mem_of_getElem? (i := 2165) (by decide +kernel), List.mem_of_getElem? (i := 2166) (by decide +kernel)⟩
theorem lw_p134 : lw_okq (⟨"TensorForgeModel", "load", "(Z)V"⟩, 69) := ⟨⟨by decide +kernel, by decide +kernel⟩, List.mem_of_getElem? (i := 1583) (by decide +kernel), List.mem_of_getElem? (i := 2169) (by decide +kernel), List.mem_of_getElem? (i := 2170) (by decide +kernel)⟩
theorem lw_p135 : lw_okq (⟨"TensorForgeModel", "emit", "(I)V"⟩, 69) := ⟨⟨by decide +kernel, by decide +kernel⟩, List.mem_of_getElem? (i := 1583) (by decide +kernel), List.mem_of_getElem? (i := 2173) (by decide +kernel), List.mem_of_getElem? (i := 2174) (by decide +kernel)⟩
theorem lw_p136 : lw_okq (⟨"TensorForgeModel", "half", "()I"⟩, 69) := ⟨⟨by decide +kernel, by decide +kernel⟩, List.mem_of_getElem? (i := 1583) (by decide +kernel), List.mem_of_getElem? (i := 2177) (by decide +kernel), List.mem_of_getElem? (i := 2178) (by decide +kernel)⟩
theorem lw_p137 : lw_okq (⟨"TensorForgeModel", "works", "(IIZZ)V"⟩, 69) := ⟨⟨by decide +kernel, by decide +kernel⟩, List.mem_of_getElem? (i := 1583) (by decide +kernel), List.mem_of_getElem? (i := 2181) (by decide +kernel), List.mem_of_getElem? (i := 2182) (by decide +kernel)⟩
theorem lw_p138 : lw_okq (⟨"TensorForgeModel", "keepNetwork", "(Z)V"⟩, 69) := ⟨⟨by decide +kernel, by decide +kernel⟩, List.mem_of_getElem? (i := 1583) (by decide +kernel), List.mem_of_getElem? (i := 2189) (by decide +kernel), List.mem_of_getElem? (i := 2190) (by decide +kernel)⟩
theorem lw_p139 : lw_okq (⟨"TensorForgeModel", "keepRow", "([IIIZ)V"⟩, 69) := ⟨⟨by decide +kernel, by decide +kernel⟩, List.mem_of_getElem? (i := 1583) (by decide +kernel), List.mem_of_getElem? (i := 2193) (by decide +kernel), List.mem_of_getElem? (i := 2194) (by decide +kernel)⟩
theorem lw_p140 : lw_okq (⟨"TensorForgeModel", "advanceNet", "()V"⟩, 69) := ⟨⟨by decide +kernel, by decide +kernel⟩, List.mem_of_getElem? (i := 1583) (by decide +kernel), List.mem_of_getElem? (i := 2197) (by decide +kernel), List.mem_of_getElem? (i := 2198) (by decide +kernel)⟩
theorem lw_p141 : lw_okq (⟨"TensorForgeModel", "readLayer", "()Z"⟩, 69) := ⟨⟨by decide +kernel, by decide +kernel⟩, List.mem_of_getElem? (i := 1583) (by decide +kernel), List.mem_of_getElem? (i := 2201) (by decide +kernel), List.mem_of_getElem? (i := 2202) (by decide +kernel)⟩
theorem lw_p142 : lw_okq (⟨"TensorForgeModel", "isWord", "(J)Z"⟩, 69) := ⟨⟨by decide +kernel, by decide +kernel⟩, List.mem_of_getElem? (i := 1583) (by decide +kernel), List.mem_of_getElem? (i := 2206) (by decide +kernel), List.mem_of_getElem? (i := 2207) (by decide +kernel)⟩
theorem lw_p143 : lw_okq (⟨"TensorForgeModel", "takeTensor", "()I"⟩, 69) := ⟨⟨by decide +kernel, by decide +kernel⟩, List.mem_of_getElem? (i := 1583) (by decide +kernel), List.mem_of_getElem? (i := 2212) (by decide +kernel), List.mem_of_getElem? (i := 2213) (by decide +kernel)⟩
def lw_privs_9 : List (MethodName × Nat) := [(⟨"TensorForgeModel", "tile", "(I)V"⟩, 69), (⟨"TensorForgeModel", "group", "(IIIIIZ)V"⟩, 69), (⟨"TensorForgeModel", "groupLoads", "(IIIIIZZ)V"⟩, 69), (⟨"TensorForgeModel", "set", "(IIII)V"⟩, 69), (⟨"TensorForgeModel", "quarter", "()I"⟩, 69), (⟨"TensorForgeModel", "with", "(IIII)V"⟩, 69), (⟨"TensorForgeModel", "load", "(Z)V"⟩, 69), (⟨"TensorForgeModel", "emit", "(I)V"⟩, 69), (⟨"TensorForgeModel", "half", "()I"⟩, 69), (⟨"TensorForgeModel", "works", "(IIZZ)V"⟩, 69), (⟨"TensorForgeModel", "keepNetwork", "(Z)V"⟩, 69), (⟨"TensorForgeModel", "keepRow", "([IIIZ)V"⟩, 69), (⟨"TensorForgeModel", "advanceNet", "()V"⟩, 69), (⟨"TensorForgeModel", "readLayer", "()Z"⟩, 69), (⟨"TensorForgeModel", "isWord", "(J)Z"⟩, 69), (⟨"TensorForgeModel", "takeTensor", "()I"⟩, 69)]
theorem lw_r9 : ∀ q ∈ lw_privs_9, lw_okq q := List.forall_mem_cons.mpr ⟨lw_p128, List.forall_mem_cons.mpr ⟨lw_p129, List.forall_mem_cons.mpr ⟨lw_p130, List.forall_mem_cons.mpr ⟨lw_p131, List.forall_mem_cons.mpr ⟨lw_p132, List.forall_mem_cons.mpr ⟨lw_p133, List.forall_mem_cons.mpr ⟨lw_p134, List.forall_mem_cons.mpr ⟨lw_p135, List.forall_mem_cons.mpr ⟨lw_p136, List.forall_mem_cons.mpr ⟨lw_p137, List.forall_mem_cons.mpr ⟨lw_p138, List.forall_mem_cons.mpr ⟨lw_p139, List.forall_mem_cons.mpr ⟨lw_p140, List.forall_mem_cons.mpr ⟨lw_p141, List.forall_mem_cons.mpr ⟨lw_p142, List.forall_mem_cons.mpr ⟨lw_p143, fun _ h => absurd h List.not_mem_nil⟩⟩⟩⟩⟩⟩⟩⟩⟩⟩⟩⟩⟩⟩⟩⟩
theorem lw_p144 : lw_okq (⟨"TensorForgeModel", "named", "(J)I"⟩, 69) := ⟨⟨by decide +kernel, by decide +kernel⟩, List.mem_of_getElem? (i := 1583) (by decide +kernel), List.mem_of_getElem? (i := 2216) (by decide +kernel), List.mem_of_getElem? (i := 2217) (by decide +kernel)⟩
theorem lw_p145 : lw_okq (⟨"TensorForgeModel", "takeParts", "(I)Z"⟩, 69) := ⟨⟨by decide +kernel, by decide +kernel⟩, List.mem_of_getElem? (i := 1583) (by decide +kernel), List.mem_of_getElem? (i := 2220) (by decide +kernel), List.mem_of_getElem? (i := 2221) (by decide +kernel)⟩
theorem lw_p146 : lw_okq (⟨"TensorForgeModel", "partOf", "()I"⟩, 69) := ⟨⟨by decide +kernel, by decide +kernel⟩, List.mem_of_getElem? (i := 1583) (by decide +kernel), List.mem_of_getElem? (i := 2224) (by decide +kernel), List.mem_of_getElem? (i := 2225) (by decide +kernel)⟩
theorem lw_p147 : lw_okq (⟨"TensorForgeModel", "takePart", "(I)Z"⟩, 69) := ⟨⟨by decide +kernel, by decide +kernel⟩, List.mem_of_getElem? (i := 1583) (by decide +kernel), List.mem_of_getElem? (i := 2233) (by decide +kernel), List.mem_of_getElem? (i := 2234) (by decide +kernel)⟩
theorem lw_p148 : lw_okq (⟨"TensorForgeModel", "takeNet", "(I)Z"⟩, 69) := ⟨⟨by decide +kernel, by decide +kernel⟩, List.mem_of_getElem? (i := 1583) (by decide +kernel), List.mem_of_getElem? (i := 2237) (by decide +kernel), List.mem_of_getElem? (i := 2238) (by decide +kernel)⟩
theorem lw_p149 : lw_okq (⟨"TensorForgeModel", "takeX", "()Z"⟩, 69) := ⟨⟨by decide +kernel, by decide +kernel⟩, List.mem_of_getElem? (i := 1583) (by decide +kernel), List.mem_of_getElem? (i := 2241) (by decide +kernel), List.mem_of_getElem? (i := 2242) (by decide +kernel)⟩
theorem lw_p150 : lw_okq (⟨"TensorForgeModel", "isKeyword", "(J)Z"⟩, 69) := ⟨⟨by decide +kernel, by decide +kernel⟩, List.mem_of_getElem? (i := 1583) (by decide +kernel), List.mem_of_getElem? (i := 2245) (by decide +kernel), List.mem_of_getElem? (i := 2246) (by decide +kernel)⟩
theorem lw_p151 : lw_okq (⟨"TensorForgeModel", "readInput", "()Z"⟩, 69) := ⟨⟨by decide +kernel, by decide +kernel⟩, List.mem_of_getElem? (i := 1583) (by decide +kernel), List.mem_of_getElem? (i := 2253) (by decide +kernel), List.mem_of_getElem? (i := 2254) (by decide +kernel)⟩
theorem lw_p152 : lw_okq (⟨"TensorForgeModel", "sayCode", "(J)V"⟩, 69) := ⟨⟨by decide +kernel, by decide +kernel⟩, List.mem_of_getElem? (i := 1583) (by decide +kernel), List.mem_of_getElem? (i := 2262) (by decide +kernel), List.mem_of_getElem? (i := 2263) (by decide +kernel)⟩
theorem lw_p153 : lw_okq (⟨"TensorForgeModel", "sayCount", "(I)V"⟩, 69) := ⟨⟨by decide +kernel, by decide +kernel⟩, List.mem_of_getElem? (i := 1583) (by decide +kernel), List.mem_of_getElem? (i := 2266) (by decide +kernel), List.mem_of_getElem? (i := 2267) (by decide +kernel)⟩
theorem lw_p154 : lw_okq (⟨"TensorForgeModel", "sayLayer", "(I)V"⟩, 69) := ⟨⟨by decide +kernel, by decide +kernel⟩, List.mem_of_getElem? (i := 1583) (by decide +kernel), List.mem_of_getElem? (i := 2270) (by decide +kernel), List.mem_of_getElem? (i := 2271) (by decide +kernel)⟩
theorem lw_p155 : lw_okq (⟨"TensorForgeModel", "placeAll", "()I"⟩, 69) := ⟨⟨by decide +kernel, by decide +kernel⟩, List.mem_of_getElem? (i := 1583) (by decide +kernel), List.mem_of_getElem? (i := 2278) (by decide +kernel), List.mem_of_getElem? (i := 2279) (by decide +kernel)⟩
theorem lw_p156 : lw_okq (⟨"TensorForgeModel", "meets", "(II)Z"⟩, 69) := ⟨⟨by decide +kernel, by decide +kernel⟩, List.mem_of_getElem? (i := 1583) (by decide +kernel), List.mem_of_getElem? (i := 2282) (by decide +kernel), List.mem_of_getElem? (i := 2283) (by decide +kernel)⟩
theorem lw_p157 : lw_okq (⟨"TensorForgeModel", "isNeeded", "(II)Z"⟩, 69) := ⟨⟨by decide +kernel, by decide +kernel⟩, List.mem_of_getElem? (i := 1583) (by decide +kernel), List.mem_of_getElem? (i := 2286) (by decide +kernel), List.mem_of_getElem? (i := 2287) (by decide +kernel)⟩
theorem lw_p158 : lw_okq (⟨"TensorForgeModel", "takes", "(II)Z"⟩, 69) := ⟨⟨by decide +kernel, by decide +kernel⟩, List.mem_of_getElem? (i := 1583) (by decide +kernel), List.mem_of_getElem? (i := 2290) (by decide +kernel), List.mem_of_getElem? (i := 2291) (by decide +kernel)⟩
theorem lw_p159 : lw_okq (⟨"TensorForgeModel", "isToldOfRun", "(II)Z"⟩, 69) := ⟨⟨by decide +kernel, by decide +kernel⟩, List.mem_of_getElem? (i := 1583) (by decide +kernel), List.mem_of_getElem? (i := 2298) (by decide +kernel), List.mem_of_getElem? (i := 2299) (by decide +kernel)⟩
def lw_privs_10 : List (MethodName × Nat) := [(⟨"TensorForgeModel", "named", "(J)I"⟩, 69), (⟨"TensorForgeModel", "takeParts", "(I)Z"⟩, 69), (⟨"TensorForgeModel", "partOf", "()I"⟩, 69), (⟨"TensorForgeModel", "takePart", "(I)Z"⟩, 69), (⟨"TensorForgeModel", "takeNet", "(I)Z"⟩, 69), (⟨"TensorForgeModel", "takeX", "()Z"⟩, 69), (⟨"TensorForgeModel", "isKeyword", "(J)Z"⟩, 69), (⟨"TensorForgeModel", "readInput", "()Z"⟩, 69), (⟨"TensorForgeModel", "sayCode", "(J)V"⟩, 69), (⟨"TensorForgeModel", "sayCount", "(I)V"⟩, 69), (⟨"TensorForgeModel", "sayLayer", "(I)V"⟩, 69), (⟨"TensorForgeModel", "placeAll", "()I"⟩, 69), (⟨"TensorForgeModel", "meets", "(II)Z"⟩, 69), (⟨"TensorForgeModel", "isNeeded", "(II)Z"⟩, 69), (⟨"TensorForgeModel", "takes", "(II)Z"⟩, 69), (⟨"TensorForgeModel", "isToldOfRun", "(II)Z"⟩, 69)]
theorem lw_r10 : ∀ q ∈ lw_privs_10, lw_okq q := List.forall_mem_cons.mpr ⟨lw_p144, List.forall_mem_cons.mpr ⟨lw_p145, List.forall_mem_cons.mpr ⟨lw_p146, List.forall_mem_cons.mpr ⟨lw_p147, List.forall_mem_cons.mpr ⟨lw_p148, List.forall_mem_cons.mpr ⟨lw_p149, List.forall_mem_cons.mpr ⟨lw_p150, List.forall_mem_cons.mpr ⟨lw_p151, List.forall_mem_cons.mpr ⟨lw_p152, List.forall_mem_cons.mpr ⟨lw_p153, List.forall_mem_cons.mpr ⟨lw_p154, List.forall_mem_cons.mpr ⟨lw_p155, List.forall_mem_cons.mpr ⟨lw_p156, List.forall_mem_cons.mpr ⟨lw_p157, List.forall_mem_cons.mpr ⟨lw_p158, List.forall_mem_cons.mpr ⟨lw_p159, fun _ h => absurd h List.not_mem_nil⟩⟩⟩⟩⟩⟩⟩⟩⟩⟩⟩⟩⟩⟩⟩⟩
theorem lw_p160 : lw_okq (⟨"TensorForgeModel", "underWay", "(II)I"⟩, 69) := ⟨⟨by decide +kernel, by decide +kernel⟩, List.mem_of_getElem? (i := 1583) (by decide +kernel), List.mem_of_getElem? (i := 2302) (by decide +kernel), List.mem_of_getElem? (i := 2303) (by decide +kernel)⟩
theorem lw_p161 : lw_okq (⟨"TensorForgeModel", "isTokenThere", "(IZI)Z"⟩, 69) := ⟨⟨by decide +kernel, by decide +kernel⟩, List.mem_of_getElem? (i := 1583) (by decide +kernel), List.mem_of_getElem? (i := 2310) (by decide +kernel), List.mem_of_getElem? (i := 2311) (by decide +kernel)⟩
def lw_privs_11 : List (MethodName × Nat) := [(⟨"TensorForgeModel", "underWay", "(II)I"⟩, 69), (⟨"TensorForgeModel", "isTokenThere", "(IZI)Z"⟩, 69)]
theorem lw_r11 : ∀ q ∈ lw_privs_11, lw_okq q := List.forall_mem_cons.mpr ⟨lw_p160, List.forall_mem_cons.mpr ⟨lw_p161, fun _ h => absurd h List.not_mem_nil⟩⟩
def lw_privs : List (MethodName × Nat) := lw_privs_1 ++ (lw_privs_2 ++ (lw_privs_3 ++ (lw_privs_4 ++ (lw_privs_5 ++ (lw_privs_6 ++ (lw_privs_7 ++ (lw_privs_8 ++ (lw_privs_9 ++ (lw_privs_10 ++ (lw_privs_11))))))))))
def lw_tbl : List Cond := k2_sels lw_privs ++ tables_1
theorem lw_privs_ok : ∀ q ∈ lw_privs, lw_okq q := by
  show ∀ q ∈ lw_privs_1 ++ (lw_privs_2 ++ (lw_privs_3 ++ (lw_privs_4 ++ (lw_privs_5 ++ (lw_privs_6 ++ (lw_privs_7 ++ (lw_privs_8 ++ (lw_privs_9 ++ (lw_privs_10 ++ (lw_privs_11)))))))))), lw_okq q
  exact List.forall_mem_append.mpr ⟨lw_r1, List.forall_mem_append.mpr ⟨lw_r2, List.forall_mem_append.mpr ⟨lw_r3, List.forall_mem_append.mpr ⟨lw_r4, List.forall_mem_append.mpr ⟨lw_r5, List.forall_mem_append.mpr ⟨lw_r6, List.forall_mem_append.mpr ⟨lw_r7, List.forall_mem_append.mpr ⟨lw_r8, List.forall_mem_append.mpr ⟨lw_r9, List.forall_mem_append.mpr ⟨lw_r10, lw_r11⟩⟩⟩⟩⟩⟩⟩⟩⟩⟩
/-- the words that hold at every later state too -/
def mm_tb : List Cond := lw_tbl.filter goodWord
theorem mm_tb_in (ws : List Cond) (ps : List Nat) (hp : ws = ps.filterMap (fun i => tables_1[i]?)) (h : ws.all goodWord = true) : ∀ w ∈ ws, w ∈ mm_tb := by
  intro w hw
  have h1 := List.all_eq_true.mp h w hw
  rw [hp] at hw
  obtain ⟨i, -, hi⟩ := List.mem_filterMap.mp hw
  exact List.mem_filter.mpr ⟨List.mem_append_right _ (List.mem_of_getElem? hi), h1⟩
theorem mm_tb_1 {w : Cond} (i : Nat) (hi : tables_1[i]? = some w) (h : goodWord w = true) : w ∈ mm_tb := List.mem_filter.mpr ⟨List.mem_append_right _ (List.mem_of_getElem? hi), h⟩
theorem mm_tb_s {w : Cond} (i : Nat) (hi : (k2_sels lw_privs)[i]? = some w) (h : goodWord w = true) : w ∈ mm_tb := List.mem_filter.mpr ⟨List.mem_append_left _ (List.mem_of_getElem? hi), h⟩
theorem mm_tb_good {s : State} {args : Array Value} (h : ∀ w ∈ mm_tb, w.before args s = true) {U : State} (hW : s.WarmedH U.vm) (a : Array Value) : ∀ w ∈ mm_tb, w.before a U = true :=
  fun w hw => word_at hW (good_of_word (List.mem_filter.mp hw).2) (h w hw)
end
section
/-! the classes: names, fields, types; by program out of the words (wip/names.py) -/
def R_TF : String := "TensorForge"
def F_TF : u_T := fun k => match k with
  | 0 => ("TensorForge", "machine", "LTensorForge$Machine;", true)
  | 1 => ("TensorForge", "latest", "LTensorForge$Run;", true)
  | 2 => ("TensorForge", "text", "LTensorForge$Text;", true)
  | 3 => ("TensorForge", "assembler", "LTensorForge$Assembler;", true)
  | 4 => ("TensorForge", "reader", "LTensorForge$NetworkReader;", true)
  | 5 => ("TensorForge", "compiler", "LTensorForge$Compiler;", true)
  | 6 => ("TensorForge", "printed", "LTensorForge$Line;", true)
  | 7 => ("TensorForge", "net", "LTensorForge$Network;", false)
  | 8 => ("TensorForge", "spareNet", "LTensorForge$Network;", false)
  | 9 => ("TensorForge", "words", "[J", false)
  | 10 => ("TensorForge", "spareWords", "[J", false)
  | _ => ("TensorForge", "count", "I", false)
def t_TF : Nat → FieldType := fun k => match k with
  | 0 => .object "TensorForge$Machine"
  | 1 => .object "TensorForge$Run"
  | 2 => .object "TensorForge$Text"
  | 3 => .object "TensorForge$Assembler"
  | 4 => .object "TensorForge$NetworkReader"
  | 5 => .object "TensorForge$Compiler"
  | 6 => .object "TensorForge$Line"
  | 7 => .object "TensorForge$Network"
  | 8 => .object "TensorForge$Network"
  | 9 => .array .long
  | 10 => .array .long
  | _ => .int
theorem n_TF : ∀ a, a < 12 → ∀ b, b < 12 → a ≠ b → (F_TF a).2.1 ≠ (F_TF b).2.1 := by decide +kernel
theorem t_TF_ok : ∀ k, k < 12 → parseFieldDescriptor (F_TF k).2.2.1 = some (t_TF k) := by decide +kernel
theorem i_TF : ∀ w ∈ u_ws R_TF F_TF 12, w ∈ mm_tb := mm_tb_in _ [452, 454, 456, 458, 460, 462, 464, 466, 468, 470, 472, 474] (by decide +kernel) (by decide +kernel)
def R_Network : String := "TensorForge$Network"
def F_Network : u_T := fun k => match k with
  | 0 => ("TensorForge$Network", "layers", "[LTensorForge$Layer;", true)
  | _ => ("TensorForge$Network", "tensors", "I", false)
def t_Network : Nat → FieldType := fun k => match k with
  | 0 => .array (.object "TensorForge$Layer")
  | _ => .int
theorem n_Network : ∀ a, a < 2 → ∀ b, b < 2 → a ≠ b → (F_Network a).2.1 ≠ (F_Network b).2.1 := by decide +kernel
theorem t_Network_ok : ∀ k, k < 2 → parseFieldDescriptor (F_Network k).2.2.1 = some (t_Network k) := by decide +kernel
theorem i_Network : ∀ w ∈ u_ws R_Network F_Network 2, w ∈ mm_tb := mm_tb_in _ [149, 151] (by decide +kernel) (by decide +kernel)
def R_Layer : String := "TensorForge$Layer"
def F_Layer : u_T := fun k => match k with
  | 0 => ("TensorForge$Layer", "kind", "I", false)
  | 1 => ("TensorForge$Layer", "one", "I", false)
  | 2 => ("TensorForge$Layer", "two", "I", false)
  | 3 => ("TensorForge$Layer", "kernelHeight", "I", false)
  | 4 => ("TensorForge$Layer", "kernelWidth", "I", false)
  | 5 => ("TensorForge$Layer", "step", "I", false)
  | 6 => ("TensorForge$Layer", "edge", "I", false)
  | 7 => ("TensorForge$Layer", "shift", "I", false)
  | 8 => ("TensorForge$Layer", "relu", "Z", false)
  | 9 => ("TensorForge$Layer", "address", "I", false)
  | 10 => ("TensorForge$Layer", "height", "I", false)
  | 11 => ("TensorForge$Layer", "width", "I", false)
  | 12 => ("TensorForge$Layer", "channels", "I", false)
  | 13 => ("TensorForge$Layer", "begin", "I", false)
  | _ => ("TensorForge$Layer", "spot", "I", false)
def t_Layer : Nat → FieldType := fun k => match k with
  | 0 => .int
  | 1 => .int
  | 2 => .int
  | 3 => .int
  | 4 => .int
  | 5 => .int
  | 6 => .int
  | 7 => .int
  | 8 => .boolean
  | 9 => .int
  | 10 => .int
  | 11 => .int
  | 12 => .int
  | 13 => .int
  | _ => .int
theorem n_Layer : ∀ a, a < 15 → ∀ b, b < 15 → a ≠ b → (F_Layer a).2.1 ≠ (F_Layer b).2.1 := by decide +kernel
theorem t_Layer_ok : ∀ k, k < 15 → parseFieldDescriptor (F_Layer k).2.2.1 = some (t_Layer k) := by decide +kernel
theorem i_Layer : ∀ w ∈ u_ws R_Layer F_Layer 15, w ∈ mm_tb := mm_tb_in _ [112, 114, 116, 118, 120, 122, 124, 126, 128, 130, 132, 134, 136, 138, 140] (by decide +kernel) (by decide +kernel)
def R_Machine : String := "TensorForge$Machine"
def F_Machine : u_T := fun k => match k with
  | 0 => ("TensorForge$Machine", "memory", "[B", true)
  | 1 => ("TensorForge$Machine", "cells", "[B", true)
  | 2 => ("TensorForge$Machine", "weights", "[B", true)
  | 3 => ("TensorForge$Machine", "sums", "[I", true)
  | 4 => ("TensorForge$Machine", "results", "[B", true)
  | 5 => ("TensorForge$Machine", "probe", "LTensorForge$Reaches;", true)
  | 6 => ("TensorForge$Machine", "side", "I", false)
  | 7 => ("TensorForge$Machine", "address", "I", false)
  | 8 => ("TensorForge$Machine", "rows", "I", false)
  | 9 => ("TensorForge$Machine", "columns", "I", false)
  | 10 => ("TensorForge$Machine", "a", "I", false)
  | 11 => ("TensorForge$Machine", "b", "I", false)
  | 12 => ("TensorForge$Machine", "stride", "I", false)
  | _ => ("TensorForge$Machine", "n", "I", false)
def t_Machine : Nat → FieldType := fun k => match k with
  | 0 => .array .byte
  | 1 => .array .byte
  | 2 => .array .byte
  | 3 => .array .int
  | 4 => .array .byte
  | 5 => .object "TensorForge$Reaches"
  | 6 => .int
  | 7 => .int
  | 8 => .int
  | 9 => .int
  | 10 => .int
  | 11 => .int
  | 12 => .int
  | _ => .int
theorem n_Machine : ∀ a, a < 14 → ∀ b, b < 14 → a ≠ b → (F_Machine a).2.1 ≠ (F_Machine b).2.1 := by decide +kernel
theorem t_Machine_ok : ∀ k, k < 14 → parseFieldDescriptor (F_Machine k).2.2.1 = some (t_Machine k) := by decide +kernel
theorem i_Machine : ∀ w ∈ u_ws R_Machine F_Machine 14, w ∈ mm_tb := mm_tb_in _ [201, 203, 205, 207, 209, 211, 213, 215, 217, 219, 221, 223, 225, 227] (by decide +kernel) (by decide +kernel)
def R_Reaches : String := "TensorForge$Reaches"
def F_Reaches : u_T := fun k => match k with
  | 0 => ("TensorForge$Reaches", "readFrom", "[I", true)
  | 1 => ("TensorForge$Reaches", "readTo", "[I", true)
  | 2 => ("TensorForge$Reaches", "writeFrom", "[I", true)
  | _ => ("TensorForge$Reaches", "writeTo", "[I", true)
def t_Reaches : Nat → FieldType := fun k => match k with
  | 0 => .array .int
  | 1 => .array .int
  | 2 => .array .int
  | _ => .array .int
theorem n_Reaches : ∀ a, a < 4 → ∀ b, b < 4 → a ≠ b → (F_Reaches a).2.1 ≠ (F_Reaches b).2.1 := by decide +kernel
theorem t_Reaches_ok : ∀ k, k < 4 → parseFieldDescriptor (F_Reaches k).2.2.1 = some (t_Reaches k) := by decide +kernel
theorem i_Reaches : ∀ w ∈ u_ws R_Reaches F_Reaches 4, w ∈ mm_tb := mm_tb_in _ [172, 174, 176, 178] (by decide +kernel) (by decide +kernel)
def R_Run : String := "TensorForge$Run"
def F_Run : u_T := fun k => match k with
  | 0 => ("TensorForge$Run", "machine", "LTensorForge$Machine;", true)
  | 1 => ("TensorForge$Run", "told", "[I", true)
  | 2 => ("TensorForge$Run", "words", "[J", true)
  | 3 => ("TensorForge$Run", "began", "[I", true)
  | 4 => ("TensorForge$Run", "ended", "[I", true)
  | 5 => ("TensorForge$Run", "next", "[I", true)
  | 6 => ("TensorForge$Run", "underWay", "[I", true)
  | 7 => ("TensorForge$Run", "reaches", "[LTensorForge$Reaches;", true)
  | 8 => ("TensorForge$Run", "candidate", "LTensorForge$Reaches;", false)
  | _ => ("TensorForge$Run", "count", "I", false)
def t_Run : Nat → FieldType := fun k => match k with
  | 0 => .object "TensorForge$Machine"
  | 1 => .array .int
  | 2 => .array .long
  | 3 => .array .int
  | 4 => .array .int
  | 5 => .array .int
  | 6 => .array .int
  | 7 => .array (.object "TensorForge$Reaches")
  | 8 => .object "TensorForge$Reaches"
  | _ => .int
theorem n_Run : ∀ a, a < 10 → ∀ b, b < 10 → a ≠ b → (F_Run a).2.1 ≠ (F_Run b).2.1 := by decide +kernel
theorem t_Run_ok : ∀ k, k < 10 → parseFieldDescriptor (F_Run k).2.2.1 = some (t_Run k) := by decide +kernel
theorem i_Run : ∀ w ∈ u_ws R_Run F_Run 10, w ∈ mm_tb := mm_tb_in _ [254, 256, 258, 260, 262, 264, 266, 268, 270, 272] (by decide +kernel) (by decide +kernel)
def R_Text : String := "TensorForge$Text"
def F_Text : u_T := fun k => match k with
  | 0 => ("TensorForge$Text", "signs", "[C", true)
  | 1 => ("TensorForge$Text", "count", "I", false)
  | 2 => ("TensorForge$Text", "lineEnd", "I", false)
  | 3 => ("TensorForge$Text", "at", "I", false)
  | 4 => ("TensorForge$Text", "sort", "I", false)
  | 5 => ("TensorForge$Text", "from", "I", false)
  | _ => ("TensorForge$Text", "number", "I", false)
def t_Text : Nat → FieldType := fun k => match k with
  | 0 => .array .char
  | 1 => .int
  | 2 => .int
  | 3 => .int
  | 4 => .int
  | 5 => .int
  | _ => .int
theorem n_Text : ∀ a, a < 7 → ∀ b, b < 7 → a ≠ b → (F_Text a).2.1 ≠ (F_Text b).2.1 := by decide +kernel
theorem t_Text_ok : ∀ k, k < 7 → parseFieldDescriptor (F_Text k).2.2.1 = some (t_Text k) := by decide +kernel
theorem i_Text : ∀ w ∈ u_ws R_Text F_Text 7, w ∈ mm_tb := mm_tb_in _ [298, 300, 302, 304, 306, 308, 310] (by decide +kernel) (by decide +kernel)
def R_Assembler : String := "TensorForge$Assembler"
def F_Assembler : u_T := fun k => match k with
  | 0 => ("TensorForge$Assembler", "text", "LTensorForge$Text;", true)
  | 1 => ("TensorForge$Assembler", "made", "I", false)
  | 2 => ("TensorForge$Assembler", "built", "J", false)
  | _ => ("TensorForge$Assembler", "seen", "I", false)
def t_Assembler : Nat → FieldType := fun k => match k with
  | 0 => .object "TensorForge$Text"
  | 1 => .int
  | 2 => .long
  | _ => .int
theorem n_Assembler : ∀ a, a < 4 → ∀ b, b < 4 → a ≠ b → (F_Assembler a).2.1 ≠ (F_Assembler b).2.1 := by decide +kernel
theorem t_Assembler_ok : ∀ k, k < 4 → parseFieldDescriptor (F_Assembler k).2.2.1 = some (t_Assembler k) := by decide +kernel
theorem i_Assembler : ∀ w ∈ u_ws R_Assembler F_Assembler 4, w ∈ mm_tb := mm_tb_in _ [325, 327, 329, 331] (by decide +kernel) (by decide +kernel)
def R_NetworkReader : String := "TensorForge$NetworkReader"
def F_NetworkReader : u_T := fun k => match k with
  | 0 => ("TensorForge$NetworkReader", "text", "LTensorForge$Text;", true)
  | 1 => ("TensorForge$NetworkReader", "net", "LTensorForge$Network;", false)
  | 2 => ("TensorForge$NetworkReader", "nameFrom", "[I", true)
  | 3 => ("TensorForge$NetworkReader", "nameSize", "[I", true)
  | 4 => ("TensorForge$NetworkReader", "lineNameFrom", "I", false)
  | 5 => ("TensorForge$NetworkReader", "lineNameSize", "I", false)
  | 6 => ("TensorForge$NetworkReader", "allowed", "I", false)
  | 7 => ("TensorForge$NetworkReader", "needed", "I", false)
  | _ => ("TensorForge$NetworkReader", "seen", "I", false)
def t_NetworkReader : Nat → FieldType := fun k => match k with
  | 0 => .object "TensorForge$Text"
  | 1 => .object "TensorForge$Network"
  | 2 => .array .int
  | 3 => .array .int
  | 4 => .int
  | 5 => .int
  | 6 => .int
  | 7 => .int
  | _ => .int
theorem n_NetworkReader : ∀ a, a < 9 → ∀ b, b < 9 → a ≠ b → (F_NetworkReader a).2.1 ≠ (F_NetworkReader b).2.1 := by decide +kernel
theorem t_NetworkReader_ok : ∀ k, k < 9 → parseFieldDescriptor (F_NetworkReader k).2.2.1 = some (t_NetworkReader k) := by decide +kernel
theorem i_NetworkReader : ∀ w ∈ u_ws R_NetworkReader F_NetworkReader 9, w ∈ mm_tb := mm_tb_in _ [349, 351, 353, 355, 357, 359, 361, 363, 365] (by decide +kernel) (by decide +kernel)
def R_Compiler : String := "TensorForge$Compiler"
def F_Compiler : u_T := fun k => match k with
  | 0 => ("TensorForge$Compiler", "words", "[J", false)
  | 1 => ("TensorForge$Compiler", "made", "I", false)
  | 2 => ("TensorForge$Compiler", "side", "I", false)
  | 3 => ("TensorForge$Compiler", "layer", "LTensorForge$Layer;", false)
  | 4 => ("TensorForge$Compiler", "first", "LTensorForge$Layer;", false)
  | 5 => ("TensorForge$Compiler", "second", "LTensorForge$Layer;", false)
  | 6 => ("TensorForge$Compiler", "tile", "I", false)
  | 7 => ("TensorForge$Compiler", "channel", "I", false)
  | 8 => ("TensorForge$Compiler", "columns", "I", false)
  | 9 => ("TensorForge$Compiler", "row", "I", false)
  | 10 => ("TensorForge$Compiler", "start", "I", false)
  | 11 => ("TensorForge$Compiler", "places", "I", false)
  | 12 => ("TensorForge$Compiler", "group", "I", false)
  | 13 => ("TensorForge$Compiler", "kernelRow", "I", false)
  | 14 => ("TensorForge$Compiler", "kernelColumn", "I", false)
  | 15 => ("TensorForge$Compiler", "block", "I", false)
  | _ => ("TensorForge$Compiler", "depth", "I", false)
def t_Compiler : Nat → FieldType := fun k => match k with
  | 0 => .array .long
  | 1 => .int
  | 2 => .int
  | 3 => .object "TensorForge$Layer"
  | 4 => .object "TensorForge$Layer"
  | 5 => .object "TensorForge$Layer"
  | 6 => .int
  | 7 => .int
  | 8 => .int
  | 9 => .int
  | 10 => .int
  | 11 => .int
  | 12 => .int
  | 13 => .int
  | 14 => .int
  | 15 => .int
  | _ => .int
theorem n_Compiler : ∀ a, a < 17 → ∀ b, b < 17 → a ≠ b → (F_Compiler a).2.1 ≠ (F_Compiler b).2.1 := by decide +kernel
theorem t_Compiler_ok : ∀ k, k < 17 → parseFieldDescriptor (F_Compiler k).2.2.1 = some (t_Compiler k) := by decide +kernel
theorem i_Compiler : ∀ w ∈ u_ws R_Compiler F_Compiler 17, w ∈ mm_tb := mm_tb_in _ [392, 394, 396, 398, 400, 402, 404, 406, 408, 410, 412, 414, 416, 418, 420, 422, 424] (by decide +kernel) (by decide +kernel)
def R_Line : String := "TensorForge$Line"
def F_Line : u_T := fun k => match k with
  | 0 => ("TensorForge$Line", "signs", "[C", true)
  | _ => ("TensorForge$Line", "count", "I", false)
def t_Line : Nat → FieldType := fun k => match k with
  | 0 => .array .char
  | _ => .int
theorem n_Line : ∀ a, a < 2 → ∀ b, b < 2 → a ≠ b → (F_Line a).2.1 ≠ (F_Line b).2.1 := by decide +kernel
theorem t_Line_ok : ∀ k, k < 2 → parseFieldDescriptor (F_Line k).2.2.1 = some (t_Line k) := by decide +kernel
theorem i_Line : ∀ w ∈ u_ws R_Line F_Line 2, w ∈ mm_tb := mm_tb_in _ [435, 437] (by decide +kernel) (by decide +kernel)
def R_Md : String := "TensorForgeModel"
def F_Md : u_T := fun k => match k with
  | 0 => ("TensorForgeModel", "thrown", "I", false)
  | 1 => ("TensorForgeModel", "side", "I", false)
  | 2 => ("TensorForgeModel", "memory", "[I", true)
  | 3 => ("TensorForgeModel", "cells", "[I", true)
  | 4 => ("TensorForgeModel", "weights", "[I", true)
  | 5 => ("TensorForgeModel", "sums", "[I", true)
  | 6 => ("TensorForgeModel", "results", "[I", true)
  | 7 => ("TensorForgeModel", "length", "I", false)
  | 8 => ("TensorForgeModel", "words", "[J", true)
  | 9 => ("TensorForgeModel", "made", "[J", true)
  | 10 => ("TensorForgeModel", "makes", "I", false)
  | 11 => ("TensorForgeModel", "field", "[I", true)
  | 12 => ("TensorForgeModel", "reads", "[I", true)
  | 13 => ("TensorForgeModel", "writes", "[I", true)
  | 14 => ("TensorForgeModel", "stopped", "I", false)
  | 15 => ("TensorForgeModel", "culprit", "I", false)
  | 16 => ("TensorForgeModel", "stopCycle", "I", false)
  | 17 => ("TensorForgeModel", "worked", "[I", true)
  | 18 => ("TensorForgeModel", "tokens", "[I", true)
  | 19 => ("TensorForgeModel", "ran", "I", false)
  | 20 => ("TensorForgeModel", "units", "[I", true)
  | 21 => ("TensorForgeModel", "begins", "[I", true)
  | 22 => ("TensorForgeModel", "ends", "[I", true)
  | 23 => ("TensorForgeModel", "pushed", "[Z", true)
  | 24 => ("TensorForgeModel", "flags", "[I", true)
  | 25 => ("TensorForgeModel", "under", "[I", true)
  | 26 => ("TensorForgeModel", "next", "[I", true)
  | 27 => ("TensorForgeModel", "signs", "[I", true)
  | 28 => ("TensorForgeModel", "size", "I", false)
  | 29 => ("TensorForgeModel", "names", "[J", true)
  | 30 => ("TensorForgeModel", "token", "I", false)
  | 31 => ("TensorForgeModel", "tokenValue", "I", false)
  | 32 => ("TensorForgeModel", "at", "I", false)
  | 33 => ("TensorForgeModel", "lineEnd", "I", false)
  | 34 => ("TensorForgeModel", "listed", "I", false)
  | 35 => ("TensorForgeModel", "list", "[I", true)
  | 36 => ("TensorForgeModel", "tensors", "I", false)
  | 37 => ("TensorForgeModel", "heights", "[I", true)
  | 38 => ("TensorForgeModel", "widths", "[I", true)
  | 39 => ("TensorForgeModel", "channels", "[I", true)
  | 40 => ("TensorForgeModel", "froms", "[I", true)
  | 41 => ("TensorForgeModel", "kinds", "[I", true)
  | 42 => ("TensorForgeModel", "ones", "[I", true)
  | 43 => ("TensorForgeModel", "twos", "[I", true)
  | 44 => ("TensorForgeModel", "kernelRows", "[I", true)
  | 45 => ("TensorForgeModel", "kernelColumns", "[I", true)
  | 46 => ("TensorForgeModel", "steps", "[I", true)
  | 47 => ("TensorForgeModel", "edges", "[I", true)
  | 48 => ("TensorForgeModel", "shifts", "[I", true)
  | 49 => ("TensorForgeModel", "parameters", "[I", true)
  | 50 => ("TensorForgeModel", "tiles", "I", false)
  | 51 => ("TensorForgeModel", "groups", "I", false)
  | 52 => ("TensorForgeModel", "places", "I", false)
  | 53 => ("TensorForgeModel", "wide", "I", false)
  | 54 => ("TensorForgeModel", "firstPlace", "I", false)
  | 55 => ("TensorForgeModel", "tileRow", "I", false)
  | 56 => ("TensorForgeModel", "firstChannel", "I", false)
  | 57 => ("TensorForgeModel", "loads", "I", false)
  | 58 => ("TensorForgeModel", "ownReads", "[I", true)
  | 59 => ("TensorForgeModel", "ownWrites", "[I", true)
  | 60 => ("TensorForgeModel", "loadsLeft", "I", false)
  | 61 => ("TensorForgeModel", "wordCode", "J", false)
  | 62 => ("TensorForgeModel", "tensorNames", "[J", true)
  | 63 => ("TensorForgeModel", "told", "[I", true)
  | 64 => ("TensorForgeModel", "toldName", "J", false)
  | 65 => ("TensorForgeModel", "toldBits", "I", false)
  | 66 => ("TensorForgeModel", "keptTensors", "I", false)
  | 67 => ("TensorForgeModel", "kept", "[I", true)
  | _ => ("TensorForgeModel", "placesBefore", "[I", true)
def t_Md : Nat → FieldType := fun k => match k with
  | 0 => .int
  | 1 => .int
  | 2 => .array .int
  | 3 => .array .int
  | 4 => .array .int
  | 5 => .array .int
  | 6 => .array .int
  | 7 => .int
  | 8 => .array .long
  | 9 => .array .long
  | 10 => .int
  | 11 => .array .int
  | 12 => .array .int
  | 13 => .array .int
  | 14 => .int
  | 15 => .int
  | 16 => .int
  | 17 => .array .int
  | 18 => .array .int
  | 19 => .int
  | 20 => .array .int
  | 21 => .array .int
  | 22 => .array .int
  | 23 => .array .boolean
  | 24 => .array .int
  | 25 => .array .int
  | 26 => .array .int
  | 27 => .array .int
  | 28 => .int
  | 29 => .array .long
  | 30 => .int
  | 31 => .int
  | 32 => .int
  | 33 => .int
  | 34 => .int
  | 35 => .array .int
  | 36 => .int
  | 37 => .array .int
  | 38 => .array .int
  | 39 => .array .int
  | 40 => .array .int
  | 41 => .array .int
  | 42 => .array .int
  | 43 => .array .int
  | 44 => .array .int
  | 45 => .array .int
  | 46 => .array .int
  | 47 => .array .int
  | 48 => .array .int
  | 49 => .array .int
  | 50 => .int
  | 51 => .int
  | 52 => .int
  | 53 => .int
  | 54 => .int
  | 55 => .int
  | 56 => .int
  | 57 => .int
  | 58 => .array .int
  | 59 => .array .int
  | 60 => .int
  | 61 => .long
  | 62 => .array .long
  | 63 => .array .int
  | 64 => .long
  | 65 => .int
  | 66 => .int
  | 67 => .array .int
  | _ => .array .int
theorem n_Md : ∀ a, a < 69 → ∀ b, b < 69 → a ≠ b → (F_Md a).2.1 ≠ (F_Md b).2.1 := by decide +kernel
theorem t_Md_ok : ∀ k, k < 69 → parseFieldDescriptor (F_Md k).2.2.1 = some (t_Md k) := by decide +kernel
theorem i_Md : ∀ w ∈ u_ws R_Md F_Md 69, w ∈ mm_tb := mm_tb_in _ [1680, 1682, 1684, 1686, 1688, 1690, 1692, 1694, 1696, 1698, 1700, 1702, 1704, 1706, 1708, 1710, 1712, 1714, 1716, 1718, 1720, 1722, 1724, 1726, 1728, 1730, 1732, 1734, 1736, 1738, 1740, 1742, 1744, 1746, 1748, 1750, 1752, 1754, 1756, 1758, 1760, 1762, 1764, 1766, 1768, 1770, 1772, 1774, 1776, 1778, 1780, 1782, 1784, 1786, 1788, 1790, 1792, 1794, 1796, 1798, 1800, 1802, 1804, 1806, 1808, 1810, 1812, 1814, 1816] (by decide +kernel) (by decide +kernel)
abbrev mm_cl : List vw_C := [(R_TF, F_TF, 12), (R_Network, F_Network, 2), (R_Layer, F_Layer, 15), (R_Machine, F_Machine, 14), (R_Reaches, F_Reaches, 4), (R_Run, F_Run, 10), (R_Text, F_Text, 7), (R_Assembler, F_Assembler, 4), (R_NetworkReader, F_NetworkReader, 9), (R_Compiler, F_Compiler, 17), (R_Line, F_Line, 2), (R_Md, F_Md, 69)]
-- class 0: TensorForge
-- class 1: TensorForge$Network
-- class 2: TensorForge$Layer
-- class 3: TensorForge$Machine
-- class 4: TensorForge$Reaches
-- class 5: TensorForge$Run
-- class 6: TensorForge$Text
-- class 7: TensorForge$Assembler
-- class 8: TensorForge$NetworkReader
-- class 9: TensorForge$Compiler
-- class 10: TensorForge$Line
-- class 11: TensorForgeModel
abbrev mm_ty : List FieldType := [.object "TensorForge$Layer", .long, .byte, .int, .object "TensorForge$Reaches", .char, .boolean]
/-! string constants: the texts; (class, entry, number of the text) -/
def mm_txt : List String := ["cells", "weights", "clear", "sums", "multiply", "combine", "narrow", "store", "wait", "?", "at", "by", "x", "a", "b", "step", "n", "pop", "before", "behind", "push", "conv", "pool", "add", "outputs", "edge", "shift", "relu", "as", "input", "a side is 2 to 8", "four bytes aren't there", "there is no such buffer", "there is no such place", "there is no such word", "a program has at most 600 words", "there are not so many words", "there is no such field", "a byte is no sign of a text", "a text has at most 1500 signs", "there are not so many signs", "there is no such word or sign", "pop before", "pop behind", "push before", "push behind", "nothing such is told of a run", "no program has run", "the program had no such word", "nothing such is told of an instruction", "an input can't have this form", "there is no such tensor", "a layer can't be so", "there is no room for the layer", "nothing such is told of a tensor", "the network has no room in a program", "there is no such line or sign", "a tensor would end beyond 2048", "there is no such unit or cycle"]
def mm_strs : List (String × Nat × Nat) := [("TensorForge$Words", 35, 0), ("TensorForge$Words", 37, 1), ("TensorForge$Words", 39, 2), ("TensorForge$Words", 41, 3), ("TensorForge$Words", 43, 4), ("TensorForge$Words", 45, 5), ("TensorForge$Words", 47, 6), ("TensorForge$Words", 49, 7), ("TensorForge$Words", 51, 8), ("TensorForge$Words", 53, 9), ("TensorForge$Assembler", 65, 10), ("TensorForge$Assembler", 71, 11), ("TensorForge$Assembler", 73, 12), ("TensorForge$Assembler", 78, 13), ("TensorForge$Assembler", 80, 14), ("TensorForge$Assembler", 82, 15), ("TensorForge$Assembler", 84, 16), ("TensorForge$Assembler", 86, 17), ("TensorForge$Assembler", 107, 18), ("TensorForge$Assembler", 109, 19), ("TensorForge$Assembler", 92, 20), ("TensorForge$NetworkReader", 110, 21), ("TensorForge$NetworkReader", 114, 22), ("TensorForge$NetworkReader", 116, 23), ("TensorForge$NetworkReader", 142, 11), ("TensorForge$NetworkReader", 144, 24), ("TensorForge$NetworkReader", 146, 10), ("TensorForge$NetworkReader", 148, 15), ("TensorForge$NetworkReader", 150, 25), ("TensorForge$NetworkReader", 152, 26), ("TensorForge$NetworkReader", 154, 27), ("TensorForge$NetworkReader", 156, 28), ("TensorForge$NetworkReader", 85, 29), ("TensorForge$NetworkReader", 97, 12), ("TensorForge", 89, 30), ("TensorForge", 103, 31), ("TensorForge", 112, 32), ("TensorForge", 118, 33), ("TensorForge", 124, 34), ("TensorForge", 128, 35), ("TensorForge", 131, 36), ("TensorForge", 135, 37), ("TensorForge", 149, 38), ("TensorForge", 154, 39), ("TensorForge", 160, 40), ("TensorForge", 172, 41), ("TensorForge$Line", 33, 10), ("TensorForge$Line", 43, 11), ("TensorForge$Line", 120, 12), ("TensorForge$Line", 49, 13), ("TensorForge$Line", 51, 14), ("TensorForge$Line", 53, 15), ("TensorForge$Line", 55, 16), ("TensorForge$Line", 57, 42), ("TensorForge$Line", 63, 43), ("TensorForge$Line", 65, 44), ("TensorForge$Line", 67, 45), ("TensorForge", 189, 46), ("TensorForge", 335, 47), ("TensorForge", 195, 48), ("TensorForge", 197, 49), ("TensorForge", 214, 50), ("TensorForge", 254, 51), ("TensorForge", 329, 52), ("TensorForge", 331, 53), ("TensorForge", 256, 54), ("TensorForge", 286, 55), ("TensorForge", 299, 56), ("TensorForge$Line", 78, 21), ("TensorForge$Line", 93, 24), ("TensorForge$Line", 101, 22), ("TensorForge$Line", 103, 23), ("TensorForge$Line", 112, 29), ("TensorForge$Line", 131, 25), ("TensorForge$Line", 135, 26), ("TensorForge$Line", 140, 27), ("TensorForge", 309, 57), ("TensorForge", 338, 58)]
def mm_byt : List (List Int32) := [[99, 101, 108, 108, 115], [119, 101, 105, 103, 104, 116, 115], [99, 108, 101, 97, 114], [115, 117, 109, 115], [109, 117, 108, 116, 105, 112, 108, 121], [99, 111, 109, 98, 105, 110, 101], [110, 97, 114, 114, 111, 119], [115, 116, 111, 114, 101], [119, 97, 105, 116], [63], [97, 116], [98, 121], [120], [97], [98], [115, 116, 101, 112], [110], [112, 111, 112], [98, 101, 102, 111, 114, 101], [98, 101, 104, 105, 110, 100], [112, 117, 115, 104], [99, 111, 110, 118], [112, 111, 111, 108], [97, 100, 100], [111, 117, 116, 112, 117, 116, 115], [101, 100, 103, 101], [115, 104, 105, 102, 116], [114, 101, 108, 117], [97, 115], [105, 110, 112, 117, 116], [97, 32, 115, 105, 100, 101, 32, 105, 115, 32, 50, 32, 116, 111, 32, 56], [102, 111, 117, 114, 32, 98, 121, 116, 101, 115, 32, 97, 114, 101, 110, 39, 116, 32, 116, 104, 101, 114, 101], [116, 104, 101, 114, 101, 32, 105, 115, 32, 110, 111, 32, 115, 117, 99, 104, 32, 98, 117, 102, 102, 101, 114], [116, 104, 101, 114, 101, 32, 105, 115, 32, 110, 111, 32, 115, 117, 99, 104, 32, 112, 108, 97, 99, 101], [116, 104, 101, 114, 101, 32, 105, 115, 32, 110, 111, 32, 115, 117, 99, 104, 32, 119, 111, 114, 100], [97, 32, 112, 114, 111, 103, 114, 97, 109, 32, 104, 97, 115, 32, 97, 116, 32, 109, 111, 115, 116, 32, 54, 48, 48, 32, 119, 111, 114, 100, 115], [116, 104, 101, 114, 101, 32, 97, 114, 101, 32, 110, 111, 116, 32, 115, 111, 32, 109, 97, 110, 121, 32, 119, 111, 114, 100, 115], [116, 104, 101, 114, 101, 32, 105, 115, 32, 110, 111, 32, 115, 117, 99, 104, 32, 102, 105, 101, 108, 100], [97, 32, 98, 121, 116, 101, 32, 105, 115, 32, 110, 111, 32, 115, 105, 103, 110, 32, 111, 102, 32, 97, 32, 116, 101, 120, 116], [97, 32, 116, 101, 120, 116, 32, 104, 97, 115, 32, 97, 116, 32, 109, 111, 115, 116, 32, 49, 53, 48, 48, 32, 115, 105, 103, 110, 115], [116, 104, 101, 114, 101, 32, 97, 114, 101, 32, 110, 111, 116, 32, 115, 111, 32, 109, 97, 110, 121, 32, 115, 105, 103, 110, 115], [116, 104, 101, 114, 101, 32, 105, 115, 32, 110, 111, 32, 115, 117, 99, 104, 32, 119, 111, 114, 100, 32, 111, 114, 32, 115, 105, 103, 110], [112, 111, 112, 32, 98, 101, 102, 111, 114, 101], [112, 111, 112, 32, 98, 101, 104, 105, 110, 100], [112, 117, 115, 104, 32, 98, 101, 102, 111, 114, 101], [112, 117, 115, 104, 32, 98, 101, 104, 105, 110, 100], [110, 111, 116, 104, 105, 110, 103, 32, 115, 117, 99, 104, 32, 105, 115, 32, 116, 111, 108, 100, 32, 111, 102, 32, 97, 32, 114, 117, 110], [110, 111, 32, 112, 114, 111, 103, 114, 97, 109, 32, 104, 97, 115, 32, 114, 117, 110], [116, 104, 101, 32, 112, 114, 111, 103, 114, 97, 109, 32, 104, 97, 100, 32, 110, 111, 32, 115, 117, 99, 104, 32, 119, 111, 114, 100], [110, 111, 116, 104, 105, 110, 103, 32, 115, 117, 99, 104, 32, 105, 115, 32, 116, 111, 108, 100, 32, 111, 102, 32, 97, 110, 32, 105, 110, 115, 116, 114, 117, 99, 116, 105, 111, 110], [97, 110, 32, 105, 110, 112, 117, 116, 32, 99, 97, 110, 39, 116, 32, 104, 97, 118, 101, 32, 116, 104, 105, 115, 32, 102, 111, 114, 109], [116, 104, 101, 114, 101, 32, 105, 115, 32, 110, 111, 32, 115, 117, 99, 104, 32, 116, 101, 110, 115, 111, 114], [97, 32, 108, 97, 121, 101, 114, 32, 99, 97, 110, 39, 116, 32, 98, 101, 32, 115, 111], [116, 104, 101, 114, 101, 32, 105, 115, 32, 110, 111, 32, 114, 111, 111, 109, 32, 102, 111, 114, 32, 116, 104, 101, 32, 108, 97, 121, 101, 114], [110, 111, 116, 104, 105, 110, 103, 32, 115, 117, 99, 104, 32, 105, 115, 32, 116, 111, 108, 100, 32, 111, 102, 32, 97, 32, 116, 101, 110, 115, 111, 114], [116, 104, 101, 32, 110, 101, 116, 119, 111, 114, 107, 32, 104, 97, 115, 32, 110, 111, 32, 114, 111, 111, 109, 32, 105, 110, 32, 97, 32, 112, 114, 111, 103, 114, 97, 109], [116, 104, 101, 114, 101, 32, 105, 115, 32, 110, 111, 32, 115, 117, 99, 104, 32, 108, 105, 110, 101, 32, 111, 114, 32, 115, 105, 103, 110], [97, 32, 116, 101, 110, 115, 111, 114, 32, 119, 111, 117, 108, 100, 32, 101, 110, 100, 32, 98, 101, 121, 111, 110, 100, 32, 50, 48, 52, 56], [116, 104, 101, 114, 101, 32, 105, 115, 32, 110, 111, 32, 115, 117, 99, 104, 32, 117, 110, 105, 116, 32, 111, 114, 32, 99, 121, 99, 108, 101]]
def mm_len : List Nat := [5, 7, 5, 4, 8, 7, 6, 5, 4, 1, 2, 2, 1, 1, 1, 4, 1, 3, 6, 6, 4, 4, 4, 3, 7, 4, 5, 4, 2, 5, 16, 23, 23, 22, 21, 31, 27, 22, 27, 29, 27, 29, 10, 10, 11, 11, 29, 18, 28, 38, 29, 23, 19, 30, 32, 36, 29, 30, 30]
def mm_nw : List Cond := [(Cond.castable "java/lang/IllegalArgumentException" "java/lang/IllegalArgumentException"),
  (Cond.declares ({ cls := "java/lang/RuntimeException", name := "<init>", desc := "()V" } : MethodName)),
  (Cond.declares ({ cls := "java/lang/RuntimeException", name := "<init>", desc := "(Ljava/lang/String;)V" } : MethodName)),
  (Cond.declares ({ cls := "java/lang/Exception", name := "<init>", desc := "()V" } : MethodName)),
  (Cond.declares ({ cls := "java/lang/Exception", name := "<init>", desc := "(Ljava/lang/String;)V" } : MethodName)),
  (Cond.declares ({ cls := "java/lang/Throwable", name := "<init>", desc := "()V" } : MethodName)),
  (Cond.declares ({ cls := "java/lang/Throwable", name := "<init>", desc := "(Ljava/lang/String;)V" } : MethodName)),
  (Cond.castable "java/lang/IndexOutOfBoundsException" "java/lang/IndexOutOfBoundsException"),
  (Cond.castable "java/lang/UnsupportedOperationException" "java/lang/UnsupportedOperationException"),
  (Cond.castable "java/lang/IllegalStateException" "java/lang/IllegalStateException")]
theorem mm_nw_ok : ∀ w ∈ mm_nw, (∃ C T, w = Cond.castable C T) ∨ ∃ x, w = Cond.declares x := by
  intro w hw
  simp only [mm_nw, List.mem_cons, List.not_mem_nil, or_false] at hw
  rcases hw with rfl | rfl | rfl | rfl | rfl | rfl | rfl | rfl | rfl | rfl <;> first | exact Or.inl ⟨_, _, rfl⟩ | exact Or.inr ⟨_, rfl⟩
end
section
/-! A heap of places: our own cells are numbered from 1000 on in the order in which they are made, cells that were there before have numbers below 1000; a cell's references are such numbers. -/
abbrev mm_E : Type := (Nat × vp_A) ⊕ (Nat × List Value)
abbrev mm_M : Type := Nat → Option mm_E
/-- classes and slots; array classes by the number of their type; where our cells begin; the addresses of the old cells -/
abbrev mm_G : Type := va_G × (Nat → ClassId) × Nat × (Nat → Nat)
def mm_ad (g : mm_G) (a : Nat) : Nat := if a < 1000 then g.2.2.2 a else g.2.2.1 + (a - 1000)
def mm_tr (g : mm_G) (v : Value) : Value := match v with
  | .ref a => .ref (mm_ad g a)
  | v => v
def mm_trA (g : mm_G) (x : vp_A) : vp_A := match x with
  | (n, .inr (.inr (.inr (.inr f)))) => (n, .inr (.inr (.inr (.inr (fun i => (f i).map (mm_ad g))))))
  | x => x
def mm_trE (g : mm_G) (e : mm_E) : va_E := match e with
  | .inl (t, x) => .inl (g.2.1 t, mm_trA g x)
  | .inr (ci, fs) => .inr (ci, fs.map (mm_tr g))
def mm_up (M : mm_M) (a : Nat) (e : mm_E) : mm_M := fun b => if b = a then some e else M b
theorem mm_up_s {M : mm_M} {a : Nat} {e : mm_E} : mm_up M a e a = some e := by simp [mm_up]
theorem mm_up_n {M : mm_M} {a b : Nat} {e : mm_E} (h : b ≠ a) : mm_up M a e b = M b := by simp [mm_up, h]
theorem mm_ad_lt {g : mm_G} {a b : Nat} (ha : 1000 ≤ a) (h : a < b) : mm_ad g a < mm_ad g b := by
  unfold mm_ad
  rw [if_neg (by omega), if_neg (by omega)]
  omega
theorem mm_ad_inj {g : mm_G} {a b : Nat} (ha : 1000 ≤ a) (hb : 1000 ≤ b) (h : mm_ad g a = mm_ad g b) : a = b := by
  rcases Nat.lt_trichotomy a b with q | q | q
  · have := mm_ad_lt (g := g) ha q
    omega
  · exact q
  · have := mm_ad_lt (g := g) hb q
    omega
/-- the heap holds the cells: all that were made so far, in their order (some of them of no interest) -/
def mm_H (g : mm_G) (M : mm_M) (n : Nat) (H : Heap) : Prop := 1000 ≤ n ∧ H.size + 1000 = g.2.2.1 + n ∧ ∀ (a : Nat) (e : mm_E), M a = some e → 1000 ≤ a ∧ a < n ∧ va_at g.1 mm_cl (mm_ad g a, mm_trE g e) H
def mm_A (g : mm_G) : Nat → Prop := fun q => g.2.2.1 ≤ q
theorem mm_ad_A {g : mm_G} {a : Nat} (h : 1000 ≤ a) : mm_A g (mm_ad g a) := by
  unfold mm_A mm_ad
  rw [if_neg (by omega)]
  omega
theorem mm_one {D : va_G} {cl : List vw_C} {q : Nat × va_E} {H : Heap} (h : va_at D cl q H) : va_P D cl [q] H := by
  intro k r hk
  cases k with
  | zero => cases hk; exact h
  | succ k => simp at hk
theorem mm_H.P {g : mm_G} {M : mm_M} {n : Nat} {H : Heap} (h : mm_H g M n H) {a : Nat} {e : mm_E} (hm : M a = some e) : va_P g.1 mm_cl [(mm_ad g a, mm_trE g e)] H := mm_one (h.2.2 a e hm).2.2
/-- behind a write of one cell -/
theorem mm_H.set {g : mm_G} {M : mm_M} {n : Nat} {H H1 : Heap} (h : mm_H g M n H) {a : Nat} {e e1 : mm_E} (hm : M a = some e) (hz : H1.size = H.size) (ho : ∀ q : Nat, q ≠ mm_ad g a → H1[q]? = H[q]?) (hP : va_at g.1 mm_cl (mm_ad g a, mm_trE g e1) H1) : mm_H g (mm_up M a e1) n H1 := by
  refine ⟨h.1, by rw [hz]; exact h.2.1, fun b f hb => ?_⟩
  by_cases q : b = a
  · subst q
    rw [mm_up_s] at hb
    cases hb
    exact ⟨(h.2.2 b e hm).1, (h.2.2 b e hm).2.1, hP⟩
  · rw [mm_up_n q] at hb
    obtain ⟨h1, h2, h3⟩ := h.2.2 b f hb
    exact ⟨h1, h2, h3.kept (ho _ (fun z => q (mm_ad_inj h1 (h.2.2 a e hm).1 z)))⟩
theorem mm_H.end {g : mm_G} {M : mm_M} {n : Nat} {H : Heap} (h : mm_H g M n H) : mm_ad g n = H.size := by
  unfold mm_ad
  have h1 := h.1
  have h2 := h.2.1
  rw [if_neg (by omega)]
  omega
/-- behind a new cell -/
theorem mm_H.push {g : mm_G} {M : mm_M} {n : Nat} {H H1 : Heap} (h : mm_H g M n H) {e1 : mm_E} (hz : H1.size = H.size + 1) (ho : ∀ q : Nat, q < H.size → H1[q]? = H[q]?) (hP : va_at g.1 mm_cl (mm_ad g n, mm_trE g e1) H1) : mm_H g (mm_up M n e1) (n + 1) H1 := by
  have h1 := h.1
  have h2 := h.2.1
  refine ⟨by omega, by omega, fun b f hb => ?_⟩
  by_cases z : b = n
  · subst z
    rw [mm_up_s] at hb
    cases hb
    exact ⟨h1, by omega, hP⟩
  · rw [mm_up_n z] at hb
    obtain ⟨q1, q2, q3⟩ := h.2.2 b f hb
    exact ⟨q1, by omega, q3.kept (ho _ q3.lt)⟩
/-- cells of no interest come -/
theorem mm_H.more {g : mm_G} {M : mm_M} {n k : Nat} {H H1 : Heap} (h : mm_H g M n H) (hz : H1.size = H.size + k) (ho : ∀ q : Nat, q < H.size → H1[q]? = H[q]?) : mm_H g M (n + k) H1 := by
  have h1 := h.1
  have h2 := h.2.1
  refine ⟨by omega, by omega, fun b f hb => ?_⟩
  obtain ⟨q1, q2, q3⟩ := h.2.2 b f hb
  exact ⟨q1, by omega, q3.kept (ho _ q3.lt)⟩
/-- the locals: what is known of them -/
def mm_lg : List (Option Value) → Nat → Option Value
  | [], _ => none
  | a :: _, 0 => a
  | _ :: l, i + 1 => mm_lg l i
def mm_lset : List (Option Value) → Nat → Option Value → List (Option Value)
  | [], 0, v => [v]
  | [], i + 1, v => none :: mm_lset [] i v
  | _ :: l, 0, v => v :: l
  | a :: l, i + 1, v => a :: mm_lset l i v
theorem mm_lg_set : ∀ (l : List (Option Value)) (i : Nat) (v : Option Value) (j : Nat), mm_lg (mm_lset l i v) j = if j = i then v else mm_lg l j
  | [], 0, v, 0 => rfl
  | [], 0, v, j + 1 => rfl
  | [], i + 1, v, 0 => rfl
  | [], i + 1, v, j + 1 => by
    show mm_lg (mm_lset [] i v) j = _
    rw [mm_lg_set [] i v j]
    by_cases h : j = i
    · rw [if_pos h, if_pos (by omega)]
    · rw [if_neg h, if_neg (by omega)]; rfl
  | a :: l, 0, v, 0 => rfl
  | a :: l, 0, v, j + 1 => rfl
  | a :: l, i + 1, v, 0 => rfl
  | a :: l, i + 1, v, j + 1 => by
    show mm_lg (mm_lset l i v) j = _
    rw [mm_lg_set l i v j]
    by_cases h : j = i
    · rw [if_pos h, if_pos (by omega)]
    · rw [if_neg h, if_neg (by omega)]; rfl
/-- a value of two words is lost when its second word is written -/
def mm_c2 (o : Option Value) : Option Value := match o with
  | some (.long _) => none
  | some (.double _) => none
  | o => o
theorem mm_c2_of {o : Option Value} {v : Value} (h : mm_c2 o = some v) : o = some v ∧ ¬ v.category = 2 := by
  cases o with
  | none => cases h
  | some w => cases w <;> first | (cases h; done) | (cases h; exact ⟨rfl, by simp [Value.category]⟩)
def mm_st1 (ls : List (Option Value)) (i : Nat) (v : Value) : List (Option Value) := match i with
  | 0 => mm_lset ls 0 (some v)
  | i + 1 => mm_lset (mm_lset ls i (mm_c2 (mm_lg ls i))) (i + 1) (some v)
def mm_st2 (ls : List (Option Value)) (i : Nat) (v : Value) : List (Option Value) := mm_lset (mm_st1 ls i v) (i + 1) none
theorem mm_st1_of {ls : List (Option Value)} {i j : Nat} {v w : Value} (h : mm_lg (mm_st1 ls i v) j = some w) : (j = i ∧ w = v) ∨ (j ≠ i ∧ mm_lg ls j = some w ∧ ¬ (j + 1 = i ∧ w.category = 2)) := by
  cases i with
  | zero =>
    simp only [mm_st1, mm_lg_set] at h
    by_cases q : j = 0
    · rw [if_pos q] at h
      exact Or.inl ⟨q, (Option.some.inj h).symm⟩
    · rw [if_neg q] at h
      exact Or.inr ⟨q, h, fun z => by omega⟩
  | succ i =>
    simp only [mm_st1, mm_lg_set] at h
    by_cases q : j = i + 1
    · rw [if_pos q] at h
      exact Or.inl ⟨q, (Option.some.inj h).symm⟩
    · rw [if_neg q] at h
      by_cases q2 : j = i
      · rw [if_pos q2] at h
        obtain ⟨h1, h2⟩ := mm_c2_of h
        subst q2
        exact Or.inr ⟨q, h1, fun z => h2 z.2⟩
      · rw [if_neg q2] at h
        exact Or.inr ⟨q, h, fun z => by omega⟩
theorem mm_st2_of {ls : List (Option Value)} {i j : Nat} {v w : Value} (h : mm_lg (mm_st2 ls i v) j = some w) : (j = i ∧ w = v) ∨ (j ≠ i ∧ j ≠ i + 1 ∧ mm_lg ls j = some w ∧ ¬ (j + 1 = i ∧ w.category = 2)) := by
  simp only [mm_st2, mm_lg_set] at h
  by_cases q : j = i + 1
  · rw [if_pos q] at h; cases h
  · rw [if_neg q] at h
    rcases mm_st1_of h with h | ⟨h1, h2, h3⟩
    · exact Or.inl h
    · exact Or.inr ⟨h1, q, h2, h3⟩
theorem mm_tr_cat (g : mm_G) (v : Value) : (mm_tr g v).category = v.category := by cases v <;> rfl
def mm_L (g : mm_G) (nL : Nat) (ls : List (Option Value)) (lsM : Array Slot) : Prop := lsM.size = nL ∧ lv_wf lsM ∧ ∀ (i : Nat) (v : Value), mm_lg ls i = some v → lsM[i]? = some (.val (mm_tr g v))
def mm_kn (g : mm_G) (nL : Nat) (ls : List (Option Value)) : List (Nat × Value) := (List.range nL).filterMap (fun i => (mm_lg ls i).map (fun v => (i, mm_tr g v)))
theorem mm_kn_mem {g : mm_G} {nL : Nat} {ls : List (Option Value)} {q : Nat × Value} : q ∈ mm_kn g nL ls ↔ ∃ i v, i < nL ∧ mm_lg ls i = some v ∧ q = (i, mm_tr g v) := by
  unfold mm_kn
  rw [List.mem_filterMap]
  constructor
  · rintro ⟨a, ha, h⟩
    cases hm : mm_lg ls a with
    | none => rw [hm] at h; cases h
    | some e => rw [hm] at h; exact ⟨a, e, List.mem_range.mp ha, hm, (Option.some.inj h).symm⟩
  · rintro ⟨a, e, ha, hm, rfl⟩
    exact ⟨a, List.mem_range.mpr ha, by rw [hm]; rfl⟩
theorem mm_L.has {g : mm_G} {nL : Nat} {ls : List (Option Value)} {lsM : Array Slot} (h : mm_L g nL ls lsM) : lv_has lsM nL (mm_kn g nL ls) := by
  refine ⟨h.1, h.2.1, fun q hq => ?_⟩
  obtain ⟨i, v, -, hv, rfl⟩ := mm_kn_mem.mp hq
  exact h.2.2 i v hv
theorem mm_L.lt {g : mm_G} {nL : Nat} {ls : List (Option Value)} {lsM : Array Slot} (h : mm_L g nL ls lsM) {i : Nat} {v : Value} (hv : mm_lg ls i = some v) : i < nL := by
  have := lv_lt (h.2.2 i v hv)
  rw [h.1] at this
  exact this
theorem mm_L.st1 {g : mm_G} {nL i : Nat} {ls : List (Option Value)} {lsM ls1 : Array Slot} {v : Value} (h : mm_L g nL ls lsM) (h1 : lv_has ls1 nL ((i, mm_tr g v) :: (mm_kn g nL ls).filter (fun q => !(q.1 == i) && !(q.1 + 1 == i && q.2.category == 2)))) : mm_L g nL (mm_st1 ls i v) ls1 := by
  refine ⟨h1.1, h1.2.1, fun j w hw => ?_⟩
  rcases mm_st1_of hw with ⟨rfl, rfl⟩ | ⟨q1, q2, q3⟩
  · exact h1.2.2 (j, mm_tr g w) List.mem_cons_self
  · refine h1.2.2 (j, mm_tr g w) (List.mem_cons_of_mem _ (List.mem_filter.mpr ⟨mm_kn_mem.mpr ⟨j, w, h.lt q2, q2, rfl⟩, ?_⟩))
    simp only [Bool.and_eq_true, Bool.not_eq_true', beq_eq_false_iff_ne, ne_eq, Bool.and_eq_false_iff, mm_tr_cat]
    refine ⟨q1, ?_⟩
    by_cases z : j + 1 = i
    · exact Or.inr (fun z2 => q3 ⟨z, z2⟩)
    · exact Or.inl z
theorem mm_L.st2 {g : mm_G} {nL i : Nat} {ls : List (Option Value)} {lsM ls1 : Array Slot} {v : Value} (h : mm_L g nL ls lsM) (h1 : lv_has ls1 nL ((i, mm_tr g v) :: (mm_kn g nL ls).filter (fun q => !(q.1 == i) && (!(q.1 == i + 1) && !(q.1 + 1 == i && q.2.category == 2))))) : mm_L g nL (mm_st2 ls i v) ls1 := by
  refine ⟨h1.1, h1.2.1, fun j w hw => ?_⟩
  rcases mm_st2_of hw with ⟨rfl, rfl⟩ | ⟨q1, q2, q3, q4⟩
  · exact h1.2.2 (j, mm_tr g w) List.mem_cons_self
  · refine h1.2.2 (j, mm_tr g w) (List.mem_cons_of_mem _ (List.mem_filter.mpr ⟨mm_kn_mem.mpr ⟨j, w, h.lt q3, q3, rfl⟩, ?_⟩))
    simp only [Bool.and_eq_true, Bool.not_eq_true', beq_eq_false_iff_ne, ne_eq, Bool.and_eq_false_iff, mm_tr_cat]
    refine ⟨q1, q2, ?_⟩
    by_cases z : j + 1 = i
    · exact Or.inr (fun z2 => q4 ⟨z, z2⟩)
    · exact Or.inl z
theorem mm_L.less {g : mm_G} {nL : Nat} {ls ls1 : List (Option Value)} {lsM : Array Slot} (h : mm_L g nL ls lsM) (hs : ∀ (i : Nat) (v : Value), mm_lg ls1 i = some v → mm_lg ls i = some v) : mm_L g nL ls1 lsM := ⟨h.1, h.2.1, fun i v hv => h.2.2 i v (hs i v hv)⟩
end
section
/-! The judgement: from this place of the method, with these locals, this stack and these cells, the method comes to an end with Q. -/
abbrev mm_Y : Type := MethodName × ByteArray × Nat × Option FieldType
/-- an end: an answer, or the number of an exception's class; the cells; how many -/
abbrev mm_O : Type := (Option Value ⊕ Nat) × mm_M × Nat
def mm_xn (k : Nat) : String := match k with
  | 0 => "java/lang/IllegalArgumentException"
  | 1 => "java/lang/IndexOutOfBoundsException"
  | 2 => "java/lang/UnsupportedOperationException"
  | _ => "java/lang/IllegalStateException"
def mm_Xc (k : Nat) (x : Addr) (t : State) : Prop := ∃ cell : Cell, t.heap[x]? = some cell ∧ cell.vm.isStatics = false ∧ t.vm.findClass (mm_xn k) = some cell.cls
def mm_tys (g : mm_G) : List (ClassId × FieldType) := mm_ty.mapIdx (fun i t => (g.2.1 i, t))
theorem mm_tys_at {g : mm_G} {t : Nat} {ty : FieldType} (h : mm_ty[t]? = some ty) : (mm_tys g)[t]? = some (g.2.1 t, ty) := by
  unfold mm_tys
  rw [List.getElem?_mapIdx, h]
  rfl
/-- what holds all the time: classes and array classes; the static tables -/
def mm_sta : List (String × String × List Int32) := [("TensorForge$Reaches", "SIZES", [4096, 512, 512, 256, 256]), ("TensorForge$Words", "LOWEST_BIT", [0, 4, 5, 6, 7, 8, 20, 26, 31, 40, 49, 59]), ("TensorForge$Words", "MOST", [15, 1, 1, 1, 1, 4095, 63, 31, 511, 511, 1023, 31]), ("TensorForge$Words", "NAMED", [0, 0x5E0, 0x5E0, 0x1C0, 0x5E0, 0xFC0, 0xBC0, 0xBC0, 0x5E0, 0x800])]
def mm_Ist (g : mm_G) (U : State) (H : Heap) : Prop := ∀ (i : Nat) (q : String × String × List Int32), mm_sta[i]? = some q → va_Z q.1 q.2.1 "[I" (.ref (g.2.2.2 i)) (mm_A g) U H ∧ va_T .int (g.2.2.2 i) q.2.2.length (fun j => .int (q.2.2.getD j 0)) (mm_A g) U H
/-- what a throw needs beside the good words -/
def mm_Iex (g : mm_G) (U : State) (H : Heap) : Prop := (∀ w ∈ mm_nw, va_Nw w U) ∧ va_Zq "java/lang/Throwable" "UNASSIGNED_STACK" "[Ljava/lang/StackTraceElement;" (mm_A g) U H ∧ va_Zq "java/lang/Throwable" "SUPPRESSED_SENTINEL" "Ljava/util/List;" (mm_A g) U H ∧ ∀ a b : Nat, a < 4 → b < 4 → a ≠ b → va_Nc (mm_xn a) (mm_xn b) U
/-- the texts -/
def mm_Itx (g : mm_G) (U : State) (H : Heap) : Prop := (∀ q ∈ mm_strs, vk_R q.1 q.2.1 (mm_txt.getD q.2.2 "") (g.2.2.2 (100 + q.2.2)) U) ∧ vk_S mm_txt.length mm_len mm_byt (fun i => g.2.2.2 (100 + i)) (fun i => g.2.2.2 (500 + i)) (mm_A g) U H
def mm_I (g : mm_G) (U : State) (H : Heap) : Prop := va_K g.1 mm_cl (mm_tys g) U ∧ mm_Ist g U H ∧ mm_Iex g U H ∧ mm_Itx g U H
theorem mm_I.moved {g : mm_G} {u U : State} {H : Heap} (hW : u.WarmedH U.vm) (h : mm_I g u H) : mm_I g U H := by
  have hvm := hW.alike
  refine ⟨va_K.moved hvm h.1, fun i q hq => ⟨va_Z.moved hvm (h.2.1 i q hq).1, va_T.moved hvm (h.2.1 i q hq).2⟩, ⟨fun w hw => ?_, va_Zq.moved hvm h.2.2.1.2.1, va_Zq.moved hvm h.2.2.1.2.2.1, fun a b ha hb hab => (h.2.2.1.2.2.2 a b ha hb hab).moved hvm⟩, fun q hq => (h.2.2.2.1 q hq).warm hW, h.2.2.2.2.moved hvm⟩
  have h1 := h.2.2.1.1 w hw
  rcases mm_nw_ok w hw with ⟨C, T, rfl⟩ | ⟨x, rfl⟩
  · exact va_Nw.warmC hW h1
  · exact va_Nw.warmD hW h1
theorem mm_I.kept {g : mm_G} {U : State} {H H1 : Heap} (h : mm_I g U H) (hq : ∀ a : Nat, a < H.size → ¬ mm_A g a → H1[a]? = H[a]?) : mm_I g U H1 := ⟨h.1, fun i q hi => ⟨(h.2.1 i q hi).1.kept hq, (h.2.1 i q hi).2.kept hq⟩, ⟨h.2.2.1.1, h.2.2.1.2.1.kept hq, h.2.2.1.2.2.1.kept hq, h.2.2.1.2.2.2⟩, h.2.2.2.1, h.2.2.2.2.kept hq⟩
def mm_Cx (g : mm_G) (Y : mm_Y) (p : Program) (s : State) (m : MethodId) (args : Array Value) (meth : Method) (c : Code) : Prop :=
  p.tables.exec = Jvm.exec ∧ c.code = Y.2.1 ∧ c.maxLocals = Y.2.2.1 ∧ meth.sig.returnType = Y.2.2.2 ∧ s.vm.findClass Y.1.cls = some m.cls ∧ (∀ w ∈ mm_tb, w.before args s = true) ∧ meth.locks = false ∧ (meth.name = Y.1.name ∧ s.methodNamed? Y.1 = some m) ∧ mm_I g s s.heap ∧ g.2.2.1 ≤ s.heap.size
/-- how a method ends -/
def mm_Po (g : mm_G) (mc ms : Nat) (s : State) (Q : mm_O → Prop) (o : Outcome) (t : State) : Prop := ∃ (u : mm_O) (L : List Loc), Q u ∧ mm_H g u.2.1 u.2.2 t.heap ∧ (∀ q : Nat, q < g.2.2.1 → t.heap[q]? = s.heap[q]?) ∧ (∀ q ∈ L, mm_A g q.base) ∧ s.WarmedH t.vm ∧ s.sameButNew ({ t with vm := s.vm } : State) L mc ms ∧ (match u.1 with
  | .inl v => o = .returned (v.map (mm_tr g))
  | .inr k => ∃ x : Addr, o = .threw x ∧ mm_Xc k x t)
def mm_Fin (g : mm_G) (mc ms : Nat) (below : List Frame) (s : State) (Q : mm_O → Prop) (t : State) : Prop := ∃ o, t.status = .running ∧ Ended t below o ∧ mm_Po g mc ms s Q o t
def mm_Ev (g : mm_G) (l : Launch) (Y : mm_Y) (rm : Room) (Q : mm_O → Prop) (pc : Nat) (ls : List (Option Value)) (st : List Value) (M : mm_M) (n k j : Nat) : Prop :=
  ∀ (p : Program) (e : Env) (s : State) (m : MethodId) (args : Array Value) (below : List Frame) (meth : Method) (c : Code) (H : Heap) (locs : List Loc) (lsM : Array Slot),
    mm_Cx g Y p s m args meth c → mm_H g M n H → va_S (mm_A g) s.heap H locs → mm_L g Y.2.2.1 ls lsM → W p l e rm s m args below meth c H locs k j (mm_Fin g rm.cells rm.slots below s Q) (F0 m pc lsM (st.map (mm_tr g)))
section MMEV
variable {g : mm_G} {l : Launch} {Y : mm_Y} {rm : Room} {Q : mm_O → Prop} {pc : Nat} {ls : List (Option Value)} {st : List Value} {M : mm_M} {n k j : Nat}

theorem mm_iconst {z : Int} {v : Int32} (hv : Int32.ofInt z = v) (hd : decode Y.2.1 pc = .ok (.iconst z, 1)) (kk : mm_Ev g l Y rm Q (pc + 1) ls (.int v :: st) M n k j) : mm_Ev g l Y rm Q pc ls (st) M n k j := by
  intro p e s m args below meth c H locs lsM hC hH hS hL
  exact lv_iconst hC.1 hC.2.1 hd hv (kk p e s m args below meth c H locs lsM hC hH hS hL)
theorem mm_bipush {z : Int} {v : Int32} (hv : (Int8.ofInt z).toInt32 = v) (hd : decode Y.2.1 pc = .ok (.bipush z, 2)) (kk : mm_Ev g l Y rm Q (pc + 2) ls (.int v :: st) M n k j) : mm_Ev g l Y rm Q pc ls (st) M n k j := by
  intro p e s m args below meth c H locs lsM hC hH hS hL
  exact lv_bipush hC.1 hC.2.1 hd hv (kk p e s m args below meth c H locs lsM hC hH hS hL)
theorem mm_sipush {z : Int} {v : Int32} (hv : (Int16.ofInt z).toInt32 = v) (hd : decode Y.2.1 pc = .ok (.sipush z, 3)) (kk : mm_Ev g l Y rm Q (pc + 3) ls (.int v :: st) M n k j) : mm_Ev g l Y rm Q pc ls (st) M n k j := by
  intro p e s m args below meth c H locs lsM hC hH hS hL
  exact lv_sipush hC.1 hC.2.1 hd hv (kk p e s m args below meth c H locs lsM hC hH hS hL)
theorem mm_lconst {z : Fin 2} {v : Int64} (hv : Int64.ofNat (z : Nat) = v) (hd : decode Y.2.1 pc = .ok (.lconst z, 1)) (kk : mm_Ev g l Y rm Q (pc + 1) ls (.long v :: st) M n k j) : mm_Ev g l Y rm Q pc ls (st) M n k j := by
  intro p e s m args below meth c H locs lsM hC hH hS hL
  exact lv_lconst hC.1 hC.2.1 hd hv (kk p e s m args below meth c H locs lsM hC hH hS hL)
theorem mm_iload_n {q : Fin 4} {x : Int32} (hv : mm_lg ls (q : Nat) = some (.int x)) (hd : decode Y.2.1 pc = .ok (.iload_n q, 1)) (kk : mm_Ev g l Y rm Q (pc + 1) ls (.int x :: st) M n k j) : mm_Ev g l Y rm Q pc ls (st) M n k j := by
  intro p e s m args below meth c H locs lsM hC hH hS hL
  exact lv_iload_n hC.1 hC.2.1 hd rfl (hL.2.2 _ _ hv) (kk p e s m args below meth c H locs lsM hC hH hS hL)
theorem mm_iload {i : Nat} {x : Int32} (hv : mm_lg ls i = some (.int x)) (hd : decode Y.2.1 pc = .ok (.iload i, 2)) (kk : mm_Ev g l Y rm Q (pc + 2) ls (.int x :: st) M n k j) : mm_Ev g l Y rm Q pc ls (st) M n k j := by
  intro p e s m args below meth c H locs lsM hC hH hS hL
  exact lv_iload hC.1 hC.2.1 hd (hL.2.2 _ _ hv) (kk p e s m args below meth c H locs lsM hC hH hS hL)
theorem mm_lload_n {q : Fin 4} {x : Int64} (hv : mm_lg ls (q : Nat) = some (.long x)) (hd : decode Y.2.1 pc = .ok (.lload_n q, 1)) (kk : mm_Ev g l Y rm Q (pc + 1) ls (.long x :: st) M n k j) : mm_Ev g l Y rm Q pc ls (st) M n k j := by
  intro p e s m args below meth c H locs lsM hC hH hS hL
  exact lv_lload_n hC.1 hC.2.1 hd rfl (hL.2.2 _ _ hv) (kk p e s m args below meth c H locs lsM hC hH hS hL)
theorem mm_lload {i : Nat} {x : Int64} (hv : mm_lg ls i = some (.long x)) (hd : decode Y.2.1 pc = .ok (.lload i, 2)) (kk : mm_Ev g l Y rm Q (pc + 2) ls (.long x :: st) M n k j) : mm_Ev g l Y rm Q pc ls (st) M n k j := by
  intro p e s m args below meth c H locs lsM hC hH hS hL
  exact lv_lload hC.1 hC.2.1 hd (hL.2.2 _ _ hv) (kk p e s m args below meth c H locs lsM hC hH hS hL)
theorem mm_aload_n {q : Fin 4} {x : Nat} (hv : mm_lg ls (q : Nat) = some (.ref x)) (hd : decode Y.2.1 pc = .ok (.aload_n q, 1)) (kk : mm_Ev g l Y rm Q (pc + 1) ls (.ref x :: st) M n k j) : mm_Ev g l Y rm Q pc ls (st) M n k j := by
  intro p e s m args below meth c H locs lsM hC hH hS hL
  exact lv_aload_n hC.1 hC.2.1 hd rfl (hL.2.2 _ _ hv) (kk p e s m args below meth c H locs lsM hC hH hS hL)
theorem mm_aload {i : Nat} {x : Nat} (hv : mm_lg ls i = some (.ref x)) (hd : decode Y.2.1 pc = .ok (.aload i, 2)) (kk : mm_Ev g l Y rm Q (pc + 2) ls (.ref x :: st) M n k j) : mm_Ev g l Y rm Q pc ls (st) M n k j := by
  intro p e s m args below meth c H locs lsM hC hH hS hL
  exact lv_aload hC.1 hC.2.1 hd (hL.2.2 _ _ hv) (kk p e s m args below meth c H locs lsM hC hH hS hL)
theorem mm_istore_n {q : Fin 4} {x : Int32} {ls1 : List (Option Value)} (hd : decode Y.2.1 pc = .ok (.istore_n q, 1)) (hn : ((q : Nat) < Y.2.2.1)) (hl : mm_st1 ls (q : Nat) (.int x) = ls1) (kk : mm_Ev g l Y rm Q (pc + 1) ls1 st M n k j) : mm_Ev g l Y rm Q pc ls (.int x :: st) M n k j := by
  intro p e s m args below meth c H locs lsM hC hH hS hL
  subst hl
  exact lv_istore_n hC.1 hC.2.1 hd rfl hL.has hn rfl (fun ls2 h2 => kk p e s m args below meth c H locs ls2 hC hH hS (hL.st1 (v := .int x) h2))
theorem mm_istore {i : Nat} {x : Int32} {ls1 : List (Option Value)} (hd : decode Y.2.1 pc = .ok (.istore i, 2)) (hn : (i < Y.2.2.1)) (hl : mm_st1 ls i (.int x) = ls1) (kk : mm_Ev g l Y rm Q (pc + 2) ls1 st M n k j) : mm_Ev g l Y rm Q pc ls (.int x :: st) M n k j := by
  intro p e s m args below meth c H locs lsM hC hH hS hL
  subst hl
  exact lv_istore hC.1 hC.2.1 hd hL.has hn rfl (fun ls2 h2 => kk p e s m args below meth c H locs ls2 hC hH hS (hL.st1 (v := .int x) h2))
theorem mm_lstore_n {q : Fin 4} {x : Int64} {ls1 : List (Option Value)} (hd : decode Y.2.1 pc = .ok (.lstore_n q, 1)) (hn : ((q : Nat) + 1 < Y.2.2.1)) (hl : mm_st2 ls (q : Nat) (.long x) = ls1) (kk : mm_Ev g l Y rm Q (pc + 1) ls1 st M n k j) : mm_Ev g l Y rm Q pc ls (.long x :: st) M n k j := by
  intro p e s m args below meth c H locs lsM hC hH hS hL
  subst hl
  exact lv_lstore_n hC.1 hC.2.1 hd rfl hL.has hn rfl (fun ls2 h2 => kk p e s m args below meth c H locs ls2 hC hH hS (hL.st2 (v := .long x) h2))
theorem mm_lstore {i : Nat} {x : Int64} {ls1 : List (Option Value)} (hd : decode Y.2.1 pc = .ok (.lstore i, 2)) (hn : (i + 1 < Y.2.2.1)) (hl : mm_st2 ls i (.long x) = ls1) (kk : mm_Ev g l Y rm Q (pc + 2) ls1 st M n k j) : mm_Ev g l Y rm Q pc ls (.long x :: st) M n k j := by
  intro p e s m args below meth c H locs lsM hC hH hS hL
  subst hl
  exact lv_lstore hC.1 hC.2.1 hd hL.has hn rfl (fun ls2 h2 => kk p e s m args below meth c H locs ls2 hC hH hS (hL.st2 (v := .long x) h2))
theorem mm_astore_n {q : Fin 4} {x : Nat} {ls1 : List (Option Value)} (hd : decode Y.2.1 pc = .ok (.astore_n q, 1)) (hn : ((q : Nat) < Y.2.2.1)) (hl : mm_st1 ls (q : Nat) (.ref x) = ls1) (kk : mm_Ev g l Y rm Q (pc + 1) ls1 st M n k j) : mm_Ev g l Y rm Q pc ls (.ref x :: st) M n k j := by
  intro p e s m args below meth c H locs lsM hC hH hS hL
  subst hl
  exact lv_astore_n hC.1 hC.2.1 hd rfl hL.has hn rfl (fun ls2 h2 => kk p e s m args below meth c H locs ls2 hC hH hS (hL.st1 (v := .ref x) h2))
theorem mm_astore {i : Nat} {x : Nat} {ls1 : List (Option Value)} (hd : decode Y.2.1 pc = .ok (.astore i, 2)) (hn : (i < Y.2.2.1)) (hl : mm_st1 ls i (.ref x) = ls1) (kk : mm_Ev g l Y rm Q (pc + 2) ls1 st M n k j) : mm_Ev g l Y rm Q pc ls (.ref x :: st) M n k j := by
  intro p e s m args below meth c H locs lsM hC hH hS hL
  subst hl
  exact lv_astore hC.1 hC.2.1 hd hL.has hn rfl (fun ls2 h2 => kk p e s m args below meth c H locs ls2 hC hH hS (hL.st1 (v := .ref x) h2))
theorem mm_iinc {i : Nat} {z : Int} {x v : Int32} {ls1 : List (Option Value)} (hd : decode Y.2.1 pc = .ok (.iinc i z, 3)) (hg : mm_lg ls i = some (.int x)) (hv : x + Int32.ofInt z = v) (hl : mm_st1 ls i (.int v) = ls1) (kk : mm_Ev g l Y rm Q (pc + 3) ls1 st M n k j) : mm_Ev g l Y rm Q pc ls st M n k j := by
  intro p e s m args below meth c H locs lsM hC hH hS hL
  subst hl
  obtain ⟨q, hq⟩ := List.getElem?_of_mem (mm_kn_mem.mpr ⟨i, .int x, hL.lt hg, hg, rfl⟩)
  exact lv_iinc hC.1 hC.2.1 hd hL.has hq hv (hL.lt hg) rfl (fun ls2 h2 => kk p e s m args below meth c H locs ls2 hC hH hS (hL.st1 (v := .int v) h2))
theorem mm_iadd {x y : Int32} (hd : decode Y.2.1 pc = .ok (.iadd, 1)) (kk : mm_Ev g l Y rm Q (pc + 1) ls (.int (x + y) :: st) M n k j) : mm_Ev g l Y rm Q pc ls (.int y :: .int x :: st) M n k j := by
  intro p e s m args below meth c H locs lsM hC hH hS hL
  exact lv_iadd hC.1 hC.2.1 hd (kk p e s m args below meth c H locs lsM hC hH hS hL)
theorem mm_isub {x y : Int32} (hd : decode Y.2.1 pc = .ok (.isub, 1)) (kk : mm_Ev g l Y rm Q (pc + 1) ls (.int (x - y) :: st) M n k j) : mm_Ev g l Y rm Q pc ls (.int y :: .int x :: st) M n k j := by
  intro p e s m args below meth c H locs lsM hC hH hS hL
  exact lv_isub hC.1 hC.2.1 hd (kk p e s m args below meth c H locs lsM hC hH hS hL)
theorem mm_imul {x y : Int32} (hd : decode Y.2.1 pc = .ok (.imul, 1)) (kk : mm_Ev g l Y rm Q (pc + 1) ls (.int (x * y) :: st) M n k j) : mm_Ev g l Y rm Q pc ls (.int y :: .int x :: st) M n k j := by
  intro p e s m args below meth c H locs lsM hC hH hS hL
  exact lv_imul hC.1 hC.2.1 hd (kk p e s m args below meth c H locs lsM hC hH hS hL)
theorem mm_iand {x y : Int32} (hd : decode Y.2.1 pc = .ok (.iand, 1)) (kk : mm_Ev g l Y rm Q (pc + 1) ls (.int (x &&& y) :: st) M n k j) : mm_Ev g l Y rm Q pc ls (.int y :: .int x :: st) M n k j := by
  intro p e s m args below meth c H locs lsM hC hH hS hL
  exact lv_iand hC.1 hC.2.1 hd (kk p e s m args below meth c H locs lsM hC hH hS hL)
theorem mm_ior {x y : Int32} (hd : decode Y.2.1 pc = .ok (.ior, 1)) (kk : mm_Ev g l Y rm Q (pc + 1) ls (.int (x ||| y) :: st) M n k j) : mm_Ev g l Y rm Q pc ls (.int y :: .int x :: st) M n k j := by
  intro p e s m args below meth c H locs lsM hC hH hS hL
  exact lv_ior hC.1 hC.2.1 hd (kk p e s m args below meth c H locs lsM hC hH hS hL)
theorem mm_ixor {x y : Int32} (hd : decode Y.2.1 pc = .ok (.ixor, 1)) (kk : mm_Ev g l Y rm Q (pc + 1) ls (.int (x ^^^ y) :: st) M n k j) : mm_Ev g l Y rm Q pc ls (.int y :: .int x :: st) M n k j := by
  intro p e s m args below meth c H locs lsM hC hH hS hL
  exact lv_ixor hC.1 hC.2.1 hd (kk p e s m args below meth c H locs lsM hC hH hS hL)
theorem mm_ladd {x y : Int64} (hd : decode Y.2.1 pc = .ok (.ladd, 1)) (kk : mm_Ev g l Y rm Q (pc + 1) ls (.long (x + y) :: st) M n k j) : mm_Ev g l Y rm Q pc ls (.long y :: .long x :: st) M n k j := by
  intro p e s m args below meth c H locs lsM hC hH hS hL
  exact lv_ladd hC.1 hC.2.1 hd (kk p e s m args below meth c H locs lsM hC hH hS hL)
theorem mm_lsub {x y : Int64} (hd : decode Y.2.1 pc = .ok (.lsub, 1)) (kk : mm_Ev g l Y rm Q (pc + 1) ls (.long (x - y) :: st) M n k j) : mm_Ev g l Y rm Q pc ls (.long y :: .long x :: st) M n k j := by
  intro p e s m args below meth c H locs lsM hC hH hS hL
  exact lv_lsub hC.1 hC.2.1 hd (kk p e s m args below meth c H locs lsM hC hH hS hL)
theorem mm_lmul {x y : Int64} (hd : decode Y.2.1 pc = .ok (.lmul, 1)) (kk : mm_Ev g l Y rm Q (pc + 1) ls (.long (x * y) :: st) M n k j) : mm_Ev g l Y rm Q pc ls (.long y :: .long x :: st) M n k j := by
  intro p e s m args below meth c H locs lsM hC hH hS hL
  exact lv_lmul hC.1 hC.2.1 hd (kk p e s m args below meth c H locs lsM hC hH hS hL)
theorem mm_land {x y : Int64} (hd : decode Y.2.1 pc = .ok (.land, 1)) (kk : mm_Ev g l Y rm Q (pc + 1) ls (.long (x &&& y) :: st) M n k j) : mm_Ev g l Y rm Q pc ls (.long y :: .long x :: st) M n k j := by
  intro p e s m args below meth c H locs lsM hC hH hS hL
  exact lv_land hC.1 hC.2.1 hd (kk p e s m args below meth c H locs lsM hC hH hS hL)
theorem mm_lor {x y : Int64} (hd : decode Y.2.1 pc = .ok (.lor, 1)) (kk : mm_Ev g l Y rm Q (pc + 1) ls (.long (x ||| y) :: st) M n k j) : mm_Ev g l Y rm Q pc ls (.long y :: .long x :: st) M n k j := by
  intro p e s m args below meth c H locs lsM hC hH hS hL
  exact lv_lor hC.1 hC.2.1 hd (kk p e s m args below meth c H locs lsM hC hH hS hL)
theorem mm_lxor {x y : Int64} (hd : decode Y.2.1 pc = .ok (.lxor, 1)) (kk : mm_Ev g l Y rm Q (pc + 1) ls (.long (x ^^^ y) :: st) M n k j) : mm_Ev g l Y rm Q pc ls (.long y :: .long x :: st) M n k j := by
  intro p e s m args below meth c H locs lsM hC hH hS hL
  exact lv_lxor hC.1 hC.2.1 hd (kk p e s m args below meth c H locs lsM hC hH hS hL)
theorem mm_idiv {x y : Int32} (hne : ¬ y = 0) (hd : decode Y.2.1 pc = .ok (.idiv, 1)) (kk : mm_Ev g l Y rm Q (pc + 1) ls (.int (x / y) :: st) M n k j) : mm_Ev g l Y rm Q pc ls (.int y :: .int x :: st) M n k j := by
  intro p e s m args below meth c H locs lsM hC hH hS hL
  exact lv_idiv hC.1 hC.2.1 hd hne (kk p e s m args below meth c H locs lsM hC hH hS hL)
theorem mm_irem {x y : Int32} (hne : ¬ y = 0) (hd : decode Y.2.1 pc = .ok (.irem, 1)) (kk : mm_Ev g l Y rm Q (pc + 1) ls (.int (x - x / y * y) :: st) M n k j) : mm_Ev g l Y rm Q pc ls (.int y :: .int x :: st) M n k j := by
  intro p e s m args below meth c H locs lsM hC hH hS hL
  exact lv_irem hC.1 hC.2.1 hd hne (kk p e s m args below meth c H locs lsM hC hH hS hL)
theorem mm_ineg {x : Int32} (hd : decode Y.2.1 pc = .ok (.ineg, 1)) (kk : mm_Ev g l Y rm Q (pc + 1) ls (.int (-x) :: st) M n k j) : mm_Ev g l Y rm Q pc ls (.int x :: st) M n k j := by
  intro p e s m args below meth c H locs lsM hC hH hS hL
  exact lv_ineg hC.1 hC.2.1 hd (kk p e s m args below meth c H locs lsM hC hH hS hL)
theorem mm_ishl {x y : Int32} (hd : decode Y.2.1 pc = .ok (.ishl, 1)) (kk : mm_Ev g l Y rm Q (pc + 1) ls (.int (x <<< (y &&& 31)) :: st) M n k j) : mm_Ev g l Y rm Q pc ls (.int y :: .int x :: st) M n k j := by
  intro p e s m args below meth c H locs lsM hC hH hS hL
  exact lv_ishl hC.1 hC.2.1 hd (kk p e s m args below meth c H locs lsM hC hH hS hL)
theorem mm_ishr {x y : Int32} (hd : decode Y.2.1 pc = .ok (.ishr, 1)) (kk : mm_Ev g l Y rm Q (pc + 1) ls (.int (x >>> (y &&& 31)) :: st) M n k j) : mm_Ev g l Y rm Q pc ls (.int y :: .int x :: st) M n k j := by
  intro p e s m args below meth c H locs lsM hC hH hS hL
  exact lv_ishr hC.1 hC.2.1 hd (kk p e s m args below meth c H locs lsM hC hH hS hL)
theorem mm_iushr {x y v : Int32} (hv : (x.toUInt32 >>> (y.toUInt32 &&& Int32.toUInt32 31)).toInt32 = v) (hd : decode Y.2.1 pc = .ok (.iushr, 1)) (kk : mm_Ev g l Y rm Q (pc + 1) ls (.int v :: st) M n k j) : mm_Ev g l Y rm Q pc ls (.int y :: .int x :: st) M n k j := by
  intro p e s m args below meth c H locs lsM hC hH hS hL
  exact lv_iushr hC.1 hC.2.1 hd hv (kk p e s m args below meth c H locs lsM hC hH hS hL)
theorem mm_lushr {x v : Int64} {y : Int32} (hv : (x.toUInt64 >>> (y.toInt64.toUInt64 &&& Int64.toUInt64 63)).toInt64 = v) (hd : decode Y.2.1 pc = .ok (.lushr, 1)) (kk : mm_Ev g l Y rm Q (pc + 1) ls (.long v :: st) M n k j) : mm_Ev g l Y rm Q pc ls (.int y :: .long x :: st) M n k j := by
  intro p e s m args below meth c H locs lsM hC hH hS hL
  exact lv_lushr hC.1 hC.2.1 hd hv (kk p e s m args below meth c H locs lsM hC hH hS hL)
theorem mm_lshl {x v : Int64} {y : Int32} (hv : x <<< (y.toInt64 &&& 63) = v) (hd : decode Y.2.1 pc = .ok (.lshl, 1)) (kk : mm_Ev g l Y rm Q (pc + 1) ls (.long v :: st) M n k j) : mm_Ev g l Y rm Q pc ls (.int y :: .long x :: st) M n k j := by
  intro p e s m args below meth c H locs lsM hC hH hS hL
  exact lv_lshl hC.1 hC.2.1 hd hv (kk p e s m args below meth c H locs lsM hC hH hS hL)
theorem mm_lshr {x v : Int64} {y : Int32} (hv : x >>> (y.toInt64 &&& 63) = v) (hd : decode Y.2.1 pc = .ok (.lshr, 1)) (kk : mm_Ev g l Y rm Q (pc + 1) ls (.long v :: st) M n k j) : mm_Ev g l Y rm Q pc ls (.int y :: .long x :: st) M n k j := by
  intro p e s m args below meth c H locs lsM hC hH hS hL
  exact lv_lshr hC.1 hC.2.1 hd hv (kk p e s m args below meth c H locs lsM hC hH hS hL)
theorem mm_i2l {x : Int32} {v : Int64} (hv : x.toInt64 = v) (hd : decode Y.2.1 pc = .ok (.i2l, 1)) (kk : mm_Ev g l Y rm Q (pc + 1) ls (.long v :: st) M n k j) : mm_Ev g l Y rm Q pc ls (.int x :: st) M n k j := by
  intro p e s m args below meth c H locs lsM hC hH hS hL
  exact lv_i2l hC.1 hC.2.1 hd hv (kk p e s m args below meth c H locs lsM hC hH hS hL)
theorem mm_l2i {x : Int64} {v : Int32} (hv : x.toInt32 = v) (hd : decode Y.2.1 pc = .ok (.l2i, 1)) (kk : mm_Ev g l Y rm Q (pc + 1) ls (.int v :: st) M n k j) : mm_Ev g l Y rm Q pc ls (.long x :: st) M n k j := by
  intro p e s m args below meth c H locs lsM hC hH hS hL
  exact lv_l2i hC.1 hC.2.1 hd hv (kk p e s m args below meth c H locs lsM hC hH hS hL)
theorem mm_i2b {x v : Int32} (hv : x.toInt8.toInt32 = v) (hd : decode Y.2.1 pc = .ok (.i2b, 1)) (kk : mm_Ev g l Y rm Q (pc + 1) ls (.int v :: st) M n k j) : mm_Ev g l Y rm Q pc ls (.int x :: st) M n k j := by
  intro p e s m args below meth c H locs lsM hC hH hS hL
  exact lv_i2b hC.1 hC.2.1 hd hv (kk p e s m args below meth c H locs lsM hC hH hS hL)
theorem mm_i2c {x v : Int32} (hv : (x.toUInt32 % 65536).toInt32 = v) (hd : decode Y.2.1 pc = .ok (.i2c, 1)) (kk : mm_Ev g l Y rm Q (pc + 1) ls (.int v :: st) M n k j) : mm_Ev g l Y rm Q pc ls (.int x :: st) M n k j := by
  intro p e s m args below meth c H locs lsM hC hH hS hL
  exact lv_i2c hC.1 hC.2.1 hd hv (kk p e s m args below meth c H locs lsM hC hH hS hL)
theorem mm_dup {v : Value} (hv : v.category = 1) (hd : decode Y.2.1 pc = .ok (.dup, 1)) (kk : mm_Ev g l Y rm Q (pc + 1) ls (v :: v :: st) M n k j) : mm_Ev g l Y rm Q pc ls (v :: st) M n k j := by
  intro p e s m args below meth c H locs lsM hC hH hS hL
  exact lv_dup hC.1 hC.2.1 hd (by rw [mm_tr_cat]; exact hv) (kk p e s m args below meth c H locs lsM hC hH hS hL)
theorem mm_pop {v : Value} (hv : v.category = 1) (hd : decode Y.2.1 pc = .ok (.pop, 1)) (kk : mm_Ev g l Y rm Q (pc + 1) ls (st) M n k j) : mm_Ev g l Y rm Q pc ls (v :: st) M n k j := by
  intro p e s m args below meth c H locs lsM hC hH hS hL
  exact lv_pop hC.1 hC.2.1 hd (by rw [mm_tr_cat]; exact hv) (kk p e s m args below meth c H locs lsM hC hH hS hL)
theorem mm_dup_x1 {v w : Value} (hv : v.category = 1) (hw : w.category = 1) (hd : decode Y.2.1 pc = .ok (.dup_x1, 1)) (kk : mm_Ev g l Y rm Q (pc + 1) ls (v :: w :: v :: st) M n k j) : mm_Ev g l Y rm Q pc ls (v :: w :: st) M n k j := by
  intro p e s m args below meth c H locs lsM hC hH hS hL
  exact lv_dup_x1 hC.1 hC.2.1 hd (by rw [mm_tr_cat]; exact hv) (by rw [mm_tr_cat]; exact hw) (kk p e s m args below meth c H locs lsM hC hH hS hL)
theorem mm_dup_x2 {v w u : Value} (hv : v.category = 1) (hw : w.category = 1) (hu : u.category = 1) (hd : decode Y.2.1 pc = .ok (.dup_x2, 1)) (kk : mm_Ev g l Y rm Q (pc + 1) ls (v :: w :: u :: v :: st) M n k j) : mm_Ev g l Y rm Q pc ls (v :: w :: u :: st) M n k j := by
  intro p e s m args below meth c H locs lsM hC hH hS hL
  exact lv_dup_x2 hC.1 hC.2.1 hd (by rw [mm_tr_cat]; exact hv) (by rw [mm_tr_cat]; exact hw) (by rw [mm_tr_cat]; exact hu) (kk p e s m args below meth c H locs lsM hC hH hS hL)
theorem mm_dup2_11 {v w : Value} (hv : v.category = 1) (hw : w.category = 1) (hd : decode Y.2.1 pc = .ok (.dup2, 1)) (kk : mm_Ev g l Y rm Q (pc + 1) ls (v :: w :: v :: w :: st) M n k j) : mm_Ev g l Y rm Q pc ls (v :: w :: st) M n k j := by
  intro p e s m args below meth c H locs lsM hC hH hS hL
  exact lv_dup2_11 hC.1 hC.2.1 hd (by rw [mm_tr_cat]; exact hv) (by rw [mm_tr_cat]; exact hw) (kk p e s m args below meth c H locs lsM hC hH hS hL)
theorem mm_dup2_2 {v : Value} (hv : v.category = 2) (hd : decode Y.2.1 pc = .ok (.dup2, 1)) (kk : mm_Ev g l Y rm Q (pc + 1) ls (v :: v :: st) M n k j) : mm_Ev g l Y rm Q pc ls (v :: st) M n k j := by
  intro p e s m args below meth c H locs lsM hC hH hS hL
  exact lv_dup2_2 hC.1 hC.2.1 hd (by rw [mm_tr_cat]; exact hv) (kk p e s m args below meth c H locs lsM hC hH hS hL)
theorem mm_pop2_2 {v : Value} (hv : v.category = 2) (hd : decode Y.2.1 pc = .ok (.pop2, 1)) (kk : mm_Ev g l Y rm Q (pc + 1) ls (st) M n k j) : mm_Ev g l Y rm Q pc ls (v :: st) M n k j := by
  intro p e s m args below meth c H locs lsM hC hH hS hL
  exact lv_pop2_2 hC.1 hC.2.1 hd (by rw [mm_tr_cat]; exact hv) (kk p e s m args below meth c H locs lsM hC hH hS hL)
theorem mm_dup2_x1_2 {v w : Value} (hv : v.category = 2) (hw : w.category = 1) (hd : decode Y.2.1 pc = .ok (.dup2_x1, 1)) (kk : mm_Ev g l Y rm Q (pc + 1) ls (v :: w :: v :: st) M n k j) : mm_Ev g l Y rm Q pc ls (v :: w :: st) M n k j := by
  intro p e s m args below meth c H locs lsM hC hH hS hL
  exact lv_dup2_x1_2 hC.1 hC.2.1 hd (by rw [mm_tr_cat]; exact hv) (by rw [mm_tr_cat]; exact hw) (kk p e s m args below meth c H locs lsM hC hH hS hL)
theorem mm_dup2_x2_2 {v w u : Value} (hv : v.category = 2) (hw : w.category = 1) (hu : u.category = 1) (hd : decode Y.2.1 pc = .ok (.dup2_x2, 1)) (kk : mm_Ev g l Y rm Q (pc + 1) ls (v :: w :: u :: v :: st) M n k j) : mm_Ev g l Y rm Q pc ls (v :: w :: u :: st) M n k j := by
  intro p e s m args below meth c H locs lsM hC hH hS hL
  exact lv_dup2_x2_2 hC.1 hC.2.1 hd (by rw [mm_tr_cat]; exact hv) (by rw [mm_tr_cat]; exact hw) (by rw [mm_tr_cat]; exact hu) (kk p e s m args below meth c H locs lsM hC hH hS hL)
theorem mm_lcmp {x y : Int64} (hd : decode Y.2.1 pc = .ok (.lcmp, 1)) (kk : mm_Ev g l Y rm Q (pc + 1) ls (.int (lg_cmp x y) :: st) M n k j) : mm_Ev g l Y rm Q pc ls (.long y :: .long x :: st) M n k j := by
  intro p e s m args below meth c H locs lsM hC hH hS hL
  exact W.lcmp hC.1 hC.2.1 hd (kk p e s m args below meth c H locs lsM hC hH hS hL)
theorem mm_icmp_eq {x y : Int32} {off : Int} {tgt : Nat} (hd : decode Y.2.1 pc = .ok (.if_icmp .eq off, 3)) (ht : (pc : Int) + off = (tgt : Int)) (kt : (x = y) → mm_Ev g l Y rm Q tgt ls st M n k j) (kf : ¬ (x = y) → mm_Ev g l Y rm Q (pc + 3) ls st M n k j) : mm_Ev g l Y rm Q pc ls (.int y :: .int x :: st) M n k j := by
  intro p e s m args below meth c H locs lsM hC hH hS hL
  exact lv_icmp_eq hC.1 hC.2.1 hd ht (fun h => kt h p e s m args below meth c H locs lsM hC hH hS hL) (fun h => kf h p e s m args below meth c H locs lsM hC hH hS hL)
theorem mm_if_eq {x : Int32} {off : Int} {tgt : Nat} (hd : decode Y.2.1 pc = .ok (.ifCond .eq off, 3)) (ht : (pc : Int) + off = (tgt : Int)) (kt : (x = 0) → mm_Ev g l Y rm Q tgt ls st M n k j) (kf : ¬ (x = 0) → mm_Ev g l Y rm Q (pc + 3) ls st M n k j) : mm_Ev g l Y rm Q pc ls (.int x :: st) M n k j := by
  intro p e s m args below meth c H locs lsM hC hH hS hL
  exact lv_if_eq hC.1 hC.2.1 hd ht (fun h => kt h p e s m args below meth c H locs lsM hC hH hS hL) (fun h => kf h p e s m args below meth c H locs lsM hC hH hS hL)
theorem mm_icmp_ne {x y : Int32} {off : Int} {tgt : Nat} (hd : decode Y.2.1 pc = .ok (.if_icmp .ne off, 3)) (ht : (pc : Int) + off = (tgt : Int)) (kt : ¬ (x = y) → mm_Ev g l Y rm Q tgt ls st M n k j) (kf : (x = y) → mm_Ev g l Y rm Q (pc + 3) ls st M n k j) : mm_Ev g l Y rm Q pc ls (.int y :: .int x :: st) M n k j := by
  intro p e s m args below meth c H locs lsM hC hH hS hL
  exact lv_icmp_ne hC.1 hC.2.1 hd ht (fun h => kt h p e s m args below meth c H locs lsM hC hH hS hL) (fun h => kf h p e s m args below meth c H locs lsM hC hH hS hL)
theorem mm_if_ne {x : Int32} {off : Int} {tgt : Nat} (hd : decode Y.2.1 pc = .ok (.ifCond .ne off, 3)) (ht : (pc : Int) + off = (tgt : Int)) (kt : ¬ (x = 0) → mm_Ev g l Y rm Q tgt ls st M n k j) (kf : (x = 0) → mm_Ev g l Y rm Q (pc + 3) ls st M n k j) : mm_Ev g l Y rm Q pc ls (.int x :: st) M n k j := by
  intro p e s m args below meth c H locs lsM hC hH hS hL
  exact lv_if_ne hC.1 hC.2.1 hd ht (fun h => kt h p e s m args below meth c H locs lsM hC hH hS hL) (fun h => kf h p e s m args below meth c H locs lsM hC hH hS hL)
theorem mm_icmp_lt {x y : Int32} {off : Int} {tgt : Nat} (hd : decode Y.2.1 pc = .ok (.if_icmp .lt off, 3)) (ht : (pc : Int) + off = (tgt : Int)) (kt : (x < y) → mm_Ev g l Y rm Q tgt ls st M n k j) (kf : ¬ (x < y) → mm_Ev g l Y rm Q (pc + 3) ls st M n k j) : mm_Ev g l Y rm Q pc ls (.int y :: .int x :: st) M n k j := by
  intro p e s m args below meth c H locs lsM hC hH hS hL
  exact lv_icmp_lt hC.1 hC.2.1 hd ht (fun h => kt h p e s m args below meth c H locs lsM hC hH hS hL) (fun h => kf h p e s m args below meth c H locs lsM hC hH hS hL)
theorem mm_if_lt {x : Int32} {off : Int} {tgt : Nat} (hd : decode Y.2.1 pc = .ok (.ifCond .lt off, 3)) (ht : (pc : Int) + off = (tgt : Int)) (kt : (x < 0) → mm_Ev g l Y rm Q tgt ls st M n k j) (kf : ¬ (x < 0) → mm_Ev g l Y rm Q (pc + 3) ls st M n k j) : mm_Ev g l Y rm Q pc ls (.int x :: st) M n k j := by
  intro p e s m args below meth c H locs lsM hC hH hS hL
  exact lv_if_lt hC.1 hC.2.1 hd ht (fun h => kt h p e s m args below meth c H locs lsM hC hH hS hL) (fun h => kf h p e s m args below meth c H locs lsM hC hH hS hL)
theorem mm_icmp_ge {x y : Int32} {off : Int} {tgt : Nat} (hd : decode Y.2.1 pc = .ok (.if_icmp .ge off, 3)) (ht : (pc : Int) + off = (tgt : Int)) (kt : (y ≤ x) → mm_Ev g l Y rm Q tgt ls st M n k j) (kf : ¬ (y ≤ x) → mm_Ev g l Y rm Q (pc + 3) ls st M n k j) : mm_Ev g l Y rm Q pc ls (.int y :: .int x :: st) M n k j := by
  intro p e s m args below meth c H locs lsM hC hH hS hL
  exact lv_icmp_ge hC.1 hC.2.1 hd ht (fun h => kt h p e s m args below meth c H locs lsM hC hH hS hL) (fun h => kf h p e s m args below meth c H locs lsM hC hH hS hL)
theorem mm_if_ge {x : Int32} {off : Int} {tgt : Nat} (hd : decode Y.2.1 pc = .ok (.ifCond .ge off, 3)) (ht : (pc : Int) + off = (tgt : Int)) (kt : (0 ≤ x) → mm_Ev g l Y rm Q tgt ls st M n k j) (kf : ¬ (0 ≤ x) → mm_Ev g l Y rm Q (pc + 3) ls st M n k j) : mm_Ev g l Y rm Q pc ls (.int x :: st) M n k j := by
  intro p e s m args below meth c H locs lsM hC hH hS hL
  exact lv_if_ge hC.1 hC.2.1 hd ht (fun h => kt h p e s m args below meth c H locs lsM hC hH hS hL) (fun h => kf h p e s m args below meth c H locs lsM hC hH hS hL)
theorem mm_icmp_gt {x y : Int32} {off : Int} {tgt : Nat} (hd : decode Y.2.1 pc = .ok (.if_icmp .gt off, 3)) (ht : (pc : Int) + off = (tgt : Int)) (kt : (y < x) → mm_Ev g l Y rm Q tgt ls st M n k j) (kf : ¬ (y < x) → mm_Ev g l Y rm Q (pc + 3) ls st M n k j) : mm_Ev g l Y rm Q pc ls (.int y :: .int x :: st) M n k j := by
  intro p e s m args below meth c H locs lsM hC hH hS hL
  exact lv_icmp_gt hC.1 hC.2.1 hd ht (fun h => kt h p e s m args below meth c H locs lsM hC hH hS hL) (fun h => kf h p e s m args below meth c H locs lsM hC hH hS hL)
theorem mm_if_gt {x : Int32} {off : Int} {tgt : Nat} (hd : decode Y.2.1 pc = .ok (.ifCond .gt off, 3)) (ht : (pc : Int) + off = (tgt : Int)) (kt : (0 < x) → mm_Ev g l Y rm Q tgt ls st M n k j) (kf : ¬ (0 < x) → mm_Ev g l Y rm Q (pc + 3) ls st M n k j) : mm_Ev g l Y rm Q pc ls (.int x :: st) M n k j := by
  intro p e s m args below meth c H locs lsM hC hH hS hL
  exact lv_if_gt hC.1 hC.2.1 hd ht (fun h => kt h p e s m args below meth c H locs lsM hC hH hS hL) (fun h => kf h p e s m args below meth c H locs lsM hC hH hS hL)
theorem mm_icmp_le {x y : Int32} {off : Int} {tgt : Nat} (hd : decode Y.2.1 pc = .ok (.if_icmp .le off, 3)) (ht : (pc : Int) + off = (tgt : Int)) (kt : (x ≤ y) → mm_Ev g l Y rm Q tgt ls st M n k j) (kf : ¬ (x ≤ y) → mm_Ev g l Y rm Q (pc + 3) ls st M n k j) : mm_Ev g l Y rm Q pc ls (.int y :: .int x :: st) M n k j := by
  intro p e s m args below meth c H locs lsM hC hH hS hL
  exact lv_icmp_le hC.1 hC.2.1 hd ht (fun h => kt h p e s m args below meth c H locs lsM hC hH hS hL) (fun h => kf h p e s m args below meth c H locs lsM hC hH hS hL)
theorem mm_if_le {x : Int32} {off : Int} {tgt : Nat} (hd : decode Y.2.1 pc = .ok (.ifCond .le off, 3)) (ht : (pc : Int) + off = (tgt : Int)) (kt : (x ≤ 0) → mm_Ev g l Y rm Q tgt ls st M n k j) (kf : ¬ (x ≤ 0) → mm_Ev g l Y rm Q (pc + 3) ls st M n k j) : mm_Ev g l Y rm Q pc ls (.int x :: st) M n k j := by
  intro p e s m args below meth c H locs lsM hC hH hS hL
  exact lv_if_le hC.1 hC.2.1 hd ht (fun h => kt h p e s m args below meth c H locs lsM hC hH hS hL) (fun h => kf h p e s m args below meth c H locs lsM hC hH hS hL)
theorem mm_goto {off : Int} {tgt : Nat} (hd : decode Y.2.1 pc = .ok (.goto off, 3)) (ht : (pc : Int) + off = (tgt : Int)) (kk : mm_Ev g l Y rm Q tgt ls st M n k j) : mm_Ev g l Y rm Q pc ls st M n k j := by
  intro p e s m args below meth c H locs lsM hC hH hS hL
  exact lv_goto hC.1 hC.2.1 hd ht (kk p e s m args below meth c H locs lsM hC hH hS hL)
end MMEV
end
section
/-! Calls that return or throw: the callee's free theorem at a call site. -/
def mm_Lk (p : Program) (l : Launch) (e : Env) (R : Room) (s : State) (m : MethodId) (args : Array Value) (below : List Frame) (meth : Method) (c : Code) (H : Heap) (locs : List Loc) (cells slots : Nat) (fr : JFrame) (rest : List Value) (y : MethodName) (a : Array Value) : Prop :=
  ∀ T : State, T.heap = H → Stand p l e R s m args below meth c T locs cells slots → ∃ (vm₁ : Vm) (mk : MethodId), Stand p l e R s m args below meth c (T.setVm vm₁) locs cells slots ∧ s.methodNamed? y = some mk ∧
    ∀ tg, Steps p.tables e below (doInvoke e ((T.setVm vm₁).setTop { fr with stack := rest }) [] mk a).1 tg → Steps p.tables e below (T.setTop fr) tg
section MMCA
variable {p : Program} {l : Launch} {e : Env} {R : Room} {s : State} {m : MethodId} {args : Array Value} {below : List Frame} {meth : Method} {c : Code} {H : Heap} {locs : List Loc} {cells slots : Nat} {Q : State → Prop}
theorem mm_lkV (hexec : p.tables.exec = Jvm.exec) {own C : String} {index : Nat} {y : MethodName} {sig0 : MethodDescriptor}
    (hown : s.vm.findClass own = some m.cls) (hlink : (Cond.methodLink own index y).before args s = true) (hinst : (Cond.instanceMethod y).before args s = true) (hsel : (Cond.selects C y y).before args s = true)
    (hsg : ∀ mk methM, s.methodNamed? y = some mk → s.vm.method? mk = some methM → methM.sig = sig0) (hy : y.cls ≠ "java/lang/invoke/MethodHandle" ∧ y.cls ≠ "java/lang/invoke/VarHandle")
    {b : Addr} {cellB : Cell} (hcell : H[b]? = some cellB) (hobj : cellB.vm.isStatics = false) (hcls : s.vm.findClass C = some cellB.cls)
    {fr : JFrame} (hg : fr.method = m) {argsL rest : List Value} (hlen : argsL.length = sig0.parameters.length)
    (hstack : fr.stack = argsL.reverse ++ .ref b :: rest) (hdg : decode c.code fr.pc = .ok (.invokevirtual index, 3)) : mm_Lk p l e R s m args below meth c H locs cells slots fr rest y (Value.ref b :: argsL).toArray := by
  intro T hT X
  obtain ⟨mk, methM, hnamed, hmethM, hstM, habM⟩ := Cond.instanceMethod_spec hinst
  obtain ⟨c2, r2, m2, q1, q2, q3, q4, kP, hkP, hkPi⟩ := Cond.selects_spec hsel
  cases hcls.symm.trans q1
  cases (State.methodFound?_of_named hnamed hy).symm.trans q2
  cases hnamed.symm.trans q3
  have hselP : selectMethod e.platform s.vm cellB.cls mk = .method mk := by rw [Launch.admits_selectMethod X.admits]; exact q4
  obtain ⟨vm₁, X₁, hstep₁⟩ := X.invokevirtual hexec hown hlink hnamed hmethM hstM hkP hkPi hy (a := b) (cell := cellB) (by rw [hT]; exact hcell)
    (fun z h => by rw [h] at hobj; cases hobj) hselP hmethM habM hkP hkPi (g := fr) hg (argsL := argsL) (rest := rest) (by rw [hsg mk methM hnamed hmethM]; exact hlen) hstack hdg
  exact ⟨vm₁, mk, X₁, hnamed, fun tg h => hstep₁ _ fun acts => by rw [doInvoke_state]; exact h⟩
theorem mm_lkVN (hexec : p.tables.exec = Jvm.exec) {own C host : String} {index : Nat} {y : MethodName} {sig0 : MethodDescriptor}
    (hown : s.vm.findClass own = some m.cls) (hlink : (Cond.methodLinkNest own index y host).before args s = true) (hinst : (Cond.instanceMethod y).before args s = true) (hsel : (Cond.selects C y y).before args s = true)
    (hsg : ∀ mk methM, s.methodNamed? y = some mk → s.vm.method? mk = some methM → methM.sig = sig0) (hy : y.cls ≠ "java/lang/invoke/MethodHandle" ∧ y.cls ≠ "java/lang/invoke/VarHandle")
    {b : Addr} {cellB : Cell} (hcell : H[b]? = some cellB) (hobj : cellB.vm.isStatics = false) (hcls : s.vm.findClass C = some cellB.cls)
    {fr : JFrame} (hg : fr.method = m) {argsL rest : List Value} (hlen : argsL.length = sig0.parameters.length)
    (hstack : fr.stack = argsL.reverse ++ .ref b :: rest) (hdg : decode c.code fr.pc = .ok (.invokevirtual index, 3)) : mm_Lk p l e R s m args below meth c H locs cells slots fr rest y (Value.ref b :: argsL).toArray := by
  intro T hT X
  obtain ⟨mk, methM, hnamed, hmethM, hstM, habM⟩ := Cond.instanceMethod_spec hinst
  obtain ⟨c2, r2, m2, q1, q2, q3, q4, kP, hkP, hkPi⟩ := Cond.selects_spec hsel
  cases hcls.symm.trans q1
  cases (State.methodFound?_of_named hnamed hy).symm.trans q2
  cases hnamed.symm.trans q3
  have hselP : selectMethod e.platform s.vm cellB.cls mk = .method mk := by rw [Launch.admits_selectMethod X.admits]; exact q4
  obtain ⟨vm₁, X₁, hstep₁⟩ := X.invokevirtualNest hexec hown hlink hnamed hmethM hstM hkP hkPi hy (a := b) (cell := cellB) (by rw [hT]; exact hcell)
    (fun z h => by rw [h] at hobj; cases hobj) hselP hmethM habM hkP hkPi (g := fr) hg (argsL := argsL) (rest := rest) (by rw [hsg mk methM hnamed hmethM]; exact hlen) hstack hdg
  exact ⟨vm₁, mk, X₁, hnamed, fun tg h => hstep₁ _ fun acts => by rw [doInvoke_state]; exact h⟩
theorem mm_lkS (hexec : p.tables.exec = Jvm.exec) {own : String} {index : Nat} {y : MethodName} {sig0 : MethodDescriptor} {mk : MethodId} {methM : Method}
    (hown : s.vm.findClass own = some m.cls) (hlink : (Cond.methodLink own index y).before args s = true) (hstat : (Cond.static y).before args s = true) (hinit : (Cond.initialized y.cls).before args s = true)
    (hnamed : s.methodNamed? y = some mk) (hmethM : s.vm.method? mk = some methM) (hsg : methM.sig = sig0) (hy : y.cls ≠ "java/lang/invoke/MethodHandle" ∧ y.cls ≠ "java/lang/invoke/VarHandle")
    {fr : JFrame} (hg : fr.method = m) {argsL rest : List Value} (hlen : argsL.length = sig0.parameters.length)
    (hstack : fr.stack = argsL.reverse ++ rest) (hdg : decode c.code fr.pc = .ok (.invokestatic index, 3)) : mm_Lk p l e R s m args below meth c H locs cells slots fr rest y argsL.toArray := by
  intro T hT X
  have hstatic : methM.isStatic = true := Cond.static_spec hnamed hmethM hstat
  obtain ⟨kP, hkP, -⟩ := className_of_methodNamed hnamed
  have hinitP : kP.init = .initialized := Cond.initialized_spec (findClass_of_methodNamed hnamed) hkP hinit
  obtain ⟨vm₁, X₁, hstep₁⟩ := X.invokestatic hexec hown hlink hnamed hmethM hstatic hkP hinitP hy (g := fr) hg (argsL := argsL) (rest := rest) (by rw [hsg]; exact hlen) hstack hdg
  exact ⟨vm₁, mk, X₁, hnamed, fun tg h => hstep₁ _ fun acts => by rw [doInvoke_state]; exact h⟩
theorem mm_lkSN (hexec : p.tables.exec = Jvm.exec) {own host : String} {index : Nat} {y : MethodName} {sig0 : MethodDescriptor} {mk : MethodId} {methM : Method}
    (hown : s.vm.findClass own = some m.cls) (hlink : (Cond.methodLinkNest own index y host).before args s = true) (hstat : (Cond.static y).before args s = true) (hinit : (Cond.initialized y.cls).before args s = true)
    (hnamed : s.methodNamed? y = some mk) (hmethM : s.vm.method? mk = some methM) (hsg : methM.sig = sig0) (hy : y.cls ≠ "java/lang/invoke/MethodHandle" ∧ y.cls ≠ "java/lang/invoke/VarHandle")
    {fr : JFrame} (hg : fr.method = m) {argsL rest : List Value} (hlen : argsL.length = sig0.parameters.length)
    (hstack : fr.stack = argsL.reverse ++ rest) (hdg : decode c.code fr.pc = .ok (.invokestatic index, 3)) : mm_Lk p l e R s m args below meth c H locs cells slots fr rest y argsL.toArray := by
  intro T hT X
  have hstatic : methM.isStatic = true := Cond.static_spec hnamed hmethM hstat
  obtain ⟨kP, hkP, -⟩ := className_of_methodNamed hnamed
  have hinitP : kP.init = .initialized := Cond.initialized_spec (findClass_of_methodNamed hnamed) hkP hinit
  obtain ⟨vm₁, X₁, hstep₁⟩ := X.invokestaticNest hexec hown hlink hnamed hmethM hstatic hkP hinitP hy (g := fr) hg (argsL := argsL) (rest := rest) (by rw [hsg]; exact hlen) hstack hdg
  exact ⟨vm₁, mk, X₁, hnamed, fun tg h => hstep₁ _ fun acts => by rw [doInvoke_state]; exact h⟩
theorem mm_lkI (hexec : p.tables.exec = Jvm.exec) {own : String} {index : Nat} {y : MethodName} {bytes : ByteArray} {maxL : Nat}
    (hown : s.vm.findClass own = some m.cls) (hy1 : y.name = "<init>") (hlink : (Cond.methodLink own index y).before args s = true) (hinst : (Cond.instanceMethod y).before args s = true)
    (hcode : (Cond.code y bytes maxL none).before args s = true) (hy : y.cls ≠ "java/lang/invoke/MethodHandle" ∧ y.cls ≠ "java/lang/invoke/VarHandle")
    {fr : JFrame} (hg : fr.method = m) {a : Addr} {argsL rest : List Value} (hlen : ∀ sig, parseMethodDescriptor y.desc = some sig → argsL.length = sig.parameters.length)
    (hstack : fr.stack = argsL.reverse ++ .ref a :: rest) (hdg : decode c.code fr.pc = .ok (.invokespecial index, 3)) : mm_Lk p l e R s m args below meth c H locs cells slots fr rest y (Value.ref a :: argsL).toArray := by
  intro T hT X
  subst hg
  have hpl : e.platform.magicAccessors = ({} : Platform).magicAccessors := by rw [X.admits.platform]
  obtain ⟨mk, methM, cM, kP, vm₁, hnamed, hmethM, hcodeM, -, hlocalsM, -, hkP, -, hW₁, hstep₁⟩ := Steps.initColdArgs (e := e) X.here hexec X.warmed hpl hown hy1 hy hlink hinst hcode (f := fr) rfl hlen hstack hdg
  exact ⟨vm₁, mk, X.noted hW₁, hnamed, fun tg h => hstep₁ _ fun acts => by rw [doInvoke_state]; exact h⟩
theorem mm_lkIN (hexec : p.tables.exec = Jvm.exec) {own host : String} {index : Nat} {y : MethodName} {bytes : ByteArray} {maxL : Nat}
    (hown : s.vm.findClass own = some m.cls) (hy1 : y.name = "<init>") (hlink : (Cond.methodLinkNest own index y host).before args s = true) (hinst : (Cond.instanceMethod y).before args s = true)
    (hcode : (Cond.code y bytes maxL none).before args s = true) (hy : y.cls ≠ "java/lang/invoke/MethodHandle" ∧ y.cls ≠ "java/lang/invoke/VarHandle")
    {fr : JFrame} (hg : fr.method = m) {a : Addr} {argsL rest : List Value} (hlen : ∀ sig, parseMethodDescriptor y.desc = some sig → argsL.length = sig.parameters.length)
    (hstack : fr.stack = argsL.reverse ++ .ref a :: rest) (hdg : decode c.code fr.pc = .ok (.invokespecial index, 3)) : mm_Lk p l e R s m args below meth c H locs cells slots fr rest y (Value.ref a :: argsL).toArray := by
  intro T hT X
  subst hg
  have hpl : e.platform.magicAccessors = ({} : Platform).magicAccessors := by rw [X.admits.platform]
  obtain ⟨mk, methM, cM, kP, vm₁, hnamed, hmethM, hcodeM, -, hlocalsM, -, hkP, -, hW₁, hstep₁⟩ := Steps.initColdArgsNest (e := e) X.here hexec X.warmed hpl hown hy1 hy hlink hinst hcode (f := fr) rfl hlen hstack hdg
  exact ⟨vm₁, mk, X.noted hW₁, hnamed, fun tg h => hstep₁ _ fun acts => by rw [doInvoke_state]; exact h⟩
/-- what is behind a throw that came out of a call in the frame fr -/
def mm_Th (p : Program) (l : Launch) (e : Env) (R : Room) (s : State) (m : MethodId) (args : Array Value) (below : List Frame) (meth : Method) (c : Code) (H : Heap) (locs : List Loc) (cells slots : Nat) (Q : State → Prop) (fr : JFrame) (x : Addr) : Prop :=
  ∀ T : State, T.heap = H → Stand p l e R s m args below meth c T locs cells slots → ∃ t, Steps p.tables e below ((T.setTop fr).pushFrame (.throwing x)) t ∧ Q t
theorem mm_callAny {g : mm_G} {Q' : mm_O → Prop} {fr : JFrame} {rest : List Value} {y : MethodName} {a : Array Value} {S : Spec} {P : Array Value → State → Prop} {maxL Wd : Nat} {ig : Instr}
    (hLk : mm_Lk p l e R s m args below meth c H locs cells slots fr rest y a) (hM : MetFree l y S P (fun _ _ _ _ _ => True) (fun _ st o t => mm_Po g S.room.cells S.room.slots st Q' o t)) (hg : fr.method = m) (hsize : fr.locals.size = c.maxLocals)
    (hframes : S.room.frames + 1 ≤ R.frames) (hlocals : Wd + (maxL + 11) + S.room.locals ≤ R.locals) (hW : 2 * fr.monitorRoom + (rest.map fun v => v.category).sum ≤ Wd) (hdg : decode c.code fr.pc = .ok (ig, 3))
    (hpre : ∀ (U : State) (mk : MethodId), s.WarmedH U.vm → U.methodNamed? y = some mk → S.pre.before a U = true ∧ (Cond.initialized y.cls).before a U = true ∧ ∃ methY cY, U.vm.method? mk = some methY ∧ methY.code = some cY ∧ cY.maxLocals = maxL)
    (hcells : cells + S.room.cells ≤ R.cells) (hslots : slots + S.room.slots ≤ R.slots)
    (hP : ∀ U : State, s.WarmedH U.vm → U.heap = H → P a U) (hS : va_S (mm_A g) s.heap H locs) (hb : g.2.2.1 ≤ s.heap.size)
    (kr : ∀ (v : Option Value) (M1 : mm_M) (n1 : Nat) (H1 : Heap) (locs1 : List Loc), Q' (.inl v, M1, n1) → mm_H g M1 n1 H1 → va_S (mm_A g) s.heap H1 locs1 → W p l e R s m args below meth c H1 locs1 (cells + S.room.cells) (slots + S.room.slots) Q { fr with pc := fr.pc + 3, stack := (v.map (mm_tr g)).toList ++ rest })
    (kt : ∀ (i : Nat) (x : Addr) (M1 : mm_M) (n1 : Nat) (H1 : Heap) (locs1 : List Loc), Q' (.inr i, M1, n1) → mm_H g M1 n1 H1 → va_S (mm_A g) s.heap H1 locs1 → (∃ t : State, t.heap = H1 ∧ s.WarmedH t.vm ∧ mm_Xc i x t) → mm_Th p l e R s m args below meth c H1 locs1 (cells + S.room.cells) (slots + S.room.slots) Q { fr with stack := rest } x) : W p l e R s m args below meth c H locs cells slots Q fr := by
  intro T hT X0
  obtain ⟨vm₁, mk, X, hnm, hstep⟩ := hLk T hT X0
  generalize hU : T.setVm vm₁ = U at X hstep
  have hUh : U.heap = H := by rw [← hU]; exact hT
  generalize hfr1 : ({ fr with stack := rest } : JFrame) = f1 at hstep kt
  have e1 : f1.pc = fr.pc := by rw [← hfr1]
  have hg1 : f1.method = m := by rw [← hfr1]; exact hg
  have hn : U.methodNamed? y = some mk := X.named hnm
  obtain ⟨h1, h3, methY, cY, hmY, hcY, hlY⟩ := hpre U mk X.warmed hn
  obtain ⟨kY, hkY, -⟩ := className_of_methodNamed hn
  have hinitY : kY.init = .initialized := Cond.initialized_spec (findClass_of_methodNamed hn) hkY h3
  have h : At U f1.method c below := by rw [hg1]; exact X.here
  have hdg1 : decode c.code f1.pc = .ok (ig, 3) := by rw [e1]; exact hdg
  have happ : S.appliesLoose y e.platform (U.calling f1 mk a) = true :=
    Spec.appliesLoose_calling (g := f1) h hdg1 hn hkY hinitY
      (X.room_calling (g := f1) (R' := S.room) (by rw [← hfr1]; exact hsize) hmY hcY hframes (by rw [hlY, ← hfr1]; show 2 * fr.monitorRoom + (rest.map fun v => v.category).sum + _ + _ ≤ _; omega) hcells hslots) h1
  obtain ⟨mid, hmid⟩ := h.above
  have hfrm : (U.setTop f1).frames = (.java f1 :: mid) ++ below := by rw [State.frames_setTop' f1 h.top, hmid]; rfl
  obtain ⟨o, s₂, hsteps, -, hend, hq⟩ := Steps.callFree hM p X.admits X.cas X.clock (acts := []) hfrm happ (hP _ X.warmed hUh) trivial
  have hq' : mm_Po g S.room.cells S.room.slots (U.calling f1 mk a) Q' o s₂ := hq
  rw [State.frames_setTop' f1 h.top] at hend
  obtain ⟨u, L, hQu, hH1, hlow, hL, hW₂, hsame0, hout⟩ := hq'
  have hcb : ∀ q : Nat, q < g.2.2.1 → s₂.heap[q]? = H[q]? := fun q hq => by rw [hlow q hq]; show U.heap[q]? = _; rw [hUh]
  have hS1 : va_S (mm_A g) s.heap s₂.heap (locs ++ L) := by
    refine ⟨?_, fun q h1 h2 => ?_, fun q hq => ?_⟩
    · exact Nat.le_trans hS.1 (by rw [← hUh]; exact hsame0.2.1)
    · rw [hcb q (Nat.not_le.mp h2)]
      exact hS.2.1 q h1 h2
    · rcases List.mem_append.mp hq with z | z
      · exact hS.2.2 q z
      · exact hL q z
  obtain ⟨u1, M1, n1⟩ := u
  cases u1 with
  | inl v =>
    have hout : o = .returned (v.map (mm_tr g)) := hout
    subst hout
    obtain ⟨e2, q2, q3, q4, q5, q6⟩ := hsame0
    have e3 : s₂ = ({ (U.calling f1 mk a).setFrames s₂.frames with heap := s₂.heap, slotsUsed := s₂.slotsUsed } : State).setVm s₂.vm := by
      have : s₂ = ({ s₂ with vm := (U.calling f1 mk a).vm } : State).setVm s₂.vm := rfl
      rw [e2] at this
      exact this
    obtain ⟨c₂, i₂, len₂, hc₂, hd₂, hf₂⟩ := hend
    have hW' : U.WarmedH s₂.vm := hW₂
    have hcc : c₂ = c := by
      have h1 : s₂.code? f1.method = U.code? f1.method := by
        rw [State.code?_eq, State.code?_eq, hW'.alike.method?]
      exact Option.some.inj (hc₂.symm.trans (h1.trans h.code))
    subst hcc
    have hlen : len₂ = 3 := by rw [hdg1] at hd₂; cases hd₂; rfl
    subst hlen
    obtain ⟨g₀, hg0⟩ := Option.isSome_iff_exists.mp h.top
    obtain ⟨r, hr⟩ := State.topJava?_eq_some.mp hg0
    have hs₂ : s₂ = (({ U with heap := s₂.heap, slotsUsed := s₂.slotsUsed } : State).setVm s₂.vm).setTop { f1 with pc := f1.pc + 3, stack := (v.map (mm_tr g)).toList ++ f1.stack } := by
      have hr' : (({ U with heap := s₂.heap, slotsUsed := s₂.slotsUsed } : State).setVm s₂.vm).frames = .java g₀ :: r := hr
      refine e3.trans ?_
      rw [hf₂, State.calling_eq h.top, State.setFrames_setFrames, State.setTop_of_frames _ hr', hr]
      rfl
    have hsame : U.sameButNew ({ U with heap := s₂.heap, slotsUsed := s₂.slotsUsed } : State) L S.room.cells S.room.slots := by
      refine ⟨?_, q2, q3, q4, q5, q6⟩
      obtain ⟨t, ht, -⟩ := State.frames_cons hr
      show ({ U with heap := s₂.heap, slotsUsed := s₂.slotsUsed } : State) = { U.setFrames U.frames with heap := s₂.heap, slotsUsed := s₂.slotsUsed }
      rw [State.setFrames_self ht]
    have X' : Stand p l e R s m args below meth c₂ (({ U with heap := s₂.heap, slotsUsed := s₂.slotsUsed } : State).setVm s₂.vm) (locs ++ L) (cells + S.room.cells) (slots + S.room.slots) :=
      ⟨X.admits, X.cas, X.clock, X.frames, X.room, X.hears, X.method, X.code, (X.here.setHeapUsed s₂.heap s₂.slotsUsed).setVm hW'.alike, X.tail, State.WarmedH.trans X.warmed hW', X.limits, X.bytes, X.same.trans (hsame.setVm s.vm)⟩
    obtain ⟨t, a1, b1⟩ := kr v M1 n1 s₂.heap (locs ++ L) hQu hH1 hS1 (({ U with heap := s₂.heap, slotsUsed := s₂.slotsUsed } : State).setVm s₂.vm) rfl X'
    refine ⟨t, hstep t (hsteps.trans ?_), b1⟩
    rw [hs₂, ← hfr1]
    exact a1
  | inr i =>
    obtain ⟨x, hox, hXc⟩ := hout
    subst hox
    rw [X.tail] at hend
    obtain ⟨T', X', hWT, -, ht⟩ := X.outOfThrown (g := f1) hg1 hend hW₂ hsame0
    have hh : T'.heap = s₂.heap := by rw [ht]; rfl
    obtain ⟨t, a1, b1⟩ := kt i x M1 n1 s₂.heap (locs ++ L) hQu hH1 hS1 ⟨s₂, rfl, State.WarmedH.trans X.warmed hW₂, hXc⟩ T' hh X'
    exact ⟨t, hstep t (hsteps.trans (by rw [ht]; exact a1)), b1⟩
end MMCA
end
section
/-! Rows over cells: fields, arrays, new cells; the ends; entering a method; calls. -/
/-- a field's link: entry index of class own's pool is field kf (of type ty, final or not) of class ci -/
def mm_Fl (own : String) (index ci kf : Nat) (ty : FieldType) (fin : Bool) : Prop := ∃ (C : String) (T : u_T) (N : Nat) (t : Nat → FieldType), mm_cl[ci]? = some (C, T, N) ∧ (∀ w ∈ u_ws C T N, w ∈ mm_tb) ∧ kf < N ∧ Cond.fieldLink own index C (T kf).2.1 (T kf).2.2.1 ∈ mm_tb ∧ (T kf).1 = C ∧ (∀ k, k < N → parseFieldDescriptor (T k).2.2.1 = some (t k)) ∧ (∀ a, a < N → ∀ b, b < N → a ≠ b → (T a).2.1 ≠ (T b).2.1) ∧ (T kf).2.2.2 = fin ∧ parseFieldDescriptor (T kf).2.2.1 = some ty
/-- a class's link for new: N fields with the default values fs -/
def mm_Nl (own : String) (index ci N : Nat) (fs : List Value) : Prop := ∃ (C : String) (T : u_T) (t : Nat → FieldType), mm_cl[ci]? = some (C, T, N) ∧ (∀ w ∈ u_ws C T N, w ∈ mm_tb) ∧ (∀ k, k < N → parseFieldDescriptor (T k).2.2.1 = some (t k)) ∧ Cond.classLink own index C ∈ mm_tb ∧ Cond.instantiable C N ∈ mm_tb ∧ Cond.initialized C ∈ mm_tb ∧ (∀ q, q < N → defaultValue (t q) = vp_V fs q) ∧ ∀ g : mm_G, fs.map (mm_tr g) = fs
theorem mm_W_mono {p : Program} {l : Launch} {e : Env} {R : Room} {s : State} {m : MethodId} {args : Array Value} {below : List Frame} {meth : Method} {c : Code} {H : Heap} {locs : List Loc} {cells slots : Nat} {Q1 Q2 : State → Prop} {fr : JFrame} (h : ∀ t, Q1 t → Q2 t) (w : W p l e R s m args below meth c H locs cells slots Q1 fr) : W p l e R s m args below meth c H locs cells slots Q2 fr := by
  intro T hT X
  obtain ⟨t, a, b⟩ := w T hT X
  exact ⟨t, a, h t b⟩
section MMHP
variable {g : mm_G} {l : Launch} {Y : mm_Y} {rm : Room} {Q : mm_O → Prop} {pc : Nat} {ls : List (Option Value)} {st : List Value} {M : mm_M} {n k j : Nat}

theorem mm_get {a ci kf index : Nat} {ty : FieldType} {fin : Bool} {fs : List Value} {v : Value} (hd : decode Y.2.1 pc = .ok (.getfield index, 3)) (hF : mm_Fl Y.1.cls index ci kf ty fin) (hm : M a = some (.inr (ci, fs))) (hv : fs[kf]? = some v) (kk : mm_Ev g l Y rm Q (pc + 3) ls (v :: st) M n k j) : mm_Ev g l Y rm Q pc ls (.ref a :: st) M n k j := by
  intro p e s m args below meth c H locs lsM hC hH hS hL
  obtain ⟨C, T, N, t, hc, hw, hk, hl, hT, -, -, -, -⟩ := hF
  exact va_get (D := g.1) (ci := ci) (ref := C) (v := mm_tr g v) hC.1 hC.2.1 hC.2.2.2.2.2.1 hw hC.2.2.2.2.1 hC.2.2.2.2.2.2.2.2.1.1 (hH.P hm) 0 rfl hc kf hk (hC.2.2.2.2.2.1 _ hl) (fun x hx => by rw [hT] at hx; exact hx) (by rw [List.getElem?_map, hv]; rfl) hd (kk p e s m args below meth c H locs lsM hC hH hS hL)
theorem mm_put {a ci kf index : Nat} {ty : FieldType} {fs : List Value} {v : Value} (hd : decode Y.2.1 pc = .ok (.putfield index, 3)) (hF : mm_Fl Y.1.cls index ci kf ty false) (hm : M a = some (.inr (ci, fs))) (hlen : kf < fs.length) (hn : narrow ty (mm_tr g v) = mm_tr g v) (hfit : fits ty (mm_tr g v) = true) (kk : ∀ M1 : mm_M, M1 = mm_up M a (.inr (ci, fs.set kf v)) → mm_Ev g l Y rm Q (pc + 3) ls st M1 n k j) : mm_Ev g l Y rm Q pc ls (v :: .ref a :: st) M n k j := by
  intro p e s m args below meth c H locs lsM hC hH hS hL
  obtain ⟨C, T, N, t, hc, hw, hk, hl, hT, hty, hnm, hfin, hd0⟩ := hF
  obtain ⟨hx, hb, -, -, hown, hts, -, hname, hI, -⟩ := id hC
  have hK := hI.1
  have hap := va_apart (own := Y.1.cls) hts hw t hty hnm hK hc
  obtain ⟨h1000, -, r, h1, cell, q1, q2, q3, q4⟩ := hH.2.2 a _ hm
  have hr : r = (C, T, N) := Option.some.inj (h1.symm.trans hc)
  subst hr
  obtain ⟨hSl, hfc, kC, hkC, hkind⟩ := hK.1 ci _ hc
  obtain ⟨cf, kf', fi, f, hi, hsl⟩ := hSl kf hk
  have hlay := hts _ (hw _ (u_in_lay hk))
  unfold u_lay at hlay
  rw [if_neg (by rw [hfin]; decide)] at hlay
  have hst := (u_facts hfc hkC (u_lays hts hw hk) hi).1
  have h6 := u_store hfc hkC hkind hlay hi hd0 hn hfit
  refine W.putK hx hb (f := f) ⟨hown, hts _ hl, ⟨_, _, _, by rw [hT] at hi; exact hi⟩, hst⟩ (by rw [q2]; exact h6) q1 q3 (by rw [hsl]; exact k2_hasslot (q4 kf hk)) rfl rfl hd fun H' e1 e2 e3 => ?_
  rw [hsl] at e1 ⊢
  refine kk _ rfl p e s m args below meth c H' _ lsM hC (hH.set hm e2 e3 ⟨_, hc, t_OB.to (V := updV (vp_V (fs.map (mm_tr g))) kf (mm_tr g v)) ⟨_, e1, q2, q3, t_set q4 hap hk _⟩ (fun q _ => ?_)⟩) (hS.put e2 e3 (mm_ad_A h1000)) hL
  rw [List.map_set]
  exact vp_updV_set (by rw [List.length_map]; exact hlen) _ q
theorem mm_putF {a ci kf index : Nat} {ty : FieldType} {fs : List Value} {v : Value} (hd : decode Y.2.1 pc = .ok (.putfield index, 3)) (hF : mm_Fl Y.1.cls index ci kf ty true) (hm : M a = some (.inr (ci, fs))) (hlen : kf < fs.length) (hn : narrow ty (mm_tr g v) = mm_tr g v) (hfit : fits ty (mm_tr g v) = true) (hin : Y.1.name = "<init>") (hcl : ∀ q : vw_C, mm_cl[ci]? = some q → q.1 = Y.1.cls) (kk : ∀ M1 : mm_M, M1 = mm_up M a (.inr (ci, fs.set kf v)) → mm_Ev g l Y rm Q (pc + 3) ls st M1 n k j) : mm_Ev g l Y rm Q pc ls (v :: .ref a :: st) M n k j := by
  intro p e s m args below meth c H locs lsM hC hH hS hL
  obtain ⟨C, T, N, t, hc, hw, hk, hl, hT, hty, hnm, hfin, hd0⟩ := hF
  obtain ⟨hx, hb, -, -, hown, hts, -, hname, hI, -⟩ := id hC
  have hK := hI.1
  have hap := va_apart (own := Y.1.cls) hts hw t hty hnm hK hc
  obtain ⟨h1000, -, r, h1, cell, q1, q2, q3, q4⟩ := hH.2.2 a _ hm
  have hr : r = (C, T, N) := Option.some.inj (h1.symm.trans hc)
  subst hr
  obtain ⟨hSl, hfc, kC, hkC, hkind⟩ := hK.1 ci _ hc
  obtain ⟨cf, kf', fi, f, hi, hsl⟩ := hSl kf hk
  have hlay := hts _ (hw _ (u_in_lay hk))
  unfold u_lay at hlay
  rw [if_pos hfin] at hlay
  have hst := (u_facts hfc hkC (u_lays hts hw hk) hi).1
  have hdecl : (T kf).1 = Y.1.cls := hT.trans (hcl _ hc)
  have hcf : m.cls = cf := by
    obtain ⟨_, _, c', _, _, _, -, -, hf', -, -, -, hown2, -⟩ := Cond.laysFinal_spec hlay
    have e1 : c' = cf := by have := hi.symm.trans hf'; simp at this; exact this.1.symm
    rw [hdecl] at hown2
    rw [← e1]; exact Option.some.inj (hown.symm.trans hown2)
  have h6 := u_fits hfc hkC hkind (Or.inr hlay) hi hd0 hn hfit
  refine W.putFinK hx hb hown (hts _ hl) (by rw [hT] at hi; exact hi) hst hcf (hname.1.trans hin) (by rw [q2]; exact h6) q1 q3 (by rw [hsl]; exact k2_hasslot (q4 kf hk)) rfl rfl hd fun H' e1 e2 e3 => ?_
  rw [hsl] at e1 ⊢
  refine kk _ rfl p e s m args below meth c H' _ lsM hC (hH.set hm e2 e3 ⟨_, hc, t_OB.to (V := updV (vp_V (fs.map (mm_tr g))) kf (mm_tr g v)) ⟨_, e1, q2, q3, t_set q4 hap hk _⟩ (fun q _ => ?_)⟩) (hS.put e2 e3 (mm_ad_A h1000)) hL
  rw [List.map_set]
  exact vp_updV_set (by rw [List.length_map]; exact hlen) _ q
theorem mm_iald {a t N : Nat} {f : Nat → Int32} {i : Int32} (hd : decode Y.2.1 pc = .ok (.iaload, 1)) (hm : M a = some (.inl (t, N, .inl f))) (ht : mm_ty[t]? = some .int) (hin : vp_in i N) (kk : mm_Ev g l Y rm Q (pc + 1) ls (.int (f i.toNatClampNeg) :: st) M n k j) : mm_Ev g l Y rm Q pc ls (.int i :: .ref a :: st) M n k j := by
  intro p e s m args below meth c H locs lsM hC hH hS hL
  exact va_iald hC.1 hC.2.1 hC.2.2.2.2.2.2.2.2.1.1 (hH.P hm) 0 t rfl (mm_tys_at ht) hin hd (kk p e s m args below meth c H locs lsM hC hH hS hL)
theorem mm_bald {a t N : Nat} {f : Nat → Int32} {i : Int32} (hd : decode Y.2.1 pc = .ok (.baload, 1)) (hm : M a = some (.inl (t, N, .inl f))) (ht : mm_ty[t]? = some .byte) (hin : vp_in i N) (kk : mm_Ev g l Y rm Q (pc + 1) ls (.int (f i.toNatClampNeg) :: st) M n k j) : mm_Ev g l Y rm Q pc ls (.int i :: .ref a :: st) M n k j := by
  intro p e s m args below meth c H locs lsM hC hH hS hL
  exact va_bald hC.1 hC.2.1 hC.2.2.2.2.2.2.2.2.1.1 (hH.P hm) 0 t rfl (mm_tys_at ht) hin hd (kk p e s m args below meth c H locs lsM hC hH hS hL)
theorem mm_zald {a t N : Nat} {f : Nat → Int32} {i : Int32} (hd : decode Y.2.1 pc = .ok (.baload, 1)) (hm : M a = some (.inl (t, N, .inl f))) (ht : mm_ty[t]? = some .boolean) (hin : vp_in i N) (kk : mm_Ev g l Y rm Q (pc + 1) ls (.int (f i.toNatClampNeg) :: st) M n k j) : mm_Ev g l Y rm Q pc ls (.int i :: .ref a :: st) M n k j := by
  intro p e s m args below meth c H locs lsM hC hH hS hL
  exact va_zald hC.1 hC.2.1 hC.2.2.2.2.2.2.2.2.1.1 (hH.P hm) 0 t rfl (mm_tys_at ht) hin hd (kk p e s m args below meth c H locs lsM hC hH hS hL)
theorem mm_cald {a t N : Nat} {f : Nat → Int32} {i : Int32} (hd : decode Y.2.1 pc = .ok (.caload, 1)) (hm : M a = some (.inl (t, N, .inl f))) (ht : mm_ty[t]? = some .char) (hin : vp_in i N) (kk : mm_Ev g l Y rm Q (pc + 1) ls (.int (f i.toNatClampNeg) :: st) M n k j) : mm_Ev g l Y rm Q pc ls (.int i :: .ref a :: st) M n k j := by
  intro p e s m args below meth c H locs lsM hC hH hS hL
  exact va_cald hC.1 hC.2.1 hC.2.2.2.2.2.2.2.2.1.1 (hH.P hm) 0 t rfl (mm_tys_at ht) hin hd (kk p e s m args below meth c H locs lsM hC hH hS hL)
theorem mm_lald {a t N : Nat} {f : Nat → Int64} {i : Int32} (hd : decode Y.2.1 pc = .ok (.laload, 1)) (hm : M a = some (.inl (t, N, .inr (.inl f)))) (ht : mm_ty[t]? = some .long) (hin : vp_in i N) (kk : mm_Ev g l Y rm Q (pc + 1) ls (.long (f i.toNatClampNeg) :: st) M n k j) : mm_Ev g l Y rm Q pc ls (.int i :: .ref a :: st) M n k j := by
  intro p e s m args below meth c H locs lsM hC hH hS hL
  exact va_lald hC.1 hC.2.1 hC.2.2.2.2.2.2.2.2.1.1 (hH.P hm) 0 t rfl (mm_tys_at ht) hin hd (kk p e s m args below meth c H locs lsM hC hH hS hL)
theorem mm_aald {a t N : Nat} {C : String} {f : Nat → Option Nat} {i : Int32} {x : Nat} (hd : decode Y.2.1 pc = .ok (.aaload, 1)) (hm : M a = some (.inl (t, N, .inr (.inr (.inr (.inr f)))))) (ht : mm_ty[t]? = some (.object C)) (hin : vp_in i N) (hf : f i.toNatClampNeg = some x) (kk : mm_Ev g l Y rm Q (pc + 1) ls (.ref x :: st) M n k j) : mm_Ev g l Y rm Q pc ls (.int i :: .ref a :: st) M n k j := by
  intro p e s m args below meth c H locs lsM hC hH hS hL
  refine va_aldq hC.1 hC.2.1 hC.2.2.2.2.2.2.2.2.1.1 (hH.P hm) 0 t rfl (mm_tys_at ht) hin hd ?_
  rw [hf]
  exact kk p e s m args below meth c H locs lsM hC hH hS hL
theorem mm_alen {a t : Nat} {x : vp_A} {ty : FieldType} {v : Int32} (hd : decode Y.2.1 pc = .ok (.arraylength, 1)) (hm : M a = some (.inl (t, x))) (ht : mm_ty[t]? = some ty) (hv : Int32.ofNat x.1 = v) (kk : mm_Ev g l Y rm Q (pc + 1) ls (.int v :: st) M n k j) : mm_Ev g l Y rm Q pc ls (.ref a :: st) M n k j := by
  intro p e s m args below meth c H locs lsM hC hH hS hL
  refine va_alen hC.1 hC.2.1 hC.2.2.2.2.2.2.2.2.1.1 (hH.P hm) 0 t rfl (mm_tys_at ht) ?_ hd (kk p e s m args below meth c H locs lsM hC hH hS hL)
  rw [← hv]
  obtain ⟨N, y⟩ := x
  rcases y with y | y | y | y | y <;> rfl
theorem mm_tiald {q0 : Nat} {q : String × String × List Int32} {i : Int32} (hd : decode Y.2.1 pc = .ok (.iaload, 1)) (hq : mm_sta[q0]? = some q) (h0 : q0 < 1000) (hin : vp_in i q.2.2.length) (kk : mm_Ev g l Y rm Q (pc + 1) ls (.int (q.2.2.getD i.toNatClampNeg 0) :: st) M n k j) : mm_Ev g l Y rm Q pc ls (.int i :: .ref q0 :: st) M n k j := by
  intro p e s m args below meth c H locs lsM hC hH hS hL
  have ha : mm_ad g q0 = g.2.2.2 q0 := by unfold mm_ad; rw [if_pos h0]
  show W p l e rm s m args below meth c H locs k j _ (F0 m pc lsM (.int i :: .ref (mm_ad g q0) :: st.map (mm_tr g)))
  rw [ha]
  exact va_ti hC.1 hC.2.1 (hC.2.2.2.2.2.2.2.2.1.2.1 q0 q hq).2 hS hin rfl hd (kk p e s m args below meth c H locs lsM hC hH hS hL)
theorem mm_gets {q0 index : Nat} {q : String × String × List Int32} (hd : decode Y.2.1 pc = .ok (.getstatic index, 3)) (hq : mm_sta[q0]? = some q) (h0 : q0 < 1000) (hl : Cond.fieldLink Y.1.cls index q.1 q.2.1 "[I" ∈ mm_tb) (kk : mm_Ev g l Y rm Q (pc + 3) ls (.ref q0 :: st) M n k j) : mm_Ev g l Y rm Q pc ls st M n k j := by
  intro p e s m args below meth c H locs lsM hC hH hS hL
  have ha : mm_ad g q0 = g.2.2.2 q0 := by unfold mm_ad; rw [if_pos h0]
  refine va_gets hC.1 hC.2.1 (hC.2.2.2.2.2.2.2.2.1.2.1 q0 q hq).1 hS hC.2.2.2.2.1 (hC.2.2.2.2.2.1 _ hl) (fun _ h => h) hd ?_
  rw [← ha]
  exact kk p e s m args below meth c H locs lsM hC hH hS hL
theorem mm_iast {a t N : Nat} {f : Nat → Int32} {i : Int32} {x : Int32} (hd : decode Y.2.1 pc = .ok (.iastore, 1)) (hm : M a = some (.inl (t, N, .inl f))) (ht : mm_ty[t]? = some .int) (hin : vp_in i N) (kk : ∀ M1 : mm_M, M1 = mm_up M a (.inl (t, N, .inl (upd f i.toNatClampNeg x))) → mm_Ev g l Y rm Q (pc + 1) ls st M1 n k j) : mm_Ev g l Y rm Q pc ls (.int x :: .int i :: .ref a :: st) M n k j := by
  intro p e s m args below meth c H locs lsM hC hH hS hL
  obtain ⟨h1000, -, hat⟩ := hH.2.2 a _ hm
  refine W.iast hC.1 hC.2.1 hat ((hC.2.2.2.2.2.2.2.2.1.1.2 t _ (mm_tys_at ht)).1 N (fun q => .int (f q))) (fun q => by cases q) (by show ¬ (i < 0 ∨ (arrV _ _ _).slots.size ≤ _); rw [arrV_size]; exact hin) rfl rfl hd fun H1 e1 z oq => ?_
  refine kk _ rfl p e s m args below meth c H1 _ lsM hC (hH.set hm z oq ?_) (hS.put z oq (mm_ad_A h1000)) hL
  show H1[_]? = some (vp_cell _ _)
  rw [e1]
  show some ((vp_cell _ (N, .inl f)).setSlot _ _) = some (vp_cell _ (N, .inl (upd f i.toNatClampNeg x)))
  rw [vp_cell_i, vp_cell_i, arrV_store]
  congr 2
  funext q
  by_cases hq : q = i.toNatClampNeg
  · subst hq
    simp [updV, upd, vp_updL, vp_nar]
    try rfl
  · simp [updV, upd, vp_updL, hq]
theorem mm_bast {a t N : Nat} {f : Nat → Int32} {i : Int32} {x : Int32} (hd : decode Y.2.1 pc = .ok (.bastore, 1)) (hm : M a = some (.inl (t, N, .inl f))) (ht : mm_ty[t]? = some .byte) (hin : vp_in i N) (kk : ∀ M1 : mm_M, M1 = mm_up M a (.inl (t, N, .inl (upd f i.toNatClampNeg (vp_nar .byte x)))) → mm_Ev g l Y rm Q (pc + 1) ls st M1 n k j) : mm_Ev g l Y rm Q pc ls (.int x :: .int i :: .ref a :: st) M n k j := by
  intro p e s m args below meth c H locs lsM hC hH hS hL
  obtain ⟨h1000, -, hat⟩ := hH.2.2 a _ hm
  refine W.bast hC.1 hC.2.1 hat ((hC.2.2.2.2.2.2.2.2.1.1.2 t _ (mm_tys_at ht)).1 N (fun q => .int (f q))) (fun q => by cases q) (by show ¬ (i < 0 ∨ (arrV _ _ _).slots.size ≤ _); rw [arrV_size]; exact hin) rfl rfl hd fun H1 e1 z oq => ?_
  refine kk _ rfl p e s m args below meth c H1 _ lsM hC (hH.set hm z oq ?_) (hS.put z oq (mm_ad_A h1000)) hL
  show H1[_]? = some (vp_cell _ _)
  rw [e1]
  show some ((vp_cell _ (N, .inl f)).setSlot _ _) = some (vp_cell _ (N, .inl (upd f i.toNatClampNeg (vp_nar .byte x))))
  rw [vp_cell_i, vp_cell_i, arrV_store]
  congr 2
  funext q
  by_cases hq : q = i.toNatClampNeg
  · subst hq
    simp [updV, upd, vp_updL, vp_nar]
    try rfl
  · simp [updV, upd, vp_updL, hq]
theorem mm_zast {a t N : Nat} {f : Nat → Int32} {i : Int32} {x : Int32} (hd : decode Y.2.1 pc = .ok (.bastore, 1)) (hm : M a = some (.inl (t, N, .inl f))) (ht : mm_ty[t]? = some .boolean) (hin : vp_in i N) (kk : ∀ M1 : mm_M, M1 = mm_up M a (.inl (t, N, .inl (upd f i.toNatClampNeg (vp_nar .boolean x)))) → mm_Ev g l Y rm Q (pc + 1) ls st M1 n k j) : mm_Ev g l Y rm Q pc ls (.int x :: .int i :: .ref a :: st) M n k j := by
  intro p e s m args below meth c H locs lsM hC hH hS hL
  obtain ⟨h1000, -, hat⟩ := hH.2.2 a _ hm
  refine W.zast hC.1 hC.2.1 hat ((hC.2.2.2.2.2.2.2.2.1.1.2 t _ (mm_tys_at ht)).1 N (fun q => .int (f q))) (fun q => by cases q) (by show ¬ (i < 0 ∨ (arrV _ _ _).slots.size ≤ _); rw [arrV_size]; exact hin) rfl rfl hd fun H1 e1 z oq => ?_
  refine kk _ rfl p e s m args below meth c H1 _ lsM hC (hH.set hm z oq ?_) (hS.put z oq (mm_ad_A h1000)) hL
  show H1[_]? = some (vp_cell _ _)
  rw [e1]
  show some ((vp_cell _ (N, .inl f)).setSlot _ _) = some (vp_cell _ (N, .inl (upd f i.toNatClampNeg (vp_nar .boolean x))))
  rw [vp_cell_i, vp_cell_i, arrV_store]
  congr 2
  funext q
  by_cases hq : q = i.toNatClampNeg
  · subst hq
    simp [updV, upd, vp_updL, vp_nar]
    try rfl
  · simp [updV, upd, vp_updL, hq]
theorem mm_cast {a t N : Nat} {f : Nat → Int32} {i : Int32} {x : Int32} (hd : decode Y.2.1 pc = .ok (.castore, 1)) (hm : M a = some (.inl (t, N, .inl f))) (ht : mm_ty[t]? = some .char) (hin : vp_in i N) (kk : ∀ M1 : mm_M, M1 = mm_up M a (.inl (t, N, .inl (upd f i.toNatClampNeg (vp_nar .char x)))) → mm_Ev g l Y rm Q (pc + 1) ls st M1 n k j) : mm_Ev g l Y rm Q pc ls (.int x :: .int i :: .ref a :: st) M n k j := by
  intro p e s m args below meth c H locs lsM hC hH hS hL
  obtain ⟨h1000, -, hat⟩ := hH.2.2 a _ hm
  refine W.cast hC.1 hC.2.1 hat ((hC.2.2.2.2.2.2.2.2.1.1.2 t _ (mm_tys_at ht)).1 N (fun q => .int (f q))) (fun q => by cases q) (by show ¬ (i < 0 ∨ (arrV _ _ _).slots.size ≤ _); rw [arrV_size]; exact hin) rfl rfl hd fun H1 e1 z oq => ?_
  refine kk _ rfl p e s m args below meth c H1 _ lsM hC (hH.set hm z oq ?_) (hS.put z oq (mm_ad_A h1000)) hL
  show H1[_]? = some (vp_cell _ _)
  rw [e1]
  show some ((vp_cell _ (N, .inl f)).setSlot _ _) = some (vp_cell _ (N, .inl (upd f i.toNatClampNeg (vp_nar .char x))))
  rw [vp_cell_i, vp_cell_i, arrV_store]
  congr 2
  funext q
  by_cases hq : q = i.toNatClampNeg
  · subst hq
    simp [updV, upd, vp_updL, vp_nar]
    try rfl
  · simp [updV, upd, vp_updL, hq]
theorem mm_last {a t N : Nat} {f : Nat → Int64} {i : Int32} {x : Int64} (hd : decode Y.2.1 pc = .ok (.lastore, 1)) (hm : M a = some (.inl (t, N, .inr (.inl f)))) (ht : mm_ty[t]? = some .long) (hin : vp_in i N) (kk : ∀ M1 : mm_M, M1 = mm_up M a (.inl (t, N, .inr (.inl (vp_updL f i.toNatClampNeg x)))) → mm_Ev g l Y rm Q (pc + 1) ls st M1 n k j) : mm_Ev g l Y rm Q pc ls (.long x :: .int i :: .ref a :: st) M n k j := by
  intro p e s m args below meth c H locs lsM hC hH hS hL
  obtain ⟨h1000, -, hat⟩ := hH.2.2 a _ hm
  refine W.last hC.1 hC.2.1 hat ((hC.2.2.2.2.2.2.2.2.1.1.2 t _ (mm_tys_at ht)).1 N (fun q => .long (f q))) (fun q => by cases q) (by show ¬ (i < 0 ∨ (arrV _ _ _).slots.size ≤ _); rw [arrV_size]; exact hin) rfl rfl hd fun H1 e1 z oq => ?_
  refine kk _ rfl p e s m args below meth c H1 _ lsM hC (hH.set hm z oq ?_) (hS.put z oq (mm_ad_A h1000)) hL
  show H1[_]? = some (vp_cell _ _)
  rw [e1]
  show some ((vp_cell _ (N, .inr (.inl f))).setSlot _ _) = some (vp_cell _ (N, .inr (.inl (vp_updL f i.toNatClampNeg x))))
  rw [vp_cell_l, vp_cell_l, arrV_store]
  congr 2
  funext q
  by_cases hq : q = i.toNatClampNeg
  · subst hq
    simp [updV, upd, vp_updL, vp_nar]
    try rfl
  · simp [updV, upd, vp_updL, hq]
theorem mm_new {index ci N : Nat} {fs : List Value} (hd : decode Y.2.1 pc = .ok (.new index, 3)) (hN : mm_Nl Y.1.cls index ci N fs) (hcells : k + 1 ≤ rm.cells) (hslots : j + N ≤ rm.slots) (kk : ∀ M1 : mm_M, M1 = mm_up M n (.inr (ci, fs)) → mm_Ev g l Y rm Q (pc + 3) ls (.ref n :: st) M1 (n + 1) (k + 1) (j + N)) : mm_Ev g l Y rm Q pc ls st M n k j := by
  intro p e s m args below meth c H locs lsM hC hH hS hL
  obtain ⟨C, T, t, hc, hw, hty, w1, w2, w3, hfs, hmap⟩ := hN
  obtain ⟨hx, hb, -, -, hown, hts, -, -, hI, hbs⟩ := id hC
  have hKn := hI.1.1 ci _ hc
  refine W.newcK hx hb hown (hts _ w1) (hts _ w2) (hts _ w3) rfl hd hcells hslots hKn.2.1 rfl fun H1 kC hkC e1 z1 o1 => ?_
  have hend := hH.end
  have h9 := kk _ rfl p e s m args below meth c H1 locs lsM hC (hH.push z1 o1 (by
    rw [hend]
    show va_at _ _ (H.size, .inr (ci, fs.map (mm_tr g))) H1
    rw [hmap g]
    exact ⟨_, hc, (u_born t hts hw hKn hkC e1 hty).to hfs⟩)) ⟨Nat.le_trans hS.1 (by omega), fun q h1 h2 => (o1 q (Nat.lt_of_lt_of_le h1 hS.1)).trans (hS.2.1 q h1 h2), hS.2.2⟩ hL
  have e9 : mm_tr g (.ref n) = .ref H.size := by show Value.ref (mm_ad g n) = _; rw [hend]
  rw [List.map_cons, e9] at h9
  exact h9
end MMHP
end
section
/-! Ends, entering, calls. -/
theorem mm_fin_of {g : mm_G} {mc ms n : Nat} {below : List Frame} {args : Array Value} {s t : State} {Q : mm_O → Prop} {v : Option Value} {M : mm_M} {H : Heap} (hQ : Q (.inl v, M, n)) (hH : mm_H g M n H) (hlow : ∀ q : Nat, q < g.2.2.1 → H[q]? = s.heap[q]?) (h : MQ below (fun _ _ o t => o = .returned (v.map (mm_tr g)) ∧ t.heap = H) args s mc ms (mm_A g) t) : mm_Fin g mc ms below s Q t := by
  obtain ⟨o, h1, h2, ⟨h3, h4⟩, L, ⟨-, h5, h6⟩, h7⟩ := h
  exact ⟨o, h1, h2, (.inl v, M, n), L, hQ, by rw [h4]; exact hH, fun q hq => by rw [h4]; exact hlow q hq, h7, h5, h6, h3⟩
theorem mm_low {g : mm_G} {s : State} {H : Heap} {locs : List Loc} (hS : va_S (mm_A g) s.heap H locs) (hb : g.2.2.1 ≤ s.heap.size) : ∀ q : Nat, q < g.2.2.1 → H[q]? = s.heap[q]? := fun q hq => hS.2.1 q (Nat.lt_of_lt_of_le hq hb) (fun z => absurd hq (Nat.not_lt.mpr z))
theorem mm_H.base {g : mm_G} {M : mm_M} {n : Nat} {H : Heap} (h : mm_H g M n H) : g.2.2.1 ≤ H.size := by
  have h1 := h.1
  have h2 := h.2.1
  omega
section MMRT
variable {g : mm_G} {l : Launch} {Y : mm_Y} {rm : Room} {Q : mm_O → Prop} {pc : Nat} {ls : List (Option Value)} {st : List Value} {M : mm_M} {n k j : Nat}
theorem mm_iret {v : Int32} (hd : decode Y.2.1 pc = .ok (.ireturn, 1)) (hr : Y.2.2.2 = some .int) (hk : k ≤ rm.cells) (hj : j ≤ rm.slots) (hQ : Q (.inl (some (.int v)), M, n)) : mm_Ev g l Y rm Q pc ls [.int v] M n k j := by
  intro p e s m args below meth c H locs lsM hC hH hS hL
  obtain ⟨hx, hb, -, hrt, -, -, hlk, -, -, hbs⟩ := id hC
  refine W.widen hk hj (mm_W_mono (fun t ht => mm_fin_of (args := args) hQ hH (mm_low hS hbs) ht) ?_)
  exact W.iret (v := v) hx hb (hrt.trans hr) (fun t ht hW => ⟨rfl, ht⟩) hS.2.2 hd hlk
theorem mm_zret {v : Int32} {ty : FieldType} (hd : decode Y.2.1 pc = .ok (.ireturn, 1)) (hr : Y.2.2.2 = some ty) (hn : narrow ty (.int v) = .int v) (hk : k ≤ rm.cells) (hj : j ≤ rm.slots) (hQ : Q (.inl (some (.int v)), M, n)) : mm_Ev g l Y rm Q pc ls [.int v] M n k j := by
  intro p e s m args below meth c H locs lsM hC hH hS hL
  obtain ⟨hx, hb, -, hrt, -, -, hlk, -, -, hbs⟩ := id hC
  refine W.widen hk hj (mm_W_mono (fun t ht => mm_fin_of (args := args) hQ hH (mm_low hS hbs) ht) ?_)
  exact W.zret (v := v) hx hb (hrt.trans hr) hn (fun t ht hW => ⟨rfl, ht⟩) hS.2.2 hd hlk
theorem mm_lret {v : Int64} (hd : decode Y.2.1 pc = .ok (.lreturn, 1)) (hr : Y.2.2.2 = some .long) (hk : k ≤ rm.cells) (hj : j ≤ rm.slots) (hQ : Q (.inl (some (.long v)), M, n)) : mm_Ev g l Y rm Q pc ls [.long v] M n k j := by
  intro p e s m args below meth c H locs lsM hC hH hS hL
  obtain ⟨hx, hb, -, hrt, -, -, hlk, -, -, hbs⟩ := id hC
  refine W.widen hk hj (mm_W_mono (fun t ht => mm_fin_of (args := args) hQ hH (mm_low hS hbs) ht) ?_)
  exact W.lret (v := v) hx hb (hrt.trans hr) (fun t ht hW => ⟨rfl, ht⟩) hS.2.2 hd hlk
theorem mm_vret (hd : decode Y.2.1 pc = .ok (.return_, 1)) (hr : Y.2.2.2 = none) (hk : k ≤ rm.cells) (hj : j ≤ rm.slots) (hQ : Q (.inl none, M, n)) : mm_Ev g l Y rm Q pc ls [] M n k j := by
  intro p e s m args below meth c H locs lsM hC hH hS hL
  obtain ⟨hx, hb, -, hrt, -, -, hlk, -, -, hbs⟩ := id hC
  refine W.widen hk hj (mm_W_mono (fun t ht => mm_fin_of (args := args) hQ hH (mm_low hS hbs) ht) ?_)
  exact W.vret hx hb (hrt.trans hr) (fun t ht hW => ⟨rfl, ht⟩) hS.2.2 hd hlk
theorem mm_aret {a : Nat} {C : String} (hd : decode Y.2.1 pc = .ok (.areturn, 1)) (hr : Y.2.2.2 = some (.object C)) (hk : k ≤ rm.cells) (hj : j ≤ rm.slots) (hQ : Q (.inl (some (.ref a)), M, n)) : mm_Ev g l Y rm Q pc ls [.ref a] M n k j := by
  intro p e s m args below meth c H locs lsM hC hH hS hL
  obtain ⟨hx, hb, -, hrt, -, -, hlk, -, -, hbs⟩ := id hC
  refine W.widen hk hj (mm_W_mono (fun t ht => mm_fin_of (args := args) hQ hH (mm_low hS hbs) ht) ?_)
  exact W.aret (v := .ref (mm_ad g a)) hx hb (hrt.trans hr) (Or.inl ⟨_, rfl⟩) (Or.inr ⟨_, rfl⟩) (fun t ht hW => ⟨rfl, ht⟩) hS.2.2 hd hlk
end MMRT
def mm_wd (Y : mm_Y) : List Cond := Cond.code Y.1 Y.2.1 Y.2.2.1 Y.2.2.2 :: mm_tb
def mm_Met (g : mm_G) (l : Launch) (Y : mm_Y) (rm : Room) (as : List Value) (M : mm_M) (n : Nat) (Q : mm_O → Prop) : Prop :=
  MetFree l Y.1 (headSpec (mm_wd Y) rm) (fun a U => a = (as.map (mm_tr g)).toArray ∧ mm_I g U U.heap ∧ mm_H g M n U.heap) (fun _ _ _ _ _ => True) (fun _ st o t => mm_Po g rm.cells rm.slots st Q o t)
def mm_ent : List Value → List (Option Value)
  | [] => []
  | v :: vs => match v with
    | .long x => some (.long x) :: none :: mm_ent vs
    | .double x => some (.double x) :: none :: mm_ent vs
    | v => some v :: mm_ent vs
theorem mm_ent_in {g : mm_G} : ∀ (as : List Value) (b i : Nat) (v : Value), mm_lg (mm_ent as) i = some v → (b + i, mm_tr g v) ∈ lv_args b (as.map (mm_tr g)) := by
  intro as
  induction as with
  | nil => intro b i v h; cases h
  | cons w as ih =>
    intro b i v h
    have one : (mm_ent (w :: as) = some w :: mm_ent as ∧ (mm_tr g w).category = 1) ∨ (mm_ent (w :: as) = some w :: none :: mm_ent as ∧ (mm_tr g w).category = 2) := by
      cases w <;> first | exact Or.inl ⟨rfl, rfl⟩ | exact Or.inr ⟨rfl, rfl⟩
    rw [List.map_cons, lv_args]
    rcases one with ⟨h1, h2⟩ | ⟨h1, h2⟩
    · rw [h1] at h
      rw [if_neg (by omega)]
      cases i with
      | zero => cases h; exact List.mem_cons_self
      | succ i =>
        have := ih (b + 1) i v h
        rw [show b + 1 + i = b + (i + 1) by omega] at this
        exact List.mem_cons_of_mem _ this
    · rw [h1] at h
      rw [if_pos h2]
      cases i with
      | zero => cases h; exact List.mem_cons_self
      | succ i =>
        cases i with
        | zero => cases h
        | succ i =>
          have := ih (b + 2) i v h
          rw [show b + 2 + i = b + (i + 1 + 1) by omega] at this
          exact List.mem_cons_of_mem _ this
theorem mm_enter {g : mm_G} {l : Launch} {Y : mm_Y} {rm : Room} {as : List Value} {M : mm_M} {n : Nat} {Q : mm_O → Prop} (hy : plainName Y.1.cls = true) (hfit : (lg_sl (as.map (mm_tr g))).length ≤ Y.2.2.1) (h : mm_Ev g l Y rm Q 0 (mm_ent as) [] M n 0 0) : mm_Met g l Y rm as M n Q := by
  refine MetFree.of_bodyS (code := Y.2.1) (maxLocals := Y.2.2.1) (ret := Y.2.2.2) hy ?_ ?_
  · intro args s m h hn
    obtain ⟨meth, c, h1, h2, h3, h4, h5, h6, -, -⟩ := Cond.code_spec hn (atoms_spec (ws := mm_wd Y) h _ List.mem_cons_self)
    exact ⟨meth, c, h1, h2, h3, h4, h5, h6⟩
  · intro p e s m args below meth c s₁ B hml hP _
    obtain ⟨rfl, hI, hH⟩ := hP
    have hh0 : s₁.heap = s.heap := by rw [B.state]; rfl
    have hts0 := atoms_spec (ws := mm_wd Y) B.pre
    have hC : mm_Cx g Y p s m (as.map (mm_tr g)).toArray meth c := ⟨B.exec, B.bytes, hml, B.returns, findClass_of_methodNamed B.named, fun w hw => hts0 w (List.mem_cons_of_mem _ hw), B.notSynchronized, ⟨(name_of_methodNamed B.named B.method).1, B.named⟩, hI, hH.base⟩
    have hl := lv_entry (as.map (mm_tr g)) (n := Y.2.2.1) hfit
    have hL : mm_L g Y.2.2.1 (mm_ent as) ((lg_sl (as.map (mm_tr g)) ++ List.replicate (Y.2.2.1 - (lg_sl (as.map (mm_tr g))).length) Slot.unset).toArray) := by
      refine ⟨hl.1, hl.2.1, fun i v hv => ?_⟩
      have h9 := mm_ent_in (g := g) as 0 i v hv
      rw [Nat.zero_add] at h9
      exact hl.2.2 _ h9
    obtain ⟨t, a1, o, b1, b2, b3⟩ := h p e s m _ below meth c s.heap [] _ hC hH va_S.rf hL s₁ hh0 (Stand.of_body B)
    refine ⟨t, o, ?_, b1, b2, b3⟩
    rw [lg_entry_eq]
    exact a1
end
section
/-! Calls in the judgement: the callee returns, or throws. -/
/-- what is behind an exception of class i that a call at pc has thrown -/
def mm_Tv (g : mm_G) (l : Launch) (Y : mm_Y) (rm : Room) (Q : mm_O → Prop) (pc : Nat) (ls : List (Option Value)) (st : List Value) (M : mm_M) (n k j i : Nat) : Prop :=
  ∀ (p : Program) (e : Env) (s : State) (m : MethodId) (args : Array Value) (below : List Frame) (meth : Method) (c : Code) (H : Heap) (locs : List Loc) (lsM : Array Slot) (x : Addr),
    mm_Cx g Y p s m args meth c → mm_H g M n H → va_S (mm_A g) s.heap H locs → mm_L g Y.2.2.1 ls lsM → (∃ t : State, t.heap = H ∧ s.WarmedH t.vm ∧ mm_Xc i x t) → mm_Th p l e rm s m args below meth c H locs k j (mm_Fin g rm.cells rm.slots below s Q) (F0 m pc lsM (st.map (mm_tr g))) x
/-- a method's own words -/
def mm_Yw (Y : mm_Y) (np : Nat) : Prop := Cond.code Y.1 Y.2.1 Y.2.2.1 Y.2.2.2 ∈ mm_tb ∧ Cond.initialized Y.1.cls ∈ mm_tb ∧ (Y.1.cls ≠ "java/lang/invoke/MethodHandle" ∧ Y.1.cls ≠ "java/lang/invoke/VarHandle") ∧ (parseMethodDescriptor Y.1.desc).map (fun d => d.parameters.length) = some np
theorem mm_Yw.len {Y : mm_Y} {np : Nat} (h : mm_Yw Y np) : ∀ sig, parseMethodDescriptor Y.1.desc = some sig → np = sig.parameters.length := fun sig hs => by
  have h2 := h.2.2.2
  rw [hs] at h2
  exact (Option.some.inj h2).symm
def mm_Vl (own : String) (index ci np : Nat) (Y : mm_Y) : Prop := mm_Yw Y np ∧ ∃ q : vw_C, mm_cl[ci]? = some q ∧ Cond.methodLink own index Y.1 ∈ mm_tb ∧ Cond.instanceMethod Y.1 ∈ mm_tb ∧ Cond.selects q.1 Y.1 Y.1 ∈ mm_tb
def mm_Sl (own : String) (index np : Nat) (Y : mm_Y) : Prop := mm_Yw Y np ∧ Cond.methodLink own index Y.1 ∈ mm_tb ∧ Cond.static Y.1 ∈ mm_tb
def mm_Il (own : String) (index np : Nat) (Y : mm_Y) : Prop := mm_Yw Y np ∧ Cond.methodLink own index Y.1 ∈ mm_tb ∧ Cond.instanceMethod Y.1 ∈ mm_tb ∧ Y.1.name = "<init>" ∧ Y.2.2.2 = none
theorem mm_cat_sum (g : mm_G) (st : List Value) : ((st.map (mm_tr g)).map fun v => v.category).sum = (st.map fun v => v.category).sum := by
  rw [List.map_map]
  congr 1
  exact List.map_congr_left (fun v _ => mm_tr_cat g v)
section MMCL
variable {g : mm_G} {l : Launch} {Y : mm_Y} {rm : Room} {Q : mm_O → Prop} {pc : Nat} {ls : List (Option Value)} {st : List Value} {M : mm_M} {n k j : Nat}
theorem mm_pay {Z : mm_Y} {rz : Room} {np : Nat} (hZ : mm_Yw Z np) {s : State} {args a : Array Value} (hts : ∀ w ∈ mm_tb, w.before args s = true) {U : State} {mk : MethodId} (hW : s.WarmedH U.vm) (hn : U.methodNamed? Z.1 = some mk) : (headSpec (mm_wd Z) rz).pre.before a U = true ∧ (Cond.initialized Z.1.cls).before a U = true ∧ ∃ methY cY, U.vm.method? mk = some methY ∧ methY.code = some cY ∧ cY.maxLocals = Z.2.2.1 := by
  have h := mm_tb_good hts hW a
  obtain ⟨methY, cY, h1, h2, -, h4, -⟩ := Cond.code_spec hn (h _ hZ.1)
  refine ⟨atoms_intro (ws := mm_wd Z) (fun w hw => ?_), h _ hZ.2.1, methY, cY, h1, h2, h4⟩
  rcases List.mem_cons.mp hw with rfl | hw
  · exact h _ hZ.1
  · exact h _ hw
theorem mm_callV {Z : mm_Y} {rz : Room} {Qz : mm_O → Prop} {a ci index np : Nat} {fs as : List Value} (hd : decode Y.2.1 pc = .ok (.invokevirtual index, 3)) (hZ : mm_Vl Y.1.cls index ci np Z) (hM : mm_Met g l Z rz (.ref a :: as) M n Qz) (hm : M a = some (.inr (ci, fs))) (hlen : as.length = np)
    (hroom : rz.frames + 1 ≤ rm.frames ∧ (st.map fun v => v.category).sum + (Z.2.2.1 + 11) + rz.locals ≤ rm.locals) (hk : k + rz.cells ≤ rm.cells) (hj : j + rz.slots ≤ rm.slots)
    (kr : ∀ (v : Option Value) (M1 : mm_M) (n1 : Nat), Qz (.inl v, M1, n1) → mm_Ev g l Y rm Q (pc + 3) ls (v.toList ++ st) M1 n1 (k + rz.cells) (j + rz.slots))
    (kt : ∀ (i : Nat) (M1 : mm_M) (n1 : Nat), Qz (.inr i, M1, n1) → mm_Tv g l Y rm Q pc ls st M1 n1 (k + rz.cells) (j + rz.slots) i) : mm_Ev g l Y rm Q pc ls (as.reverse ++ .ref a :: st) M n k j := by
  intro p e s m args below meth c H locs lsM hC hH hS hL
  obtain ⟨hx, hb, hml, -, hown, hts, -, -, hI, hbs⟩ := id hC
  obtain ⟨hYw, q, hc, w1, w2, w3⟩ := hZ
  obtain ⟨cellB, hcB, hoB, hclB⟩ := va_recv hI.1 (hH.P hm) hc (q0 := 0) rfl
  have hst : (as.reverse ++ .ref a :: st).map (mm_tr g) = (as.map (mm_tr g)).reverse ++ .ref (mm_ad g a) :: st.map (mm_tr g) := by
    rw [List.map_append, List.map_reverse]; rfl
  rw [hst]
  obtain ⟨mk0, methM0, hnamed0, hmeth0, -, -⟩ := Cond.instanceMethod_spec (hts _ w2)
  obtain ⟨methM', cM, hmethM', -, -, -, -, -, -, hsigM⟩ := Cond.code_spec hnamed0 (hts _ hYw.1)
  have hLk := mm_lkV (l := l) (e := e) (R := rm) (below := below) (meth := meth) (locs := locs) (cells := k) (slots := j) hx hown (hts _ w1) (hts _ w2) (hts _ w3) (sig0 := methM'.sig) (fun mk methM h1 h2 => by
    cases hnamed0.symm.trans h1
    cases hmethM'.symm.trans h2
    rfl) hYw.2.2.1 hcB hoB hclB (fr := F0 m pc lsM ((as.map (mm_tr g)).reverse ++ .ref (mm_ad g a) :: st.map (mm_tr g))) rfl (argsL := as.map (mm_tr g)) (rest := st.map (mm_tr g)) (by rw [List.length_map, hlen]; exact hYw.len _ hsigM) rfl (by rw [hb]; exact hd)
  refine mm_callAny (S := headSpec (mm_wd Z) rz) (maxL := Z.2.2.1) (Wd := (st.map fun v => v.category).sum) hLk hM rfl (by rw [hml]; exact hL.1) hroom.1 hroom.2 (by rw [mm_cat_sum]; show 2 * 0 + _ ≤ _; omega) (by rw [hb]; exact hd)
    (fun U mk hW hn => mm_pay hYw hts hW hn) hk hj (fun U hW hU => ⟨rfl, (hI.moved hW).kept (by rw [hU]; exact hS.2.1), by rw [hU]; exact hH⟩) hS hbs
    (fun v M1 n1 H1 locs1 hQz hH1 hS1 => ?_) (fun i x M1 n1 H1 locs1 hQz hH1 hS1 hX => ?_)
  · have h9 := kr v M1 n1 hQz p e s m args below meth c H1 locs1 lsM hC hH1 hS1 hL
    rw [List.map_append] at h9
    cases v <;> exact h9
  · exact kt i M1 n1 hQz p e s m args below meth c H1 locs1 lsM x hC hH1 hS1 hL hX
theorem mm_callS {Z : mm_Y} {rz : Room} {Qz : mm_O → Prop} {index np : Nat} {as : List Value} (hd : decode Y.2.1 pc = .ok (.invokestatic index, 3)) (hZ : mm_Sl Y.1.cls index np Z) (hM : mm_Met g l Z rz as M n Qz) (hlen : as.length = np)
    (hroom : rz.frames + 1 ≤ rm.frames ∧ (st.map fun v => v.category).sum + (Z.2.2.1 + 11) + rz.locals ≤ rm.locals) (hk : k + rz.cells ≤ rm.cells) (hj : j + rz.slots ≤ rm.slots)
    (kr : ∀ (v : Option Value) (M1 : mm_M) (n1 : Nat), Qz (.inl v, M1, n1) → mm_Ev g l Y rm Q (pc + 3) ls (v.toList ++ st) M1 n1 (k + rz.cells) (j + rz.slots))
    (kt : ∀ (i : Nat) (M1 : mm_M) (n1 : Nat), Qz (.inr i, M1, n1) → mm_Tv g l Y rm Q pc ls st M1 n1 (k + rz.cells) (j + rz.slots) i) : mm_Ev g l Y rm Q pc ls (as.reverse ++ st) M n k j := by
  intro p e s m args below meth c H locs lsM hC hH hS hL
  obtain ⟨hx, hb, hml, -, hown, hts, -, -, hI, hbs⟩ := id hC
  obtain ⟨hYw, w1, w2⟩ := hZ
  have hst : (as.reverse ++ st).map (mm_tr g) = (as.map (mm_tr g)).reverse ++ st.map (mm_tr g) := by
    rw [List.map_append, List.map_reverse]
  rw [hst]
  obtain ⟨mk0, hnamed0⟩ := Cond.code_named (hts _ hYw.1)
  obtain ⟨methM', cM, hmethM', -, -, -, -, -, -, hsigM⟩ := Cond.code_spec hnamed0 (hts _ hYw.1)
  have hLk := mm_lkS (l := l) (e := e) (R := rm) (below := below) (meth := meth) (H := H) (locs := locs) (cells := k) (slots := j) hx hown (hts _ w1) (hts _ w2) (hts _ hYw.2.1) hnamed0 hmethM' (sig0 := methM'.sig) rfl hYw.2.2.1 (fr := F0 m pc lsM ((as.map (mm_tr g)).reverse ++ st.map (mm_tr g))) rfl (argsL := as.map (mm_tr g)) (rest := st.map (mm_tr g)) (by rw [List.length_map, hlen]; exact hYw.len _ hsigM) rfl (by rw [hb]; exact hd)
  refine mm_callAny (S := headSpec (mm_wd Z) rz) (maxL := Z.2.2.1) (Wd := (st.map fun v => v.category).sum) hLk hM rfl (by rw [hml]; exact hL.1) hroom.1 hroom.2 (by rw [mm_cat_sum]; show 2 * 0 + _ ≤ _; omega) (by rw [hb]; exact hd)
    (fun U mk hW hn => mm_pay hYw hts hW hn) hk hj (fun U hW hU => ⟨rfl, (hI.moved hW).kept (by rw [hU]; exact hS.2.1), by rw [hU]; exact hH⟩) hS hbs
    (fun v M1 n1 H1 locs1 hQz hH1 hS1 => ?_) (fun i x M1 n1 H1 locs1 hQz hH1 hS1 hX => ?_)
  · have h9 := kr v M1 n1 hQz p e s m args below meth c H1 locs1 lsM hC hH1 hS1 hL
    rw [List.map_append] at h9
    cases v <;> exact h9
  · exact kt i M1 n1 hQz p e s m args below meth c H1 locs1 lsM x hC hH1 hS1 hL hX
theorem mm_callI {Z : mm_Y} {rz : Room} {Qz : mm_O → Prop} {a index np : Nat} {as : List Value} (hd : decode Y.2.1 pc = .ok (.invokespecial index, 3)) (hZ : mm_Il Y.1.cls index np Z) (hM : mm_Met g l Z rz (.ref a :: as) M n Qz) (hlen : as.length = np)
    (hroom : rz.frames + 1 ≤ rm.frames ∧ (st.map fun v => v.category).sum + (Z.2.2.1 + 11) + rz.locals ≤ rm.locals) (hk : k + rz.cells ≤ rm.cells) (hj : j + rz.slots ≤ rm.slots)
    (kr : ∀ (v : Option Value) (M1 : mm_M) (n1 : Nat), Qz (.inl v, M1, n1) → mm_Ev g l Y rm Q (pc + 3) ls (v.toList ++ st) M1 n1 (k + rz.cells) (j + rz.slots))
    (kt : ∀ (i : Nat) (M1 : mm_M) (n1 : Nat), Qz (.inr i, M1, n1) → mm_Tv g l Y rm Q pc ls st M1 n1 (k + rz.cells) (j + rz.slots) i) : mm_Ev g l Y rm Q pc ls (as.reverse ++ .ref a :: st) M n k j := by
  intro p e s m args below meth c H locs lsM hC hH hS hL
  obtain ⟨hx, hb, hml, -, hown, hts, -, -, hI, hbs⟩ := id hC
  obtain ⟨hYw, w1, w2, hy1, hy2⟩ := hZ
  have hst : (as.reverse ++ .ref a :: st).map (mm_tr g) = (as.map (mm_tr g)).reverse ++ .ref (mm_ad g a) :: st.map (mm_tr g) := by
    rw [List.map_append, List.map_reverse]; rfl
  rw [hst]
  have hcode := hts _ hYw.1
  rw [hy2] at hcode
  have hLk := mm_lkI (l := l) (e := e) (R := rm) (below := below) (meth := meth) (H := H) (locs := locs) (cells := k) (slots := j) hx hown hy1 (hts _ w1) (hts _ w2) hcode hYw.2.2.1 (fr := F0 m pc lsM ((as.map (mm_tr g)).reverse ++ .ref (mm_ad g a) :: st.map (mm_tr g))) rfl (a := mm_ad g a) (argsL := as.map (mm_tr g)) (rest := st.map (mm_tr g)) (fun sig hs => by rw [List.length_map, hlen]; exact hYw.len _ hs) rfl (by rw [hb]; exact hd)
  refine mm_callAny (S := headSpec (mm_wd Z) rz) (maxL := Z.2.2.1) (Wd := (st.map fun v => v.category).sum) hLk hM rfl (by rw [hml]; exact hL.1) hroom.1 hroom.2 (by rw [mm_cat_sum]; show 2 * 0 + _ ≤ _; omega) (by rw [hb]; exact hd)
    (fun U mk hW hn => mm_pay hYw hts hW hn) hk hj (fun U hW hU => ⟨rfl, (hI.moved hW).kept (by rw [hU]; exact hS.2.1), by rw [hU]; exact hH⟩) hS hbs
    (fun v M1 n1 H1 locs1 hQz hH1 hS1 => ?_) (fun i x M1 n1 H1 locs1 hQz hH1 hS1 hX => ?_)
  · have h9 := kr v M1 n1 hQz p e s m args below meth c H1 locs1 lsM hC hH1 hS1 hL
    rw [List.map_append] at h9
    cases v <;> exact h9
  · exact kt i M1 n1 hQz p e s m args below meth c H1 locs1 lsM x hC hH1 hS1 hL hX
/-- an exception that isn't caught here leaves the method (its code has no handlers: its word is 'code') -/
theorem mm_out {np i : Nat} (hY : mm_Yw Y np) (hk : k ≤ rm.cells) (hj : j ≤ rm.slots) (hQ : Q (.inr i, M, n)) : mm_Tv g l Y rm Q pc ls st M n k j i := by
  intro p e s m args below meth c H locs lsM x hC hH hS hL hX T hT X0
  obtain ⟨hx, hb, hml, -, hown, hts, hlk, hnm, hI, hbs⟩ := id hC
  have X := stand_widen X0 hk hj
  obtain ⟨t0, ht0, hW0, cell, hce, hob, hcl⟩ := hX
  have hout : ∀ y ∈ c.exceptionTable.toList, covers y pc = false := by
    obtain ⟨meth', c', h1, h2, -, -, -, -, h3, -⟩ := Cond.code_spec hnm.2 (hts _ hY.1)
    cases X.method.symm.trans h1
    cases X.code.symm.trans h2
    intro y hy
    rw [Array.isEmpty_iff.mp h3] at hy
    simp at hy
  obtain ⟨hst, hrun, hend, hW, hsame⟩ := X.leaveThrown x (g := F0 m pc lsM (st.map (mm_tr g))) rfl rfl rfl hout hlk
  refine ⟨_, hst, .threw x, hrun, hend, (.inr i, M, n), locs, hQ, ?_, ?_, hS.2.2, hW, hsame, x, rfl, cell, ?_, hob, ?_⟩
  · show mm_H g M n T.heap
    rw [hT]; exact hH
  · intro q hq
    show T.heap[q]? = _
    rw [hT]
    exact mm_low hS hbs q hq
  · show T.heap[x]? = _
    rw [hT, ← ht0]; exact hce
  · show T.vm.findClass _ = _
    rw [X.warmed.alike.findClass, ← hW0.alike.findClass]; exact hcl
end MMCL
end
section
/-! 'throw new E("text")', from the 'new' to the method's end. -/
section MMRS
variable {p : Program} {l : Launch} {e : Env} {R : Room} {s : State} {m : MethodId} {args : Array Value} {below : List Frame} {meth : Method} {c : Code} {T : State} {locs : List Loc} {cells slots : Nat}
/-- the state in which the invocation would have begun with the heap as it is now -/
def mm_now (s T : State) : State := { s with heap := T.heap, slotsUsed := T.slotsUsed }
theorem mm_now_warm {vm : Vm} : (mm_now s T).WarmedH vm ↔ s.WarmedH vm := Iff.rfl
theorem mm_restart (X : Stand p l e R s m args below meth c T locs cells slots) (hc : cells ≤ R.cells) (hs : slots ≤ R.slots) : Stand p l e { frames := R.frames, cells := R.cells - cells, slots := R.slots - slots, locals := R.locals } (mm_now s T) m args below meth c T [] 0 0 := by
  have h1 := X.heapSize
  have h2 := X.used
  have hr := X.room
  have hb := X.book
  simp only [State.hasRoom, Bool.and_eq_true, decide_eq_true_eq] at hr
  refine ⟨X.admits, X.cas, X.clock, X.frames, ?_, X.hears, X.method, X.code, X.here, X.tail, X.warmed, X.limits, X.bytes, ?_⟩
  · simp only [State.hasRoom, Bool.and_eq_true, decide_eq_true_eq]
    refine ⟨⟨⟨⟨hr.1.1.1.1, hr.1.1.1.2⟩, ?_⟩, ?_⟩, hb⟩
    · show T.heap.size + (R.cells - cells) ≤ _
      have := hr.1.1.2
      omega
    · show T.slotsUsed + (R.slots - slots) ≤ _
      have := hr.1.2
      omega
  · refine ⟨X.same.1, Nat.le_refl _, Nat.le_refl _, ?_, ?_, ?_⟩
    · show T.slotsUsed = T.slotsUsed + ((T.heap.toList.drop T.heap.size).map (·.slots.size)).sum
      rw [List.drop_of_length_le (by simp)]; rfl
    · show ((T.heap.toList.drop T.heap.size).map (·.slots.size)).sum ≤ 0
      rw [List.drop_of_length_le (by simp)]; exact Nat.le_refl _
    · intro a cc ha
      exact ⟨cc, ha, rfl, rfl, fun i _ => rfl⟩
end MMRS
/-- the words that a throw may ask for -/
def mm_xs : List Cond := mm_nw ++ [.isRef (.static "java/lang/Throwable" "UNASSIGNED_STACK" "[Ljava/lang/StackTraceElement;"), .isRef (.static "java/lang/Throwable" "SUPPRESSED_SENTINEL" "Ljava/util/List;")]
def mm_Xl (own : String) (ix is ic i : Nat) : Prop := Cond.classLink own ix (mm_xn i) ∈ mm_tb ∧ Cond.instantiable (mm_xn i) 6 ∈ mm_tb ∧ Cond.initialized (mm_xn i) ∈ mm_tb ∧ (∃ t : Nat, (own, is, t) ∈ mm_strs) ∧ (∀ w ∈ Bundle.ownAtoms own ic (mm_xn i) ["java/lang/RuntimeException", "java/lang/Exception"], (goodWord w = true ∧ w ∈ tables_1) ∨ w ∈ mm_xs)
theorem mm_isRef {C n d : String} {A : Nat → Prop} {U : State} {args : Array Value} (h : va_Zq C n d A U U.heap) : (Cond.isRef (.static C n d)).before args U = true := by
  rcases h with ⟨cf, kf, fi, f, a, cell, h1, h2, h3, h4, h5, h6, h7, h8⟩ | ⟨t, cf, kf, fi, f, a, cell, h1, h2, h3, h4, h5, h6, h7, h8⟩
  · simp [Cond.before, Cond.holds, Cond.value, Term.eval, State.fieldNamed?, h1, h2, h4, h5, h6, h7]
  · simp [Cond.before, Cond.holds, Cond.value, Term.eval, State.fieldNamed?, h1, h2, h4, h5, h6, h7]
theorem mm_fit (i : Nat) : Bundle.fit (mm_xn i) = true := by
  unfold mm_xn
  split <;> decide
section MMTH
variable {g : mm_G} {l : Launch} {Y : mm_Y} {rm : Room} {Q : mm_O → Prop} {pc : Nat} {ls : List (Option Value)} {st : List Value} {M : mm_M} {n k j : Nat}
set_option maxHeartbeats 1000000 in
theorem mm_throw {ix is ic i np : Nat} (hfl : l.flags = flags0) (hd0 : decode Y.2.1 pc = .ok (.new ix, 3)) (hd3 : decode Y.2.1 (pc + 3) = .ok (.dup, 1)) (hd4 : decode Y.2.1 (pc + 3 + 1) = .ok (.ldc is, 2)) (hd6 : decode Y.2.1 (pc + 3 + 1 + 2) = .ok (.invokespecial ic, 3)) (hd9 : decode Y.2.1 (pc + 3 + 1 + 2 + 3) = .ok (.athrow, 1))
    (hY : mm_Yw Y np) (hXl : mm_Xl Y.1.cls ix is ic i) (hk : k + 1 ≤ rm.cells) (hj : j + 6 ≤ rm.slots) (hroom : 5 < rm.frames ∧ (st.map fun v => v.category).sum + 82 ≤ rm.locals) (hQ : Q (.inr i, M, n + 1)) : mm_Ev g l Y rm Q pc ls st M n k j := by
  intro p e s m args below meth c H locs lsM hC hH hS hL T hT X0
  obtain ⟨hx, hb, hml, -, hown, hts, hlk, hnm, hI, hbs⟩ := id hC
  obtain ⟨w1, w2, w3, ⟨tx, hstr⟩, hat⟩ := hXl
  have X := mm_restart X0 (by omega) (by omega)
  have htr : e.platform.stackTraces = false := by
    have h9 := X0.admits.platform
    rw [h9]
    simp [Launch.stackTraces, hfl, flags0, noTraceFlag]
  have hW0 : s.WarmedH (mm_now s T).vm := State.WarmedH.refl s
  have htb : ∀ w ∈ mm_tb, w.before args (mm_now s T) = true := mm_tb_good hts hW0 args
  have hI2 : mm_I g (mm_now s T) (mm_now s T).heap := (hI.moved (U := mm_now s T) hW0).kept (fun a h1 h2 => by show T.heap[a]? = _; rw [hT]; exact hS.2.1 a h1 h2)
  have hatoms : ∀ w ∈ Bundle.ownAtoms Y.1.cls ic (mm_xn i) ["java/lang/RuntimeException", "java/lang/Exception"], w.before args (mm_now s T) = true := by
    intro w hw
    rcases hat w hw with ⟨h1, h2⟩ | h1
    · exact htb w (List.mem_filter.mpr ⟨List.mem_append_right _ h2, h1⟩)
    · rcases List.mem_append.mp h1 with h1 | h1
      · have h2 := hI2.2.2.1.1 w h1
        rcases mm_nw_ok w h1 with ⟨C, T, rfl⟩ | ⟨x, rfl⟩
        · exact va_Nw.use rfl h2
        · exact va_Nw.use rfl h2
      · simp only [List.mem_cons, List.not_mem_nil, or_false] at h1
        rcases h1 with rfl | rfl
        · exact mm_isRef hI2.2.2.1.2.1
        · exact mm_isRef hI2.2.2.1.2.2.1
  have hout : ∀ pc' : Nat, ∀ y ∈ c.exceptionTable.toList, covers y pc' = false := by
    obtain ⟨meth', c', h1, h2, -, -, -, -, h3, -⟩ := Cond.code_spec hnm.2 (hts _ hY.1)
    cases X0.method.symm.trans h1
    cases X0.code.symm.trans h2
    intro pc' y hy
    rw [Array.isEmpty_iff.mp h3] at hy
    simp at hy
  have hR := hI2.2.2.2.1 _ hstr
  have hw : W p l e { frames := rm.frames, cells := rm.cells - k, slots := rm.slots - j, locals := rm.locals } (mm_now s T) m args below meth c T.heap [] 0 0 (fun U => U.status = .running ∧ Ended U below (.threw T.heap.size) ∧ (mm_now s T).WarmedH U.vm ∧ (mm_now s T).sameButNew ({ U with vm := (mm_now s T).vm } : State) [] 1 6 ∧ ∃ ce, U.heap[T.heap.size]? = some ce ∧ ∃ msg, Bundle.OwnCell args (mm_now s T) (mm_xn i) T.heap.size msg ce) (F0 m pc lsM (st.map (mm_tr g))) := by
    have hown2 : (mm_now s T).vm.findClass Y.1.cls = some m.cls := hown
    refine W.newc (own := Y.1.cls) (C := mm_xn i) (index := ix) (n := 6) (g := F0 m pc lsM (st.map (mm_tr g))) hx hb hown2 (htb _ w1) (htb _ w2) (htb _ w3) rfl hd0 (by show 0 + 1 ≤ rm.cells - k; omega) (by show 0 + 6 ≤ rm.slots - j; omega) (fun cC kC h1 h2 h3 h4 => ?_)
    refine lv_dup hx hb hd3 rfl ?_
    refine va_ldcS hx hb hown2 hR hd4 ?_
    intro T2 hT2 X2
    obtain ⟨U, u1, u2, u3, u4, u5, ce, u6, u7⟩ := X2.ctorThrowS hx htr (own := Y.1.cls) (cls := mm_xn i) (names := ["java/lang/RuntimeException", "java/lang/Exception"]) (ic := ic) hown2 (mm_fit i) (by decide) hatoms (fun x hx => by cases hx) h1 h2 (a := T.heap.size) (by rw [hT2]; exact Array.getElem?_push_size) (Nat.le_refl _) (msg := .ref _) rfl
      (g := F0 m (pc + 3 + 1 + 2) lsM (.ref _ :: .ref T.heap.size :: .ref T.heap.size :: st.map (mm_tr g))) rfl (by rw [hml]; exact hL.1) rfl rfl (rest := st.map (mm_tr g)) rfl (by rw [hb]; exact hd6) (by rw [hb]; exact hd9) (hout _) hroom.1 (by
        rw [List.map_cons, List.sum_cons, mm_cat_sum]
        show 2 * 0 + (1 + (st.map fun v => v.category).sum) + (13 * (2 + 1) + 42) ≤ rm.locals
        have := hroom.2
        omega) hlk
    exact ⟨U, u1, u2, u3, u4, u5, ce, u6, _, u7⟩
  obtain ⟨U, u1, u2, u3, u4, u5, ce, u6, msg, u7⟩ := hw T rfl X
  obtain ⟨v1, v2, v3, v4, v5, v6⟩ := u5
  have hlt : T.heap.size < U.heap.size := (Array.getElem?_eq_some_iff.mp u6).1
  have hz : U.heap.size = H.size + 1 := by
    have : U.heap.size ≤ T.heap.size + 1 := v3
    rw [← hT]
    omega
  have ho : ∀ q : Nat, q < H.size → U.heap[q]? = H[q]? := by
    intro q hq
    obtain ⟨cq, h9⟩ : ∃ cq, T.heap[q]? = some cq := ⟨_, Array.getElem?_eq_getElem (by rw [hT]; exact hq)⟩
    obtain ⟨c', e1, e2, e3, e4⟩ := v6 q _ h9
    have e1 : U.heap[q]? = some c' := e1
    have e5 : c'.slots = cq.slots := Array.ext_getElem? (fun i => e4 i (by simp))
    rw [e1, ← hT, h9, e2, e5]
  have hB : (T.setVm s.vm).sameButNew ({ U with vm := s.vm } : State) [] 1 6 := by
    refine ⟨?_, v2, v3, v4, v5, v6⟩
    have h8 := X0.same.1
    rw [h8]
    have h7 : ∀ (F0 F : List Frame) (h1 h2 : Heap) (a1 a2 : Nat), ({ ({ s.setFrames F0 with heap := h1, slotsUsed := a1 } : State).setFrames F with heap := h2, slotsUsed := a2 } : State) = { s.setFrames F with heap := h2, slotsUsed := a2 } := by
      intro F0 F h1 h2 a1 a2
      show ({ (s.setFrames F0).setFrames F with heap := h2, slotsUsed := a2 } : State) = _
      rw [State.setFrames_setFrames]
    exact v1.trans (h7 _ _ _ _ _ _).symm
  have hsame := (X0.same.trans hB).mono (show k + 1 ≤ rm.cells from hk) (show j + 6 ≤ rm.slots from hj)
  rw [List.append_nil] at hsame
  refine ⟨U, u1, .threw T.heap.size, u2, u3, (.inr i, M, n + 1), locs, hQ, hH.more hz ho, fun q hq => ?_, hS.2.2, u4, hsame, T.heap.size, rfl, ce, u6, ?_, ?_⟩
  · have hlow := mm_low hS hbs q hq
    have hb2 := hH.base
    rw [ho q (by omega), hlow]
  · rw [u7.vm]; rfl
  · have hal : s.vm.Alike U.vm := State.WarmedH.alike (s := s) u4
    rw [hal.findClass]
    exact u7.cls
end MMTH
end
section
/-! An exception that a handler of the calling method takes; its catch type may still be unresolved. -/
section MMCO
variable {E : CtlPost} {e : Env} {d : Bool} {acts : List Action} {s : State} {f : JFrame} {a : Addr} {Q : Handler → Pre}
theorem mm_go_cold {x : ExceptionTableEntry} {t : List ExceptionTableEntry} {c : ClassId} {vm₁ : Vm} {cell : Cell} (hx : covers x f.pc = true) (h0 : x.catchType ≠ 0) (hg : (Jvm.resolveClass f.method.cls x.catchType).Gives e.toSetting s.vm (.ok c) vm₁) (hsz : vm₁.classes.size ≤ s.vm.classes.size)
    (hcell : s.heap[a]? = some cell) (hobj : ∀ k, cell.vm ≠ .statics k) (hk : ∃ k, vm₁.classes[cell.cls]? = some k) (hc : ∃ k, vm₁.classes[c]? = some k) :
    wp (findHandler.go f a (x :: t)) Q E e d acts s ↔ if vm₁.assignable cell.cls c = true then Q (.found x.handlerPc) d acts (s.setVm vm₁) else wp (findHandler.go f a t) Q E e d acts (s.setVm vm₁) := by
  simp only [covers] at hx
  obtain ⟨ha, ht⟩ := hg.op (op := VmOp.resolveClass f.method.cls x.catchType) rfl
  cases hfit : vm₁.assignable cell.cls c <;>
    simp [findHandler.go, hx, h0, ha, ht, hsz, hcell, hobj, hk, hc, hfit, VmOp.dirties, VmOp.acts]
end MMCO
def mm_pick : List ((Nat × Nat × Nat × Nat) × Nat) → Nat → Nat → Option Nat
  | [], _, _ => none
  | z :: L, pc, i => if (decide (z.1.1 ≤ pc) && decide (pc < z.1.2.1) && (z.2 == i)) = true then some z.1.2.2.1 else mm_pick L pc i
theorem mm_find {e : Env} {s : State} {args : Array Value} {f : JFrame} {x : Addr} {cell : Cell} {own : String} {i : Nat} (hpl : e.platform.magicAccessors = ({} : Platform).magicAccessors) (hown : s.vm.findClass own = some f.method.cls) (hcls : s.vm.findClass (mm_xn i) = some cell.cls) (hobj : cell.vm.isStatics = false)
    (hi : i < 4) (hnc : ∀ a b : Nat, a < 4 → b < 4 → a ≠ b → va_Nc (mm_xn a) (mm_xn b) s) (hts : ∀ w ∈ mm_tb, w.before args s = true) :
    ∀ (L : List ((Nat × Nat × Nat × Nat) × Nat)) (tbl : List ExceptionTableEntry) (hp : Nat), tbl.map (fun h => (h.startPc, h.endPc, h.handlerPc, h.catchType)) = L.map Prod.fst → (∀ z ∈ L, Cond.classLink own z.1.2.2.2 (mm_xn z.2) ∈ mm_tb ∧ z.1.2.2.2 ≠ 0 ∧ z.2 < 4) → mm_pick L f.pc i = some hp →
      ∀ U : State, s.WarmedH U.vm → U.heap[x]? = some cell → ∃ vm1 : Vm, s.WarmedH vm1 ∧ ∀ (Q : Handler → Pre) (E : CtlPost) (d : Bool) (acts : List Action), wp (findHandler.go f x tbl) Q E e d acts U ↔ Q (.found hp) d acts (U.setVm vm1) := by
  intro L
  induction L with
  | nil => intro tbl hp _ _ h; cases h
  | cons z L ih =>
    intro tbl hp hmap hok hpick U hW hx
    cases tbl with
    | nil => simp at hmap
    | cons h t =>
      simp only [List.map_cons, List.cons.injEq] at hmap
      obtain ⟨hz, hmap⟩ := hmap
      have z1 : z.1.1 = h.startPc := by rw [← hz]
      have z2 : z.1.2.1 = h.endPc := by rw [← hz]
      have z3 : z.1.2.2.1 = h.handlerPc := by rw [← hz]
      have z4 : z.1.2.2.2 = h.catchType := by rw [← hz]
      obtain ⟨o1, o2, o3⟩ := hok z List.mem_cons_self
      have hok' : ∀ y ∈ L, Cond.classLink own y.1.2.2.2 (mm_xn y.2) ∈ mm_tb ∧ y.1.2.2.2 ≠ 0 ∧ y.2 < 4 := fun y hy => hok y (List.mem_cons_of_mem _ hy)
      by_cases hcov : covers h f.pc = true
      · have hcov' : (decide (z.1.1 ≤ f.pc) && decide (f.pc < z.1.2.1)) = true := by rw [z1, z2]; exact hcov
        rw [z4] at o1 o2
        obtain ⟨cc, hfcc, hcl⟩ := Cond.classLink_spec hown (hts _ o1) e.platform hpl
        obtain ⟨hg₁, hwarm₁, -⟩ := State.classEntry (e := e) hW hcl
        generalize U.vm.noted f.method.cls h.catchType (.cls cc) = vm₁ at hg₁ hwarm₁
        have hsz : vm₁.classes.size ≤ U.vm.classes.size := by rw [hwarm₁.2.1, hW.2.1]; exact Nat.le_refl _
        have hk1 : ∃ k, vm₁.classes[cell.cls]? = some k := Vm.classAt_of_findClass (by rw [hwarm₁.alike.findClass]; exact hcls)
        have hc1 : ∃ k, vm₁.classes[cc]? = some k := Vm.classAt_of_findClass (by rw [hwarm₁.alike.findClass]; exact hfcc)
        by_cases hzi : z.2 = i
        · have hcc : cc = cell.cls := by rw [hzi] at hfcc; exact Option.some.inj (hfcc.symm.trans hcls)
          subst hcc
          simp only [mm_pick, hcov', hzi, Bool.true_and, beq_self_eq_true, if_true] at hpick
          refine ⟨vm₁, hwarm₁, fun Q E d acts => ?_⟩
          rw [mm_go_cold hcov o2 hg₁ hsz hx (VmData.ne_statics_of hobj) hk1 hc1, if_pos (va_asg _ _), ← z3, Option.some.inj hpick]
        · have hzi' : (z.2 == i) = false := by simpa using hzi
          simp only [mm_pick, hzi', Bool.and_false, Bool.false_eq_true, if_false] at hpick
          have hno : vm₁.assignable cell.cls cc = false := by
            obtain ⟨c1, t1, g1, g2, g3⟩ := hnc i z.2 hi o3 (fun q => hzi q.symm)
            cases hcls.symm.trans g1
            cases hfcc.symm.trans g2
            rw [hwarm₁.alike.assignable]
            exact g3
          obtain ⟨vm2, hw2, hf2⟩ := ih t hp hmap hok' hpick (U.setVm vm₁) hwarm₁ hx
          refine ⟨vm2, hw2, fun Q E d acts => ?_⟩
          rw [mm_go_cold hcov o2 hg₁ hsz hx (VmData.ne_statics_of hobj) hk1 hc1, if_neg (by rw [hno]; decide)]
          exact hf2 Q E d acts
      · have hcov : covers h f.pc = false := by simpa using hcov
        have hcov' : (decide (z.1.1 ≤ f.pc) && decide (f.pc < z.1.2.1)) = false := by rw [z1, z2]; exact hcov
        simp only [mm_pick, hcov', Bool.false_and, Bool.false_eq_true, if_false] at hpick
        obtain ⟨vm2, hw2, hf2⟩ := ih t hp hmap hok' hpick U hW hx
        refine ⟨vm2, hw2, fun Q E d acts => ?_⟩
        rw [W.findHandler_go_skip hcov]
        exact hf2 Q E d acts
theorem mm_catchStep {e : Env} {s s' : State} {a : Addr} {f : JFrame} {r : List Frame} {pc : Nat} (hfind : ∀ (Q : Handler → Pre) (E : CtlPost) (d : Bool) (acts : List Action), wp (findHandler f a) Q E e d acts s ↔ Q (.found pc) d acts s') :
    (stepThrowing e s a (.java f :: r)).Is (s'.setFrames (.java { f with pc := pc, stack := [.ref a] } :: r)) [] := by
  simp only [stepThrowing, searchFrame, vmDo]
  generalize hr : Sem.go _ e false [] s = res
  obtain ⟨as, rfl, ha⟩ := Sem.eq_ok_of hr (a := Handler.found pc) (s' := s') (acts' := []) (by simp [hfind _ _ _ _])
  exact ⟨rfl, ha⟩
theorem mm_caughtSteps {tb : Tables} {e : Env} {s target : State} {fr : JFrame} {c : Code} {below : List Frame} {a : Addr} {pc : Nat} {vm1 : Vm} (h : At s fr.method c below) (hfind : ∀ (Q : Handler → Pre) (E : CtlPost) (d : Bool) (acts : List Action), wp (findHandler fr a) Q E e d acts ((s.setTop fr).pushFrame (.throwing a)) ↔ Q (.found pc) d acts (((s.setTop fr).pushFrame (.throwing a)).setVm vm1))
    (hrest : Steps tb e below ((s.setVm vm1).setTop { fr with pc := pc, stack := [.ref a] }) target) : Steps tb e below ((s.setTop fr).pushFrame (.throwing a)) target := by
  obtain ⟨hgo, hw⟩ := h.throwing a
  refine Steps.head hgo hw ?_
  rw [stepThread_throwing (frames_entered h.top _), (mm_catchStep (s := (s.setTop fr).pushFrame (.throwing a)) hfind).1]
  obtain ⟨g₀, hg⟩ := Option.isSome_iff_exists.mp h.top
  obtain ⟨r, hr⟩ := State.topJava?_eq_some.mp hg
  have hr1 : (s.setVm vm1).frames = .java g₀ :: r := hr
  rw [State.setTop_of_frames _ hr1] at hrest
  have e1 : (((s.setTop fr).pushFrame (.throwing a)).setVm vm1) = ((s.setVm vm1).setFrames (.throwing a :: .java fr :: r)) := by
    rw [State.pushFrame, State.setTop_of_frames _ hr, State.setFrames_setFrames]
    have e2 : (s.setFrames (.java fr :: r)).frames = .java fr :: r := State.frames_setFrames _ (State.cur_lt_of_frames hr)
    rw [e2]
    rfl
  rw [e1, State.setFrames_setFrames]
  have e3 : s.frames.tail = r := by rw [hr]; rfl
  rw [e3]
  exact hrest
section MMCT
variable {g : mm_G} {l : Launch} {Y : mm_Y} {rm : Room} {Q : mm_O → Prop} {pc : Nat} {ls : List (Option Value)} {st : List Value} {M : mm_M} {n k j : Nat}
/-- caught: the handler's first instruction stores the exception, of which nobody asks more; nothing is asked of the locals behind it -/
theorem mm_catch {i hp : Nat} {q : Fin 4} (L : List ((Nat × Nat × Nat × Nat) × Nat)) (hY : Cond.codeWith Y.1 Y.2.1 Y.2.2.1 Y.2.2.2 (L.map Prod.fst) ∈ mm_tb) (hL : ∀ z ∈ L, Cond.classLink Y.1.cls z.1.2.2.2 (mm_xn z.2) ∈ mm_tb ∧ z.1.2.2.2 ≠ 0 ∧ z.2 < 4) (hi : i < 4) (hpk : mm_pick L pc i = some hp) (hd : decode Y.2.1 hp = .ok (.astore_n q, 1)) (hq : (q : Nat) < Y.2.2.1)
    (kk : mm_Ev g l Y rm Q (hp + 1) [] [] M n k j) : mm_Tv g l Y rm Q pc ls st M n k j i := by
  intro p e s m args below meth c H locs lsM x hC hH hS hLs hX T hT X
  obtain ⟨hx, hb, hml, -, hown, hts, hlk, hnm, hI, hbs⟩ := id hC
  obtain ⟨t0, ht0, hW0, cell, hce, hob, hcl⟩ := hX
  have hcell : T.heap[x]? = some cell := by rw [hT, ← ht0]; exact hce
  have hcl0 : s.vm.findClass (mm_xn i) = some cell.cls := by rw [← hW0.alike.findClass]; exact hcl
  obtain ⟨m9, meth9, c9, hn9, h1, h2, -, -, h5, -, -, -⟩ := Cond.codeWith_spec (hts _ hY)
  cases hnm.2.symm.trans hn9
  cases X.method.symm.trans h1
  cases X.code.symm.trans h2
  have hpl : e.platform.magicAccessors = ({} : Platform).magicAccessors := by rw [X.admits.platform]
  have hAt : At T (F0 m pc lsM (st.map (mm_tr g))).method c below := X.here
  obtain ⟨vm1, hw1, hf1⟩ := mm_find (e := e) (f := F0 m pc lsM (st.map (mm_tr g))) (x := x) hpl hown hcl0 hob hi hI.2.2.1.2.2.2 hts L c.exceptionTable.toList hp h5 hL hpk ((T.setTop (F0 m pc lsM (st.map (mm_tr g)))).pushFrame (.throwing x)) X.warmed hcell
  have X1 := X.noted hw1
  have hw : W p l e rm s m args below meth c H locs k j (mm_Fin g rm.cells rm.slots below s Q) (F0 m hp lsM [.ref x]) := by
    refine lv_astore_n hx hb hd rfl hLs.has hq rfl (fun ls2 h9 => ?_)
    exact kk p e s m args below meth c H locs ls2 hC hH hS ⟨h9.1, h9.2.1, fun i v hv => by cases hv⟩
  obtain ⟨t, a1, b1⟩ := hw (T.setVm vm1) hT X1
  refine ⟨t, mm_caughtSteps hAt (fun Q E d acts => ?_) a1, b1⟩
  rw [W.findHandler_eq (meth := meth) (code := c) X.method' X.code]
  exact hf1 Q E d acts
end MMCT
/-- a method with handlers -/
def mm_MetH (g : mm_G) (l : Launch) (Y : mm_Y) (hh : List (Nat × Nat × Nat × Nat)) (rm : Room) (as : List Value) (M : mm_M) (n : Nat) (Q : mm_O → Prop) : Prop :=
  MetFree l Y.1 (headSpec (Cond.codeWith Y.1 Y.2.1 Y.2.2.1 Y.2.2.2 hh :: mm_tb) rm) (fun a U => a = (as.map (mm_tr g)).toArray ∧ mm_I g U U.heap ∧ mm_H g M n U.heap) (fun _ _ _ _ _ => True) (fun _ st o t => mm_Po g rm.cells rm.slots st Q o t)
theorem mm_enterH {g : mm_G} {l : Launch} {Y : mm_Y} {hh : List (Nat × Nat × Nat × Nat)} {rm : Room} {as : List Value} {M : mm_M} {n : Nat} {Q : mm_O → Prop} (hy : plainName Y.1.cls = true) (hfit : (lg_sl (as.map (mm_tr g))).length ≤ Y.2.2.1) (h : mm_Ev g l Y rm Q 0 (mm_ent as) [] M n 0 0) : mm_MetH g l Y hh rm as M n Q := by
  refine MetFree.of_bodyS (code := Y.2.1) (maxLocals := Y.2.2.1) (ret := Y.2.2.2) hy ?_ ?_
  · intro args s m h hn
    obtain ⟨m9, meth, c, hn9, h1, h2, h3, h4, -, h5, h6, -⟩ := Cond.codeWith_spec (atoms_spec (ws := Cond.codeWith Y.1 Y.2.1 Y.2.2.1 Y.2.2.2 hh :: mm_tb) h _ List.mem_cons_self)
    cases hn.symm.trans hn9
    exact ⟨meth, c, h1, h2, h3, h4, h5, h6⟩
  · intro p e s m args below meth c s₁ B hml hP _
    obtain ⟨rfl, hI, hH⟩ := hP
    have hh0 : s₁.heap = s.heap := by rw [B.state]; rfl
    have hts0 := atoms_spec (ws := Cond.codeWith Y.1 Y.2.1 Y.2.2.1 Y.2.2.2 hh :: mm_tb) B.pre
    have hC : mm_Cx g Y p s m (as.map (mm_tr g)).toArray meth c := ⟨B.exec, B.bytes, hml, B.returns, findClass_of_methodNamed B.named, fun w hw => hts0 w (List.mem_cons_of_mem _ hw), B.notSynchronized, ⟨(name_of_methodNamed B.named B.method).1, B.named⟩, hI, hH.base⟩
    have hl := lv_entry (as.map (mm_tr g)) (n := Y.2.2.1) hfit
    have hL : mm_L g Y.2.2.1 (mm_ent as) ((lg_sl (as.map (mm_tr g)) ++ List.replicate (Y.2.2.1 - (lg_sl (as.map (mm_tr g))).length) Slot.unset).toArray) := by
      refine ⟨hl.1, hl.2.1, fun i v hv => ?_⟩
      have h9 := mm_ent_in (g := g) as 0 i v hv
      rw [Nat.zero_add] at h9
      exact hl.2.2 _ h9
    obtain ⟨t, a1, o, b1, b2, b3⟩ := h p e s m _ below meth c s.heap [] _ hC hH va_S.rf hL s₁ hh0 (Stand.of_body B)
    refine ⟨t, o, ?_, b1, b2, b3⟩
    rw [lg_entry_eq]
    exact a1
section MMCH
variable {g : mm_G} {l : Launch} {Y : mm_Y} {rm : Room} {Q : mm_O → Prop} {pc : Nat} {ls : List (Option Value)} {st : List Value} {M : mm_M} {n k j : Nat}
def mm_Hl (own : String) (index np : Nat) (hh : List (Nat × Nat × Nat × Nat)) (Z : mm_Y) : Prop := Cond.codeWith Z.1 Z.2.1 Z.2.2.1 Z.2.2.2 hh ∈ mm_tb ∧ Cond.initialized Z.1.cls ∈ mm_tb ∧ (Z.1.cls ≠ "java/lang/invoke/MethodHandle" ∧ Z.1.cls ≠ "java/lang/invoke/VarHandle") ∧ (parseMethodDescriptor Z.1.desc).map (fun d => d.parameters.length) = some np ∧ Cond.methodLink own index Z.1 ∈ mm_tb ∧ Cond.static Z.1 ∈ mm_tb
theorem mm_callH {Z : mm_Y} {hh : List (Nat × Nat × Nat × Nat)} {rz : Room} {Qz : mm_O → Prop} {index np : Nat} {as : List Value} (hd : decode Y.2.1 pc = .ok (.invokestatic index, 3)) (hZ : mm_Hl Y.1.cls index np hh Z) (hM : mm_MetH g l Z hh rz as M n Qz) (hlen : as.length = np)
    (hroom : rz.frames + 1 ≤ rm.frames ∧ (st.map fun v => v.category).sum + (Z.2.2.1 + 11) + rz.locals ≤ rm.locals) (hk : k + rz.cells ≤ rm.cells) (hj : j + rz.slots ≤ rm.slots)
    (kr : ∀ (v : Option Value) (M1 : mm_M) (n1 : Nat), Qz (.inl v, M1, n1) → mm_Ev g l Y rm Q (pc + 3) ls (v.toList ++ st) M1 n1 (k + rz.cells) (j + rz.slots))
    (kt : ∀ (i : Nat) (M1 : mm_M) (n1 : Nat), Qz (.inr i, M1, n1) → mm_Tv g l Y rm Q pc ls st M1 n1 (k + rz.cells) (j + rz.slots) i) : mm_Ev g l Y rm Q pc ls (as.reverse ++ st) M n k j := by
  intro p e s m args below meth c H locs lsM hC hH hS hL
  obtain ⟨hx, hb, hml, -, hown, hts, -, -, hI, hbs⟩ := id hC
  obtain ⟨w0, wi, hy, hpar, w1, w2⟩ := hZ
  have hst : (as.reverse ++ st).map (mm_tr g) = (as.map (mm_tr g)).reverse ++ st.map (mm_tr g) := by
    rw [List.map_append, List.map_reverse]
  rw [hst]
  obtain ⟨mk0, methM', cM, hnamed0, hmethM', -, -, -, -, -, -, hsigM⟩ := Cond.codeWith_spec (hts _ w0)
  have hlen2 : np = methM'.sig.parameters.length := by
    rw [hsigM] at hpar
    exact (Option.some.inj hpar).symm
  have hLk := mm_lkS (l := l) (e := e) (R := rm) (below := below) (meth := meth) (H := H) (locs := locs) (cells := k) (slots := j) hx hown (hts _ w1) (hts _ w2) (hts _ wi) hnamed0 hmethM' (sig0 := methM'.sig) rfl hy (fr := F0 m pc lsM ((as.map (mm_tr g)).reverse ++ st.map (mm_tr g))) rfl (argsL := as.map (mm_tr g)) (rest := st.map (mm_tr g)) (by rw [List.length_map, hlen]; exact hlen2) rfl (by rw [hb]; exact hd)
  refine mm_callAny (S := headSpec (Cond.codeWith Z.1 Z.2.1 Z.2.2.1 Z.2.2.2 hh :: mm_tb) rz) (maxL := Z.2.2.1) (Wd := (st.map fun v => v.category).sum) hLk hM rfl (by rw [hml]; exact hL.1) hroom.1 hroom.2 (by rw [mm_cat_sum]; show 2 * 0 + _ ≤ _; omega) (by rw [hb]; exact hd)
    (fun U mk hW hn => ?_) hk hj (fun U hW hU => ⟨rfl, (hI.moved hW).kept (by rw [hU]; exact hS.2.1), by rw [hU]; exact hH⟩) hS hbs
    (fun v M1 n1 H1 locs1 hQz hH1 hS1 => ?_) (fun i x M1 n1 H1 locs1 hQz hH1 hS1 hX => ?_)
  · have h := mm_tb_good hts hW (as.map (mm_tr g)).toArray
    obtain ⟨m9, methY, cY, hn9, h1, h2, -, h4, -⟩ := Cond.codeWith_spec (h _ w0)
    cases hn.symm.trans hn9
    refine ⟨atoms_intro (ws := Cond.codeWith Z.1 Z.2.1 Z.2.2.1 Z.2.2.2 hh :: mm_tb) (fun w hw => ?_), h _ wi, methY, cY, h1, h2, h4⟩
    rcases List.mem_cons.mp hw with rfl | hw
    · exact h _ w0
    · exact h _ hw
  · have h9 := kr v M1 n1 hQz p e s m args below meth c H1 locs1 lsM hC hH1 hS1 hL
    rw [List.map_append] at h9
    cases v <;> exact h9
  · exact kt i M1 n1 hQz p e s m args below meth c H1 locs1 lsM x hC hH1 hS1 hL hX
end MMCH
end
section
/-! The other rows: constants, switches, new arrays, the library's members. -/
theorem mm_ldcwS {p : Program} {l : Launch} {e : Env} {R : Room} {s : State} {m : MethodId} {args : Array Value} {below : List Frame} {meth : Method} {c : Code} {H : Heap} {locs : List Loc} {cells slots : Nat} {Q : State → Prop} {cc : ByteArray} {pc : Nat} {ls : Array Slot} {rest : List Value} (hexec : p.tables.exec = Jvm.exec) (hb : c.code = cc) {own tx : String} {index q : Nat} (hown : s.vm.findClass own = some m.cls) (hZ : vk_R own index tx q s) (hdg : decode cc pc = .ok (.ldc_w index, 3))
    (k : W p l e R s m args below meth c H locs cells slots Q (F0 m (pc + 3) ls (.ref q :: rest))) : W p l e R s m args below meth c H locs cells slots Q (F0 m pc ls rest) := by
  intro T hT X
  obtain ⟨t, a1, b1⟩ := k T hT X
  refine ⟨t, ?_, b1⟩
  obtain ⟨kk, cf, i, a', hk, hcf, hcp, -, hr, hev'⟩ := Cond.stringRef_spec hown hZ.1
  cases hZ.2.symm.trans hev'
  obtain ⟨k', hk', he⟩ := X.warmed.alike.2.2 _ _ hk
  have hr' : k'.resolved[index]? = some (some (.string q)) := by
    rcases X.warmed.entry hk hk' index with h | ⟨h, -⟩
    · rw [h]; exact hr
    · rw [hr] at h; cases h
  subst hb
  jvm_step X.here [hexec, hdg, ldc_w.wp_string (e := e) (s := T) (f := F0 m pc ls rest) X.here.top hk' (by rw [he]; exact hcf) hcp hr']
  exact a1
section MMOT
variable {g : mm_G} {l : Launch} {Y : mm_Y} {rm : Room} {Q : mm_O → Prop} {pc : Nat} {ls : List (Option Value)} {st : List Value} {M : mm_M} {n k j : Nat}
theorem mm_ldc {index : Nat} {v : Int32} (hd : decode Y.2.1 pc = .ok (.ldc index, 2)) (hw : Cond.constant Y.1.cls index v ∈ mm_tb) (kk : mm_Ev g l Y rm Q (pc + 2) ls (.int v :: st) M n k j) : mm_Ev g l Y rm Q pc ls st M n k j := by
  intro p e s m args below meth c H locs lsM hC hH hS hL
  exact lv_ldc hC.1 hC.2.1 hC.2.2.2.2.1 (hC.2.2.2.2.2.1 _ hw) hd (kk p e s m args below meth c H locs lsM hC hH hS hL)
theorem mm_ldc2 {index : Nat} {v : Int64} (hd : decode Y.2.1 pc = .ok (.ldc2_w index, 3)) (hw : Cond.constantLong Y.1.cls index v ∈ mm_tb) (kk : mm_Ev g l Y rm Q (pc + 3) ls (.long v :: st) M n k j) : mm_Ev g l Y rm Q pc ls st M n k j := by
  intro p e s m args below meth c H locs lsM hC hH hS hL
  exact lv_ldc2 hC.1 hC.2.1 hC.2.2.2.2.1 (hC.2.2.2.2.2.1 _ hw) hd (kk p e s m args below meth c H locs lsM hC hH hS hL)
theorem mm_ldcs {index t : Nat} (hd : decode Y.2.1 pc = .ok (.ldc index, 2)) (hw : (Y.1.cls, index, t) ∈ mm_strs) (ht : t < 900) (kk : mm_Ev g l Y rm Q (pc + 2) ls (.ref (100 + t) :: st) M n k j) : mm_Ev g l Y rm Q pc ls st M n k j := by
  intro p e s m args below meth c H locs lsM hC hH hS hL
  have h9 := kk p e s m args below meth c H locs lsM hC hH hS hL
  have e9 : mm_tr g (.ref (100 + t)) = .ref (g.2.2.2 (100 + t)) := by show Value.ref (mm_ad g _) = _; unfold mm_ad; rw [if_pos (by omega)]
  rw [List.map_cons, e9] at h9
  exact va_ldcS hC.1 hC.2.1 hC.2.2.2.2.1 (hC.2.2.2.2.2.2.2.2.1.2.2.2.1 _ hw) hd h9
theorem mm_objInit {a index : Nat} (hd : decode Y.2.1 pc = .ok (.invokespecial index, 3)) (hw : Cond.methodLink Y.1.cls index Lib.objectInit ∈ mm_tb ∧ Cond.instanceMethod Lib.objectInit ∈ mm_tb ∧ Cond.code Lib.objectInit ⟨#[0xb1]⟩ 1 none ∈ mm_tb) (hroom : 1 ≤ rm.frames ∧ (st.map fun v => v.category).sum + 12 ≤ rm.locals) (kk : mm_Ev g l Y rm Q (pc + 3) ls st M n k j) : mm_Ev g l Y rm Q pc ls (.ref a :: st) M n k j := by
  intro p e s m args below meth c H locs lsM hC hH hS hL
  exact W.objInit hC.1 hC.2.1 hC.2.2.2.2.1 (hC.2.2.2.2.2.1 _ hw.1) (hC.2.2.2.2.2.1 _ hw.2.1) (hC.2.2.2.2.2.1 _ hw.2.2) (g := F0 m pc lsM (.ref (mm_ad g a) :: st.map (mm_tr g))) rfl (by rw [hC.2.2.1]; exact hL.1) rfl hd hroom.1 (by rw [mm_cat_sum]; show 2 * 0 + _ + 12 ≤ _; have := hroom.2; omega) (kk p e s m args below meth c H locs lsM hC hH hS hL)
theorem mm_tableIn {dflt lo hi off : Int} {offs : Array Int} {len tgt : Nat} {x : Int32} (hd : decode Y.2.1 pc = .ok (.tableswitch dflt lo hi offs, len)) (h1 : ¬ x.toInt < lo) (h2 : ¬ hi < x.toInt) (ho : offs[(x.toInt - lo).toNat]? = some off) (ht : (pc : Int) + off = (tgt : Int)) (kk : mm_Ev g l Y rm Q tgt ls st M n k j) : mm_Ev g l Y rm Q pc ls (.int x :: st) M n k j := by
  intro p e s m args below meth c H locs lsM hC hH hS hL
  exact lv_tableIn hC.1 hC.2.1 hd h1 h2 ho ht (kk p e s m args below meth c H locs lsM hC hH hS hL)
theorem mm_tableOut {dflt lo hi : Int} {offs : Array Int} {len tgt : Nat} {x : Int32} (hd : decode Y.2.1 pc = .ok (.tableswitch dflt lo hi offs, len)) (h : x.toInt < lo ∨ hi < x.toInt) (ht : (pc : Int) + dflt = (tgt : Int)) (kk : mm_Ev g l Y rm Q tgt ls st M n k j) : mm_Ev g l Y rm Q pc ls (.int x :: st) M n k j := by
  intro p e s m args below meth c H locs lsM hC hH hS hL
  exact lv_tableOut hC.1 hC.2.1 hd h ht (kk p e s m args below meth c H locs lsM hC hH hS hL)
theorem mm_lookup {dflt off : Int} {ps : Array (Int × Int)} {len tgt : Nat} {x : Int32} (hd : decode Y.2.1 pc = .ok (.lookupswitch dflt ps, len)) (hp : (ps.toList.zip (ps.toList.drop 1)).all (fun (a, next) => a.1 < next.1) = true) (ho : Op.lookupswitch.offset ps.toList dflt x.toInt = off) (ht : (pc : Int) + off = (tgt : Int)) (kk : mm_Ev g l Y rm Q tgt ls st M n k j) : mm_Ev g l Y rm Q pc ls (.int x :: st) M n k j := by
  intro p e s m args below meth c H locs lsM hC hH hS hL
  exact lv_lookup hC.1 hC.2.1 hd hp ho ht (kk p e s m args below meth c H locs lsM hC hH hS hL)
theorem mm_newa {atype : ArrayType} {t N : Nat} {z : Int32} {a0 : vp_A} (hd : decode Y.2.1 pc = .ok (.newarray atype, 2)) (ht : mm_ty[t]? = some (newarray.typeOf atype)) (hw : Cond.arrayClass (newarray.typeOf atype) ∈ mm_tb) (hn : ¬ z < 0) (hN : z.toNatClampNeg = N) (hbytes : N * componentBytes (newarray.typeOf atype) ≤ 536870912) (ha : ∀ cA : ClassId, vp_cell cA a0 = arrV cA N (fun _ => defaultValue (newarray.typeOf atype))) (htr : ∀ g : mm_G, mm_trA g a0 = a0) (hnq : ∀ C : String, newarray.typeOf atype ≠ .object C) (hcells : k + 1 ≤ rm.cells) (hslots : j + N ≤ rm.slots)
    (kk : ∀ M1 : mm_M, M1 = mm_up M n (.inl (t, a0)) → mm_Ev g l Y rm Q (pc + 2) ls (.ref n :: st) M1 (n + 1) (k + 1) (j + N)) : mm_Ev g l Y rm Q pc ls (.int z :: st) M n k j := by
  intro p e s m args below meth c H locs lsM hC hH hS hL
  obtain ⟨hx, hb, -, -, hown, hts, -, -, hI, hbs⟩ := id hC
  refine va_newaK hx hb (hts _ hw) (g := F0 m pc lsM (.int z :: st.map (mm_tr g))) rfl hd rfl hn hN hbytes hcells hslots rfl fun H1 cA e1 z1 o1 hAr hNm => ?_
  have hend := hH.end
  have hcA : g.2.1 t = cA := by
    have h9 := (hI.1.2 t _ (mm_tys_at ht)).2
    have h8 : s.vm.findClass ("[" ++ (newarray.typeOf atype).toString) = some (g.2.1 t) := by
      cases atype <;> exact h9
    exact Option.some.inj (h8.symm.trans hNm)
  have h9 := kk _ rfl p e s m args below meth c H1 locs lsM hC (hH.push z1 o1 (by
    rw [hend]
    show H1[H.size]? = some (vp_cell (g.2.1 t) (mm_trA g a0))
    rw [htr g, hcA, ha]
    exact e1)) ⟨Nat.le_trans hS.1 (by omega), fun q h1 h2 => (o1 q (Nat.lt_of_lt_of_le h1 hS.1)).trans (hS.2.1 q h1 h2), hS.2.2⟩ hL
  have e9 : mm_tr g (.ref n) = .ref H.size := by show Value.ref (mm_ad g n) = _; rw [hend]
  rw [List.map_cons, e9] at h9
  exact h9
theorem mm_mmax {index : Nat} {x y : Int32} (hd : decode Y.2.1 pc = .ok (.invokestatic index, 3)) (hw : Cond.methodLink Y.1.cls index Lib.Math.max.name ∈ mm_tb ∧ Cond.static Lib.Math.max.name ∈ mm_tb ∧ Cond.initialized "java/lang/Math" ∈ mm_tb ∧ Cond.code Lib.Math.max.name Lib.Math.max.code 2 (some .int) ∈ mm_tb) (hroom : 1 ≤ rm.frames ∧ (st.map fun v => v.category).sum + 13 ≤ rm.locals) (hk : k ≤ rm.cells) (hj : j ≤ rm.slots) (kk : mm_Ev g l Y rm Q (pc + 3) ls (.int (if x < y then y else x) :: st) M n k j) : mm_Ev g l Y rm Q pc ls (.int y :: .int x :: st) M n k j := by
  intro p e s m args below meth c H locs lsM hC hH hS hL
  exact va_mmax hC.1 hC.2.1 (hC.2.2.1.trans hL.1.symm) hC.2.2.2.2.1 (hC.2.2.2.2.2.1 _ hw.1) (hC.2.2.2.2.2.1 _ hw.2.1) (hC.2.2.2.2.2.1 _ hw.2.2.1) (hC.2.2.2.2.2.1 _ hw.2.2.2) hroom.1 (by rw [mm_cat_sum]; exact hroom.2) hk hj hd (kk p e s m args below meth c H locs lsM hC hH hS hL)
theorem mm_mmin {index : Nat} {x y : Int32} (hd : decode Y.2.1 pc = .ok (.invokestatic index, 3)) (hw : Cond.methodLink Y.1.cls index Lib.Math.min.name ∈ mm_tb ∧ Cond.static Lib.Math.min.name ∈ mm_tb ∧ Cond.initialized "java/lang/Math" ∈ mm_tb ∧ Cond.code Lib.Math.min.name Lib.Math.min.code 2 (some .int) ∈ mm_tb) (hroom : 1 ≤ rm.frames ∧ (st.map fun v => v.category).sum + 13 ≤ rm.locals) (hk : k ≤ rm.cells) (hj : j ≤ rm.slots) (kk : mm_Ev g l Y rm Q (pc + 3) ls (.int (if y < x then y else x) :: st) M n k j) : mm_Ev g l Y rm Q pc ls (.int y :: .int x :: st) M n k j := by
  intro p e s m args below meth c H locs lsM hC hH hS hL
  exact va_mmin hC.1 hC.2.1 (hC.2.2.1.trans hL.1.symm) hC.2.2.2.2.1 (hC.2.2.2.2.2.1 _ hw.1) (hC.2.2.2.2.2.1 _ hw.2.1) (hC.2.2.2.2.2.1 _ hw.2.2.1) (hC.2.2.2.2.2.1 _ hw.2.2.2) hroom.1 (by rw [mm_cat_sum]; exact hroom.2) hk hj hd (kk p e s m args below meth c H locs lsM hC hH hS hL)
theorem mm_mmaxl {index : Nat} {x y : Int64} (hd : decode Y.2.1 pc = .ok (.invokestatic index, 3)) (hw : Cond.methodLink Y.1.cls index Lib.MathLoose.max_long.x ∈ mm_tb ∧ Cond.static Lib.MathLoose.max_long.x ∈ mm_tb ∧ Cond.initialized "java/lang/Math" ∈ mm_tb ∧ Cond.code Lib.MathLoose.max_long.x Lib.MathLoose.max_long.code 4 (some .long) ∈ mm_tb) (hroom : 1 ≤ rm.frames ∧ (st.map fun v => v.category).sum + 15 ≤ rm.locals) (hk : k ≤ rm.cells) (hj : j ≤ rm.slots) (kk : mm_Ev g l Y rm Q (pc + 3) ls (.long (if y < x then x else y) :: st) M n k j) : mm_Ev g l Y rm Q pc ls (.long y :: .long x :: st) M n k j := by
  intro p e s m args below meth c H locs lsM hC hH hS hL
  exact va_mmax_long hC.1 hC.2.1 (hC.2.2.1.trans hL.1.symm) hC.2.2.2.2.1 (hC.2.2.2.2.2.1 _ hw.1) (hC.2.2.2.2.2.1 _ hw.2.1) (hC.2.2.2.2.2.1 _ hw.2.2.1) (hC.2.2.2.2.2.1 _ hw.2.2.2) hroom.1 (by rw [mm_cat_sum]; exact hroom.2) hk hj hd (kk p e s m args below meth c H locs lsM hC hH hS hL)
theorem mm_mminl {index : Nat} {x y : Int64} (hd : decode Y.2.1 pc = .ok (.invokestatic index, 3)) (hw : Cond.methodLink Y.1.cls index Lib.MathLoose.min_long.x ∈ mm_tb ∧ Cond.static Lib.MathLoose.min_long.x ∈ mm_tb ∧ Cond.initialized "java/lang/Math" ∈ mm_tb ∧ Cond.code Lib.MathLoose.min_long.x Lib.MathLoose.min_long.code 4 (some .long) ∈ mm_tb) (hroom : 1 ≤ rm.frames ∧ (st.map fun v => v.category).sum + 15 ≤ rm.locals) (hk : k ≤ rm.cells) (hj : j ≤ rm.slots) (kk : mm_Ev g l Y rm Q (pc + 3) ls (.long (if y < x then y else x) :: st) M n k j) : mm_Ev g l Y rm Q pc ls (.long y :: .long x :: st) M n k j := by
  intro p e s m args below meth c H locs lsM hC hH hS hL
  exact va_mmin_long hC.1 hC.2.1 (hC.2.2.1.trans hL.1.symm) hC.2.2.2.2.1 (hC.2.2.2.2.2.1 _ hw.1) (hC.2.2.2.2.2.1 _ hw.2.1) (hC.2.2.2.2.2.1 _ hw.2.2.1) (hC.2.2.2.2.2.1 _ hw.2.2.2) hroom.1 (by rw [mm_cat_sum]; exact hroom.2) hk hj hd (kk p e s m args below meth c H locs lsM hC hH hS hL)
end MMOT
section MMTW
variable {g : mm_G} {l : Launch} {Y : mm_Y} {rm : Room} {Q : mm_O → Prop} {pc : Nat} {ls : List (Option Value)} {st : List Value} {M : mm_M} {n k j : Nat}
set_option maxHeartbeats 1000000 in
theorem mm_throwW {ix is ic i np : Nat} (hfl : l.flags = flags0) (hd0 : decode Y.2.1 pc = .ok (.new ix, 3)) (hd3 : decode Y.2.1 (pc + 3) = .ok (.dup, 1)) (hd4 : decode Y.2.1 (pc + 3 + 1) = .ok (.ldc_w is, 3)) (hd6 : decode Y.2.1 (pc + 3 + 1 + 3) = .ok (.invokespecial ic, 3)) (hd9 : decode Y.2.1 (pc + 3 + 1 + 3 + 3) = .ok (.athrow, 1))
    (hY : mm_Yw Y np) (hXl : mm_Xl Y.1.cls ix is ic i) (hk : k + 1 ≤ rm.cells) (hj : j + 6 ≤ rm.slots) (hroom : 5 < rm.frames ∧ (st.map fun v => v.category).sum + 82 ≤ rm.locals) (hQ : Q (.inr i, M, n + 1)) : mm_Ev g l Y rm Q pc ls st M n k j := by
  intro p e s m args below meth c H locs lsM hC hH hS hL T hT X0
  obtain ⟨hx, hb, hml, -, hown, hts, hlk, hnm, hI, hbs⟩ := id hC
  obtain ⟨w1, w2, w3, ⟨tx, hstr⟩, hat⟩ := hXl
  have X := mm_restart X0 (by omega) (by omega)
  have htr : e.platform.stackTraces = false := by
    have h9 := X0.admits.platform
    rw [h9]
    simp [Launch.stackTraces, hfl, flags0, noTraceFlag]
  have hW0 : s.WarmedH (mm_now s T).vm := State.WarmedH.refl s
  have htb : ∀ w ∈ mm_tb, w.before args (mm_now s T) = true := mm_tb_good hts hW0 args
  have hI2 : mm_I g (mm_now s T) (mm_now s T).heap := (hI.moved (U := mm_now s T) hW0).kept (fun a h1 h2 => by show T.heap[a]? = _; rw [hT]; exact hS.2.1 a h1 h2)
  have hatoms : ∀ w ∈ Bundle.ownAtoms Y.1.cls ic (mm_xn i) ["java/lang/RuntimeException", "java/lang/Exception"], w.before args (mm_now s T) = true := by
    intro w hw
    rcases hat w hw with ⟨h1, h2⟩ | h1
    · exact htb w (List.mem_filter.mpr ⟨List.mem_append_right _ h2, h1⟩)
    · rcases List.mem_append.mp h1 with h1 | h1
      · have h2 := hI2.2.2.1.1 w h1
        rcases mm_nw_ok w h1 with ⟨C, T, rfl⟩ | ⟨x, rfl⟩
        · exact va_Nw.use rfl h2
        · exact va_Nw.use rfl h2
      · simp only [List.mem_cons, List.not_mem_nil, or_false] at h1
        rcases h1 with rfl | rfl
        · exact mm_isRef hI2.2.2.1.2.1
        · exact mm_isRef hI2.2.2.1.2.2.1
  have hout : ∀ pc' : Nat, ∀ y ∈ c.exceptionTable.toList, covers y pc' = false := by
    obtain ⟨meth', c', h1, h2, -, -, -, -, h3, -⟩ := Cond.code_spec hnm.2 (hts _ hY.1)
    cases X0.method.symm.trans h1
    cases X0.code.symm.trans h2
    intro pc' y hy
    rw [Array.isEmpty_iff.mp h3] at hy
    simp at hy
  have hR := hI2.2.2.2.1 _ hstr
  have hw : W p l e { frames := rm.frames, cells := rm.cells - k, slots := rm.slots - j, locals := rm.locals } (mm_now s T) m args below meth c T.heap [] 0 0 (fun U => U.status = .running ∧ Ended U below (.threw T.heap.size) ∧ (mm_now s T).WarmedH U.vm ∧ (mm_now s T).sameButNew ({ U with vm := (mm_now s T).vm } : State) [] 1 6 ∧ ∃ ce, U.heap[T.heap.size]? = some ce ∧ ∃ msg, Bundle.OwnCell args (mm_now s T) (mm_xn i) T.heap.size msg ce) (F0 m pc lsM (st.map (mm_tr g))) := by
    have hown2 : (mm_now s T).vm.findClass Y.1.cls = some m.cls := hown
    refine W.newc (own := Y.1.cls) (C := mm_xn i) (index := ix) (n := 6) (g := F0 m pc lsM (st.map (mm_tr g))) hx hb hown2 (htb _ w1) (htb _ w2) (htb _ w3) rfl hd0 (by show 0 + 1 ≤ rm.cells - k; omega) (by show 0 + 6 ≤ rm.slots - j; omega) (fun cC kC h1 h2 h3 h4 => ?_)
    refine lv_dup hx hb hd3 rfl ?_
    refine mm_ldcwS hx hb hown2 hR hd4 ?_
    intro T2 hT2 X2
    obtain ⟨U, u1, u2, u3, u4, u5, ce, u6, u7⟩ := X2.ctorThrowS hx htr (own := Y.1.cls) (cls := mm_xn i) (names := ["java/lang/RuntimeException", "java/lang/Exception"]) (ic := ic) hown2 (mm_fit i) (by decide) hatoms (fun x hx => by cases hx) h1 h2 (a := T.heap.size) (by rw [hT2]; exact Array.getElem?_push_size) (Nat.le_refl _) (msg := .ref _) rfl
      (g := F0 m (pc + 3 + 1 + 3) lsM (.ref _ :: .ref T.heap.size :: .ref T.heap.size :: st.map (mm_tr g))) rfl (by rw [hml]; exact hL.1) rfl rfl (rest := st.map (mm_tr g)) rfl (by rw [hb]; exact hd6) (by rw [hb]; exact hd9) (hout _) hroom.1 (by
        rw [List.map_cons, List.sum_cons, mm_cat_sum]
        show 2 * 0 + (1 + (st.map fun v => v.category).sum) + (13 * (2 + 1) + 42) ≤ rm.locals
        have := hroom.2
        omega) hlk
    exact ⟨U, u1, u2, u3, u4, u5, ce, u6, _, u7⟩
  obtain ⟨U, u1, u2, u3, u4, u5, ce, u6, msg, u7⟩ := hw T rfl X
  obtain ⟨v1, v2, v3, v4, v5, v6⟩ := u5
  have hlt : T.heap.size < U.heap.size := (Array.getElem?_eq_some_iff.mp u6).1
  have hz : U.heap.size = H.size + 1 := by
    have : U.heap.size ≤ T.heap.size + 1 := v3
    rw [← hT]
    omega
  have ho : ∀ q : Nat, q < H.size → U.heap[q]? = H[q]? := by
    intro q hq
    obtain ⟨cq, h9⟩ : ∃ cq, T.heap[q]? = some cq := ⟨_, Array.getElem?_eq_getElem (by rw [hT]; exact hq)⟩
    obtain ⟨c', e1, e2, e3, e4⟩ := v6 q _ h9
    have e1 : U.heap[q]? = some c' := e1
    have e5 : c'.slots = cq.slots := Array.ext_getElem? (fun i => e4 i (by simp))
    rw [e1, ← hT, h9, e2, e5]
  have hB : (T.setVm s.vm).sameButNew ({ U with vm := s.vm } : State) [] 1 6 := by
    refine ⟨?_, v2, v3, v4, v5, v6⟩
    have h8 := X0.same.1
    rw [h8]
    have h7 : ∀ (F0 F : List Frame) (h1 h2 : Heap) (a1 a2 : Nat), ({ ({ s.setFrames F0 with heap := h1, slotsUsed := a1 } : State).setFrames F with heap := h2, slotsUsed := a2 } : State) = { s.setFrames F with heap := h2, slotsUsed := a2 } := by
      intro F0 F h1 h2 a1 a2
      show ({ (s.setFrames F0).setFrames F with heap := h2, slotsUsed := a2 } : State) = _
      rw [State.setFrames_setFrames]
    exact v1.trans (h7 _ _ _ _ _ _).symm
  have hsame := (X0.same.trans hB).mono (show k + 1 ≤ rm.cells from hk) (show j + 6 ≤ rm.slots from hj)
  rw [List.append_nil] at hsame
  refine ⟨U, u1, .threw T.heap.size, u2, u3, (.inr i, M, n + 1), locs, hQ, hH.more hz ho, fun q hq => ?_, hS.2.2, u4, hsame, T.heap.size, rfl, ce, u6, ?_, ?_⟩
  · have hlow := mm_low hS hbs q hq
    have hb2 := hH.base
    rw [ho q (by omega), hlow]
  · rw [u7.vm]; rfl
  · have hal : s.vm.Alike U.vm := State.WarmedH.alike (s := s) u4
    rw [hal.findClass]
    exact u7.cls
end MMTW
end
section
/-! The reference: its one object and its arrays, as a state. By program (wip/model.py). -/
abbrev md_V : Type := Int32 ⊕ (Int64 ⊕ ((Nat → Int32) ⊕ (Nat → Int64)))
abbrev md_S : Type := Nat → md_V
def md_kd (k : Nat) : Nat := match k with
  | 2 => 2
  | 3 => 2
  | 4 => 2
  | 5 => 2
  | 6 => 2
  | 8 => 3
  | 9 => 3
  | 11 => 2
  | 12 => 2
  | 13 => 2
  | 17 => 2
  | 18 => 2
  | 20 => 2
  | 21 => 2
  | 22 => 2
  | 23 => 4
  | 24 => 2
  | 25 => 2
  | 26 => 2
  | 27 => 2
  | 29 => 3
  | 35 => 2
  | 37 => 2
  | 38 => 2
  | 39 => 2
  | 40 => 2
  | 41 => 2
  | 42 => 2
  | 43 => 2
  | 44 => 2
  | 45 => 2
  | 46 => 2
  | 47 => 2
  | 48 => 2
  | 49 => 2
  | 58 => 2
  | 59 => 2
  | 61 => 1
  | 62 => 3
  | 63 => 2
  | 64 => 1
  | 67 => 2
  | 68 => 2
  | _ => 0
def md_ln (k : Nat) : Nat := match k with
  | 2 => 4096
  | 3 => 512
  | 4 => 512
  | 5 => 256
  | 6 => 256
  | 8 => 601
  | 9 => 601
  | 11 => 12
  | 12 => 10
  | 13 => 10
  | 17 => 3
  | 18 => 4
  | 20 => 601
  | 21 => 601
  | 22 => 601
  | 23 => 601
  | 24 => 601
  | 25 => 3
  | 26 => 3
  | 27 => 1500
  | 29 => 24
  | 35 => 200
  | 37 => 11
  | 38 => 11
  | 39 => 11
  | 40 => 12
  | 41 => 10
  | 42 => 10
  | 43 => 10
  | 44 => 10
  | 45 => 10
  | 46 => 10
  | 47 => 10
  | 48 => 10
  | 49 => 10
  | 58 => 10
  | 59 => 10
  | 62 => 11
  | 63 => 8
  | 67 => 147
  | 68 => 12
  | _ => 0
def md_of (k : Nat) : Nat := match k with
  | 2 => 1
  | 3 => 2
  | 4 => 3
  | 5 => 4
  | 6 => 5
  | 8 => 6
  | 9 => 7
  | 11 => 8
  | 12 => 9
  | 13 => 10
  | 17 => 11
  | 18 => 12
  | 20 => 13
  | 21 => 14
  | 22 => 15
  | 23 => 16
  | 24 => 17
  | 25 => 18
  | 26 => 19
  | 27 => 20
  | 29 => 21
  | 35 => 22
  | 37 => 23
  | 38 => 24
  | 39 => 25
  | 40 => 26
  | 41 => 27
  | 42 => 28
  | 43 => 29
  | 44 => 30
  | 45 => 31
  | 46 => 32
  | 47 => 33
  | 48 => 34
  | 49 => 35
  | 58 => 36
  | 59 => 37
  | 62 => 38
  | 63 => 39
  | 67 => 40
  | 68 => 41
  | _ => 0
def md_i (s : md_S) (k : Nat) : Int32 := match s k with
  | .inl x => x
  | _ => 0
def md_l (s : md_S) (k : Nat) : Int64 := match s k with
  | .inr (.inl x) => x
  | _ => 0
def md_a (s : md_S) (k : Nat) : Nat → Int32 := match s k with
  | .inr (.inr (.inl f)) => f
  | _ => fun _ => 0
def md_b (s : md_S) (k : Nat) : Nat → Int64 := match s k with
  | .inr (.inr (.inr f)) => f
  | _ => fun _ => 0
def md_si (s : md_S) (k : Nat) (x : Int32) : md_S := fun q => if q = k then .inl x else s q
def md_sl (s : md_S) (k : Nat) (x : Int64) : md_S := fun q => if q = k then .inr (.inl x) else s q
def md_sa (s : md_S) (k : Nat) (f : Nat → Int32) : md_S := fun q => if q = k then .inr (.inr (.inl f)) else s q
def md_sb (s : md_S) (k : Nat) (f : Nat → Int64) : md_S := fun q => if q = k then .inr (.inr (.inr f)) else s q
def md_fv (b : Nat) (s : md_S) (k : Nat) : Value := match md_kd k with
  | 0 => .int (md_i s k)
  | 1 => .long (md_l s k)
  | _ => .ref (b + md_of k)
def md_av (s : md_S) (k : Nat) : mm_E := match md_kd k with
  | 2 => .inl (3, md_ln k, .inl (md_a s k))
  | 3 => .inl (1, md_ln k, .inr (.inl (md_b s k)))
  | _ => .inl (6, md_ln k, .inl (md_a s k))
/-- the cells hold the state s: the object at b, its arrays behind it -/
def md_H (b : Nat) (s : md_S) (M : mm_M) : Prop := M b = some (.inr (11, (List.range 69).map (md_fv b s))) ∧ ∀ k, k < 69 → 2 ≤ md_kd k → M (b + md_of k) = some (md_av s k)
theorem md_of_pos : ∀ k, k < 69 → 2 ≤ md_kd k → 0 < md_of k := by decide +kernel
theorem md_of_inj : ∀ k, k < 69 → ∀ q, q < 69 → 2 ≤ md_kd k → 2 ≤ md_kd q → md_of k = md_of q → k = q := by decide +kernel
theorem md_set_list {α : Type} (f f1 : Nat → α) (k N : Nat) (h : ∀ q, q ≠ k → f1 q = f q) : ((List.range N).map f).set k (f1 k) = (List.range N).map f1 := by
  apply List.ext_getElem?
  intro i
  rw [List.getElem?_set]
  by_cases hik : k = i
  · subst hik
    rw [if_pos rfl]
    by_cases hk : k < N
    · rw [if_pos (by simpa using hk)]
      simp [hk]
    · rw [if_neg (by simpa using hk)]
      simp [hk]
  · rw [if_neg hik]
    simp only [List.getElem?_map]
    cases hr : (List.range N)[i]? with
    | none => rfl
    | some q =>
      have hq : q = i := by
        have := List.getElem?_eq_some_iff.mp hr
        obtain ⟨h1, h2⟩ := this
        simp at h2
        exact h2.symm
      simp [hq, h i (fun z => hik z.symm)]
theorem md_i_ne {s : md_S} {k q : Nat} {x : Int32} (h : q ≠ k) : md_si s k x q = s q := by simp [md_si, h]
theorem md_l_ne {s : md_S} {k q : Nat} {x : Int64} (h : q ≠ k) : md_sl s k x q = s q := by simp [md_sl, h]
theorem md_a_ne {s : md_S} {k q : Nat} {f : Nat → Int32} (h : q ≠ k) : md_sa s k f q = s q := by simp [md_sa, h]
theorem md_b_ne {s : md_S} {k q : Nat} {f : Nat → Int64} (h : q ≠ k) : md_sb s k f q = s q := by simp [md_sb, h]
theorem md_ii {s : md_S} {k : Nat} {x : Int32} : md_i (md_si s k x) k = x := by simp [md_i, md_si]
theorem md_ll {s : md_S} {k : Nat} {x : Int64} : md_l (md_sl s k x) k = x := by simp [md_l, md_sl]
theorem md_aa {s : md_S} {k : Nat} {f : Nat → Int32} : md_a (md_sa s k f) k = f := by simp [md_a, md_sa]
theorem md_bb {s : md_S} {k : Nat} {f : Nat → Int64} : md_b (md_sb s k f) k = f := by simp [md_b, md_sb]
theorem md_H.put {b : Nat} {s s1 : md_S} {M : mm_M} (h : md_H b s M) (k : Nat) (hk : k < 69) (hkd : md_kd k < 2) (hs : ∀ q, q ≠ k → s1 q = s q) : md_H b s1 (mm_up M b (.inr (11, ((List.range 69).map (md_fv b s)).set k (md_fv b s1 k)))) := by
  have hfv : ∀ q, q ≠ k → md_fv b s1 q = md_fv b s q := fun q hq => by simp only [md_fv, md_i, md_l, hs q hq]
  refine ⟨?_, fun q hq h2 => ?_⟩
  · rw [mm_up_s, md_set_list _ _ _ _ hfv]
  · have h0 := md_of_pos q hq h2
    have hqk : q ≠ k := fun z => by subst z; omega
    rw [mm_up_n (by omega), h.2 q hq h2]
    simp only [md_av, md_a, md_b, hs q hqk]
theorem md_H.store {b : Nat} {s s1 : md_S} {M : mm_M} (h : md_H b s M) (k : Nat) (hk : k < 69) (hkd : 2 ≤ md_kd k) (hs : ∀ q, q ≠ k → s1 q = s q) : md_H b s1 (mm_up M (b + md_of k) (md_av s1 k)) := by
  have h0 := md_of_pos k hk hkd
  refine ⟨?_, fun q hq h2 => ?_⟩
  · rw [mm_up_n (by omega), h.1]
    congr 3
    apply List.map_congr_left
    intro q hq
    by_cases z : q = k
    · subst z
      have : ∀ y, 2 ≤ y → ∀ (s : md_S), (match y with | 0 => Value.int (md_i s q) | 1 => Value.long (md_l s q) | _ => Value.ref (b + md_of q)) = Value.ref (b + md_of q) := by
        intro y hy s
        match y, hy with
        | y + 2, _ => rfl
      simp only [md_fv]
      rw [this _ hkd, this _ hkd]
    · simp only [md_fv, md_i, md_l, hs q z]
  · by_cases z : q = k
    · subst z
      rw [mm_up_s]
    · have hne : b + md_of q ≠ b + md_of k := fun e => z (md_of_inj q hq k hk h2 hkd (by omega))
      rw [mm_up_n hne, h.2 q hq h2]
      simp only [md_av, md_a, md_b, hs q z]
end
section
/-! Rows over the reference's state. md_W b M0 s M: the cells hold s, and nothing else has changed since M0. -/
def md_F (b : Nat) (M M1 : mm_M) : Prop := ∀ a, a < b ∨ b + 42 ≤ a → M1 a = M a
def md_W (b : Nat) (M0 : mm_M) (s : md_S) (M : mm_M) : Prop := md_H b s M ∧ md_F b M0 M
theorem md_of_lt : ∀ k, md_of k < 42 := by
  intro k
  by_cases h : k < 69
  · exact (show ∀ k, k < 69 → md_of k < 42 by decide +kernel) k h
  · have : md_of k = 0 := by
      unfold md_of
      split <;> first | rfl | omega
    omega
def md_R (b : Nat) (M0 : mm_M) (n : Nat) (P : Option Value → md_S → Prop) : mm_O → Prop := fun o => ∃ (r : Option Value) (s1 : md_S) (M1 : mm_M), P r s1 ∧ o = (.inl r, M1, n) ∧ md_W b M0 s1 M1
/-- an index is in range -/
def md_ok (i : Int32) (N : Nat) : Bool := decide (0 ≤ i.toInt) && decide (i.toInt < (N : Int))
theorem md_ok_in {i : Int32} {N : Nat} (h : md_ok i N = true) : vp_in i N := by
  simp only [md_ok, Bool.and_eq_true, decide_eq_true_eq] at h
  exact vp_in_iff.mpr h
/-- fewer locals known -/
def mm_sub : List (Option Value) → List (Option Value) → Prop
  | [], _ => True
  | none :: l, [] => mm_sub l []
  | none :: l, _ :: r => mm_sub l r
  | some _ :: _, [] => False
  | some v :: l, x :: r => x = some v ∧ mm_sub l r
theorem mm_sub_lg : ∀ (l r : List (Option Value)), mm_sub l r → ∀ (i : Nat) (v : Value), mm_lg l i = some v → mm_lg r i = some v
  | [], _, _, i, v, h => by cases h
  | none :: l, [], hs, i, v, h => by
    cases i with
    | zero => cases h
    | succ i => have := mm_sub_lg l [] hs i v h; cases this
  | none :: l, x :: r, hs, i, v, h => by
    cases i with
    | zero => cases h
    | succ i => exact mm_sub_lg l r hs i v h
  | some w :: l, [], hs, i, v, h => by cases hs
  | some w :: l, x :: r, hs, i, v, h => by
    obtain ⟨h1, h2⟩ := hs
    cases i with
    | zero => rw [h1]; exact h
    | succ i => exact mm_sub_lg l r h2 i v h
section MDRW
variable {g : mm_G} {l : Launch} {Y : mm_Y} {rm : Room} {Q : mm_O → Prop} {pc : Nat} {ls : List (Option Value)} {st : List Value} {M M0 : mm_M} {n k j b : Nat} {s : md_S}
theorem mm_less {ls1 : List (Option Value)} (h : mm_sub ls1 ls) (kk : mm_Ev g l Y rm Q pc ls1 st M n k j) : mm_Ev g l Y rm Q pc ls st M n k j :=
  fun p e s m args below meth c H locs lsM hC hH hS hL => kk p e s m args below meth c H locs lsM hC hH hS (hL.less (mm_sub_lg _ _ h))
theorem mm_pc {pc1 : Nat} (h : pc = pc1) (kk : mm_Ev g l Y rm Q pc1 ls st M n k j) : mm_Ev g l Y rm Q pc ls st M n k j := h ▸ kk
theorem md_fv_at {kf : Nat} (hk : kf < 69) : ((List.range 69).map (md_fv b s))[kf]? = some (md_fv b s kf) := by
  rw [List.getElem?_map, List.getElem?_range hk]; rfl
theorem md_geti {kf index : Nat} {ty : FieldType} {fin : Bool} (h : md_W b M0 s M) (hd : decode Y.2.1 pc = .ok (.getfield index, 3)) (hF : mm_Fl Y.1.cls index 11 kf ty fin) (hk : kf < 69) (hkd : md_kd kf = 0) (kk : mm_Ev g l Y rm Q (pc + 3) ls (.int (md_i s kf) :: st) M n k j) : mm_Ev g l Y rm Q pc ls (.ref b :: st) M n k j :=
  mm_get hd hF h.1.1 (by rw [md_fv_at hk]; simp only [md_fv, hkd]) kk
theorem md_getl {kf index : Nat} {ty : FieldType} {fin : Bool} (h : md_W b M0 s M) (hd : decode Y.2.1 pc = .ok (.getfield index, 3)) (hF : mm_Fl Y.1.cls index 11 kf ty fin) (hk : kf < 69) (hkd : md_kd kf = 1) (kk : mm_Ev g l Y rm Q (pc + 3) ls (.long (md_l s kf) :: st) M n k j) : mm_Ev g l Y rm Q pc ls (.ref b :: st) M n k j :=
  mm_get hd hF h.1.1 (by rw [md_fv_at hk]; simp only [md_fv, hkd]) kk
theorem md_fv_r {kf : Nat} (hkd : 2 ≤ md_kd kf) : md_fv b s kf = .ref (b + md_of kf) := by
  unfold md_fv
  generalize md_kd kf = y at hkd
  match y, hkd with
  | y + 2, _ => rfl
theorem md_getr {kf index : Nat} {ty : FieldType} {fin : Bool} (h : md_W b M0 s M) (hd : decode Y.2.1 pc = .ok (.getfield index, 3)) (hF : mm_Fl Y.1.cls index 11 kf ty fin) (hk : kf < 69) (hkd : 2 ≤ md_kd kf) (kk : mm_Ev g l Y rm Q (pc + 3) ls (.ref (b + md_of kf) :: st) M n k j) : mm_Ev g l Y rm Q pc ls (.ref b :: st) M n k j :=
  mm_get hd hF h.1.1 (by rw [md_fv_at hk, md_fv_r hkd]) kk
theorem md_F_b {M1 : mm_M} {a : Nat} {e : mm_E} (h : md_F b M0 M) (ha : b ≤ a) (ha2 : a < b + 42) : md_F b M0 (mm_up M a e) := fun q hq => by rw [mm_up_n (by omega)]; exact h q hq
theorem md_puti {kf index : Nat} {x : Int32} (h : md_W b M0 s M) (hd : decode Y.2.1 pc = .ok (.putfield index, 3)) (hF : mm_Fl Y.1.cls index 11 kf .int false) (hk : kf < 69) (hkd : md_kd kf = 0) (kk : ∀ M1 : mm_M, md_W b M0 (md_si s kf x) M1 → mm_Ev g l Y rm Q (pc + 3) ls st M1 n k j) : mm_Ev g l Y rm Q pc ls (.int x :: .ref b :: st) M n k j := by
  refine mm_put hd hF h.1.1 (by simpa using hk) rfl rfl (fun M1 e => kk M1 ?_)
  have h9 := h.1.put (s1 := md_si s kf x) kf hk (by omega) (fun q hq => md_i_ne hq)
  have e9 : md_fv b (md_si s kf x) kf = .int x := by simp only [md_fv, hkd, md_ii]
  rw [e9] at h9
  rw [e]
  exact ⟨h9, md_F_b (M1 := M1) h.2 (Nat.le_refl _) (by omega)⟩
theorem md_putl {kf index : Nat} {x : Int64} (h : md_W b M0 s M) (hd : decode Y.2.1 pc = .ok (.putfield index, 3)) (hF : mm_Fl Y.1.cls index 11 kf .long false) (hk : kf < 69) (hkd : md_kd kf = 1) (kk : ∀ M1 : mm_M, md_W b M0 (md_sl s kf x) M1 → mm_Ev g l Y rm Q (pc + 3) ls st M1 n k j) : mm_Ev g l Y rm Q pc ls (.long x :: .ref b :: st) M n k j := by
  refine mm_put hd hF h.1.1 (by simpa using hk) rfl rfl (fun M1 e => kk M1 ?_)
  have h9 := h.1.put (s1 := md_sl s kf x) kf hk (by omega) (fun q hq => md_l_ne hq)
  have e9 : md_fv b (md_sl s kf x) kf = .long x := by simp only [md_fv, hkd, md_ll]
  rw [e9] at h9
  rw [e]
  exact ⟨h9, md_F_b (M1 := M1) h.2 (Nat.le_refl _) (by omega)⟩
theorem md_ial {kf : Nat} {i : Int32} (h : md_W b M0 s M) (hd : decode Y.2.1 pc = .ok (.iaload, 1)) (hk : kf < 69) (hkd : md_kd kf = 2) (hin : md_ok i (md_ln kf) = true) (kk : mm_Ev g l Y rm Q (pc + 1) ls (.int (md_a s kf i.toNatClampNeg) :: st) M n k j) : mm_Ev g l Y rm Q pc ls (.int i :: .ref (b + md_of kf) :: st) M n k j :=
  mm_iald hd (t := 3) (by rw [h.1.2 kf hk (by omega)]; simp only [md_av, hkd]) rfl (md_ok_in hin) kk
theorem md_lal {kf : Nat} {i : Int32} (h : md_W b M0 s M) (hd : decode Y.2.1 pc = .ok (.laload, 1)) (hk : kf < 69) (hkd : md_kd kf = 3) (hin : md_ok i (md_ln kf) = true) (kk : mm_Ev g l Y rm Q (pc + 1) ls (.long (md_b s kf i.toNatClampNeg) :: st) M n k j) : mm_Ev g l Y rm Q pc ls (.int i :: .ref (b + md_of kf) :: st) M n k j :=
  mm_lald hd (t := 1) (by rw [h.1.2 kf hk (by omega)]; simp only [md_av, hkd]) rfl (md_ok_in hin) kk
theorem md_zal {kf : Nat} {i : Int32} (h : md_W b M0 s M) (hd : decode Y.2.1 pc = .ok (.baload, 1)) (hk : kf < 69) (hkd : md_kd kf = 4) (hin : md_ok i (md_ln kf) = true) (kk : mm_Ev g l Y rm Q (pc + 1) ls (.int (md_a s kf i.toNatClampNeg) :: st) M n k j) : mm_Ev g l Y rm Q pc ls (.int i :: .ref (b + md_of kf) :: st) M n k j :=
  mm_zald hd (t := 6) (by rw [h.1.2 kf hk (by omega)]; simp only [md_av, hkd]) rfl (md_ok_in hin) kk
theorem md_ias {kf : Nat} {i x : Int32} (h : md_W b M0 s M) (hd : decode Y.2.1 pc = .ok (.iastore, 1)) (hk : kf < 69) (hkd : md_kd kf = 2) (hin : md_ok i (md_ln kf) = true) (kk : ∀ M1 : mm_M, md_W b M0 (md_sa s kf (upd (md_a s kf) i.toNatClampNeg x)) M1 → mm_Ev g l Y rm Q (pc + 1) ls st M1 n k j) : mm_Ev g l Y rm Q pc ls (.int x :: .int i :: .ref (b + md_of kf) :: st) M n k j := by
  refine mm_iast hd (t := 3) (by rw [h.1.2 kf hk (by omega)]; simp only [md_av, hkd]; rfl) rfl (md_ok_in hin) (fun M1 e => kk M1 ?_)
  have h9 := h.1.store (s1 := md_sa s kf (upd (md_a s kf) i.toNatClampNeg x)) kf hk (by omega) (fun q hq => md_a_ne hq)
  have e9 : md_av (md_sa s kf (upd (md_a s kf) i.toNatClampNeg x)) kf = .inl (3, md_ln kf, .inl (upd (md_a s kf) i.toNatClampNeg x)) := by simp only [md_av, hkd, md_aa]
  rw [e9] at h9
  rw [e]
  have := md_of_lt kf
  exact ⟨h9, md_F_b (M1 := M1) h.2 (by omega) (by omega)⟩
theorem md_las {kf : Nat} {i : Int32} {x : Int64} (h : md_W b M0 s M) (hd : decode Y.2.1 pc = .ok (.lastore, 1)) (hk : kf < 69) (hkd : md_kd kf = 3) (hin : md_ok i (md_ln kf) = true) (kk : ∀ M1 : mm_M, md_W b M0 (md_sb s kf (vp_updL (md_b s kf) i.toNatClampNeg x)) M1 → mm_Ev g l Y rm Q (pc + 1) ls st M1 n k j) : mm_Ev g l Y rm Q pc ls (.long x :: .int i :: .ref (b + md_of kf) :: st) M n k j := by
  refine mm_last hd (t := 1) (by rw [h.1.2 kf hk (by omega)]; simp only [md_av, hkd]; rfl) rfl (md_ok_in hin) (fun M1 e => kk M1 ?_)
  have h9 := h.1.store (s1 := md_sb s kf (vp_updL (md_b s kf) i.toNatClampNeg x)) kf hk (by omega) (fun q hq => md_b_ne hq)
  have e9 : md_av (md_sb s kf (vp_updL (md_b s kf) i.toNatClampNeg x)) kf = .inl (1, md_ln kf, .inr (.inl (vp_updL (md_b s kf) i.toNatClampNeg x))) := by simp only [md_av, hkd, md_bb]
  rw [e9] at h9
  rw [e]
  have := md_of_lt kf
  exact ⟨h9, md_F_b (M1 := M1) h.2 (by omega) (by omega)⟩
theorem md_zas {kf : Nat} {i x : Int32} (h : md_W b M0 s M) (hd : decode Y.2.1 pc = .ok (.bastore, 1)) (hk : kf < 69) (hkd : md_kd kf = 4) (hin : md_ok i (md_ln kf) = true) (kk : ∀ M1 : mm_M, md_W b M0 (md_sa s kf (upd (md_a s kf) i.toNatClampNeg (vp_nar .boolean x))) M1 → mm_Ev g l Y rm Q (pc + 1) ls st M1 n k j) : mm_Ev g l Y rm Q pc ls (.int x :: .int i :: .ref (b + md_of kf) :: st) M n k j := by
  refine mm_zast hd (t := 6) (by rw [h.1.2 kf hk (by omega)]; simp only [md_av, hkd]; rfl) rfl (md_ok_in hin) (fun M1 e => kk M1 ?_)
  have h9 := h.1.store (s1 := md_sa s kf (upd (md_a s kf) i.toNatClampNeg (vp_nar .boolean x))) kf hk (by omega) (fun q hq => md_a_ne hq)
  have e9 : md_av (md_sa s kf (upd (md_a s kf) i.toNatClampNeg (vp_nar .boolean x))) kf = .inl (6, md_ln kf, .inl (upd (md_a s kf) i.toNatClampNeg (vp_nar .boolean x))) := by simp only [md_av, hkd, md_aa]
  rw [e9] at h9
  rw [e]
  have := md_of_lt kf
  exact ⟨h9, md_F_b (M1 := M1) h.2 (by omega) (by omega)⟩
theorem md_Q_of {r : Option Value} {P : Option Value → md_S → Prop} (h : md_W b M0 s M) (hP : P r s) : md_R b M0 n P (.inl r, M, n) := ⟨r, s, M, hP, rfl, h⟩
/-- a call of a method of the reference's own object -/
theorem md_call {Z : mm_Y} {rz : Room} {P : Option Value → md_S → Prop} {index np : Nat} {as : List Value} (h : md_W b M0 s M) (hd : decode Y.2.1 pc = .ok (.invokevirtual index, 3)) (hZ : mm_Vl Y.1.cls index 11 np Z) (hM : ∀ (M : mm_M) (n : Nat), md_H b s M → mm_Met g l Z rz (.ref b :: as) M n (md_R b M n P)) (hlen : as.length = np)
    (hroom : rz.frames + 1 ≤ rm.frames ∧ (st.map fun v => v.category).sum + (Z.2.2.1 + 11) + rz.locals ≤ rm.locals) (hk : k + rz.cells ≤ rm.cells) (hj : j + rz.slots ≤ rm.slots)
    (kr : ∀ (r : Option Value) (s1 : md_S) (M1 : mm_M), P r s1 → md_W b M0 s1 M1 → mm_Ev g l Y rm Q (pc + 3) ls (r.toList ++ st) M1 n (k + rz.cells) (j + rz.slots)) : mm_Ev g l Y rm Q pc ls (as.reverse ++ .ref b :: st) M n k j := by
  refine mm_callV hd hZ (hM M n h.1) h.1.1 hlen hroom hk hj (fun v M1 n1 hQ => ?_) (fun i M1 n1 hQ => ?_)
  · obtain ⟨r, s1, M2, hP, e, hW⟩ := hQ
    cases e
    exact kr v s1 M1 hP ⟨hW.1, fun a ha => (hW.2 a ha).trans (h.2 a ha)⟩
  · obtain ⟨r, s1, M2, hP, e, hW⟩ := hQ
    cases e
/-- a call of a static method that touches no cell -/
theorem md_callS {Z : mm_Y} {rz : Room} {P : Option Value → Prop} {index np : Nat} {as : List Value} (hd : decode Y.2.1 pc = .ok (.invokestatic index, 3)) (hZ : mm_Sl Y.1.cls index np Z) (hM : ∀ (M : mm_M) (n : Nat), mm_Met g l Z rz as M n (fun o => ∃ r, P r ∧ o = (.inl r, M, n))) (hlen : as.length = np)
    (hroom : rz.frames + 1 ≤ rm.frames ∧ (st.map fun v => v.category).sum + (Z.2.2.1 + 11) + rz.locals ≤ rm.locals) (hk : k + rz.cells ≤ rm.cells) (hj : j + rz.slots ≤ rm.slots)
    (kr : ∀ (r : Option Value), P r → mm_Ev g l Y rm Q (pc + 3) ls (r.toList ++ st) M n (k + rz.cells) (j + rz.slots)) : mm_Ev g l Y rm Q pc ls (as.reverse ++ st) M n k j := by
  refine mm_callS hd hZ (hM M n) hlen hroom hk hj (fun v M1 n1 hQ => ?_) (fun i M1 n1 hQ => ?_)
  · obtain ⟨r, hP, e⟩ := hQ
    cases e
    exact kr v hP
  · obtain ⟨r, hP, e⟩ := hQ
    cases e
end MDRW
end
section
/-! The cells by their numbers: layout and ranges; by program (wip/zz/lay.py). -/
def zi (z : Int) : Value := .int (Int32.ofInt z)
def zl (z : Int) : Value := .long (Int64.ofInt z)
abbrev zz_S : Type := Nat → Nat → Int
abbrev zz_L : Type := (Nat × List Nat) ⊕ (Nat × Nat × Nat)
def zz_gd (l : List (Int × Int)) (i : Nat) : Int × Int := l.getD i (-9223372036854775808, 9223372036854775807)
/-- the cells that a number stands for: 2 as it is, 3 networks, 4 words, 5 reaches, 6 layers -/
def zz_rf (k : Nat) (z : Int) : Nat := match k with
  | 3 => 1001 + 14 * z.toNat
  | 4 => 1029 + z.toNat
  | 5 => if z = 4 then 1037 else 1050 + 5 * z.toNat
  | 6 => if z < 12 then 1003 + z.toNat else 1005 + z.toNat
  | _ => z.toNat
def zz_tab : List zz_L := [
  .inl (0, [2, 2, 2, 2, 2, 2, 2, 3, 3, 4, 4, 0]),
  .inl (1, [2, 0]),
  .inr (0, 12, 6),
  .inl (2, [0, 0, 0, 0, 0, 0, 0, 0, 0, 0, 0, 0, 0, 0, 0]),
  .inl (2, [0, 0, 0, 0, 0, 0, 0, 0, 0, 0, 0, 0, 0, 0, 0]),
  .inl (2, [0, 0, 0, 0, 0, 0, 0, 0, 0, 0, 0, 0, 0, 0, 0]),
  .inl (2, [0, 0, 0, 0, 0, 0, 0, 0, 0, 0, 0, 0, 0, 0, 0]),
  .inl (2, [0, 0, 0, 0, 0, 0, 0, 0, 0, 0, 0, 0, 0, 0, 0]),
  .inl (2, [0, 0, 0, 0, 0, 0, 0, 0, 0, 0, 0, 0, 0, 0, 0]),
  .inl (2, [0, 0, 0, 0, 0, 0, 0, 0, 0, 0, 0, 0, 0, 0, 0]),
  .inl (2, [0, 0, 0, 0, 0, 0, 0, 0, 0, 0, 0, 0, 0, 0, 0]),
  .inl (2, [0, 0, 0, 0, 0, 0, 0, 0, 0, 0, 0, 0, 0, 0, 0]),
  .inl (2, [0, 0, 0, 0, 0, 0, 0, 0, 0, 0, 0, 0, 0, 0, 0]),
  .inl (2, [0, 0, 0, 0, 0, 0, 0, 0, 0, 0, 0, 0, 0, 0, 0]),
  .inl (2, [0, 0, 0, 0, 0, 0, 0, 0, 0, 0, 0, 0, 0, 0, 0]),
  .inl (1, [2, 0]),
  .inr (0, 12, 6),
  .inl (2, [0, 0, 0, 0, 0, 0, 0, 0, 0, 0, 0, 0, 0, 0, 0]),
  .inl (2, [0, 0, 0, 0, 0, 0, 0, 0, 0, 0, 0, 0, 0, 0, 0]),
  .inl (2, [0, 0, 0, 0, 0, 0, 0, 0, 0, 0, 0, 0, 0, 0, 0]),
  .inl (2, [0, 0, 0, 0, 0, 0, 0, 0, 0, 0, 0, 0, 0, 0, 0]),
  .inl (2, [0, 0, 0, 0, 0, 0, 0, 0, 0, 0, 0, 0, 0, 0, 0]),
  .inl (2, [0, 0, 0, 0, 0, 0, 0, 0, 0, 0, 0, 0, 0, 0, 0]),
  .inl (2, [0, 0, 0, 0, 0, 0, 0, 0, 0, 0, 0, 0, 0, 0, 0]),
  .inl (2, [0, 0, 0, 0, 0, 0, 0, 0, 0, 0, 0, 0, 0, 0, 0]),
  .inl (2, [0, 0, 0, 0, 0, 0, 0, 0, 0, 0, 0, 0, 0, 0, 0]),
  .inl (2, [0, 0, 0, 0, 0, 0, 0, 0, 0, 0, 0, 0, 0, 0, 0]),
  .inl (2, [0, 0, 0, 0, 0, 0, 0, 0, 0, 0, 0, 0, 0, 0, 0]),
  .inl (2, [0, 0, 0, 0, 0, 0, 0, 0, 0, 0, 0, 0, 0, 0, 0]),
  .inr (1, 600, 1),
  .inr (1, 600, 1),
  .inl (3, [2, 2, 2, 2, 2, 5, 0, 0, 0, 0, 0, 0, 0, 0]),
  .inr (2, 4096, 0),
  .inr (2, 512, 0),
  .inr (2, 512, 0),
  .inr (3, 256, 0),
  .inr (2, 256, 0),
  .inl (4, [2, 2, 2, 2]),
  .inr (3, 5, 0),
  .inr (3, 5, 0),
  .inr (3, 5, 0),
  .inr (3, 5, 0),
  .inl (5, [2, 2, 2, 2, 2, 2, 2, 2, 5, 0]),
  .inr (3, 10, 0),
  .inr (1, 600, 1),
  .inr (3, 600, 0),
  .inr (3, 600, 0),
  .inr (3, 3, 0),
  .inr (3, 3, 0),
  .inr (4, 3, 5),
  .inl (4, [2, 2, 2, 2]),
  .inr (3, 5, 0),
  .inr (3, 5, 0),
  .inr (3, 5, 0),
  .inr (3, 5, 0),
  .inl (4, [2, 2, 2, 2]),
  .inr (3, 5, 0),
  .inr (3, 5, 0),
  .inr (3, 5, 0),
  .inr (3, 5, 0),
  .inl (4, [2, 2, 2, 2]),
  .inr (3, 5, 0),
  .inr (3, 5, 0),
  .inr (3, 5, 0),
  .inr (3, 5, 0),
  .inl (4, [2, 2, 2, 2]),
  .inr (3, 5, 0),
  .inr (3, 5, 0),
  .inr (3, 5, 0),
  .inr (3, 5, 0),
  .inl (6, [2, 0, 0, 0, 0, 0, 0]),
  .inr (5, 1500, 0),
  .inl (7, [2, 0, 1, 0]),
  .inl (8, [2, 3, 2, 2, 0, 0, 0, 0, 0]),
  .inr (3, 11, 0),
  .inr (3, 11, 0),
  .inl (9, [4, 0, 0, 6, 6, 6, 0, 0, 0, 0, 0, 0, 0, 0, 0, 0, 0]),
  .inl (10, [2, 0]),
  .inr (5, 128, 0),
  .inl (11, [0, 0, 2, 2, 2, 2, 2, 0, 2, 2, 0, 2, 2, 2, 0, 0, 0, 2, 2, 0, 2, 2, 2, 2, 2, 2, 2, 2, 0, 2, 0, 0, 0, 0, 0, 2, 0, 2, 2, 2, 2, 2, 2, 2, 2, 2, 2, 2, 2, 2, 0, 0, 0, 0, 0, 0, 0, 0, 2, 2, 0, 1, 2, 2, 1, 0, 0, 2, 2]),
  .inr (3, 4096, 0),
  .inr (3, 512, 0),
  .inr (3, 512, 0),
  .inr (3, 256, 0),
  .inr (3, 256, 0),
  .inr (1, 601, 1),
  .inr (1, 601, 1),
  .inr (3, 12, 0),
  .inr (3, 10, 0),
  .inr (3, 10, 0),
  .inr (3, 3, 0),
  .inr (3, 4, 0),
  .inr (3, 601, 0),
  .inr (3, 601, 0),
  .inr (3, 601, 0),
  .inr (6, 601, 0),
  .inr (3, 601, 0),
  .inr (3, 3, 0),
  .inr (3, 3, 0),
  .inr (3, 1500, 0),
  .inr (1, 24, 1),
  .inr (3, 200, 0),
  .inr (3, 11, 0),
  .inr (3, 11, 0),
  .inr (3, 11, 0),
  .inr (3, 12, 0),
  .inr (3, 10, 0),
  .inr (3, 10, 0),
  .inr (3, 10, 0),
  .inr (3, 10, 0),
  .inr (3, 10, 0),
  .inr (3, 10, 0),
  .inr (3, 10, 0),
  .inr (3, 10, 0),
  .inr (3, 10, 0),
  .inr (3, 10, 0),
  .inr (3, 10, 0),
  .inr (1, 11, 1),
  .inr (3, 8, 0),
  .inr (3, 147, 0),
  .inr (3, 12, 0),
  .inr (1, 1, 1)]
def zz_T (a : Nat) : Option zz_L := if a < 1000 then none else zz_tab[a - 1000]?
def zz_rt : List (Nat → Int × Int) := [
  fun i => zz_gd [(1031, 1031), (1042, 1042), (1070, 1070), (1072, 1072), (1073, 1073), (1076, 1076), (1077, 1077), (0, 1), (0, 1), (0, 1), (0, 1), (0, 600)] i,
  fun i => zz_gd [(1002, 1002), (1, 11)] i,
  fun i => (0 + (i : Int), 0 + (i : Int)),
  fun i => zz_gd [(-2147483648, 2147483647), (-2147483648, 2147483647), (-2147483648, 2147483647), (-2147483648, 2147483647), (-2147483648, 2147483647), (-2147483648, 2147483647), (-2147483648, 2147483647), (-2147483648, 2147483647), (0, 1), (-2147483648, 2147483647), (-2147483648, 2147483647), (-2147483648, 2147483647), (-2147483648, 2147483647), (-2147483648, 2147483647), (-2147483648, 2147483647)] i,
  fun i => zz_gd [(-2147483648, 2147483647), (-2147483648, 2147483647), (-2147483648, 2147483647), (-2147483648, 2147483647), (-2147483648, 2147483647), (-2147483648, 2147483647), (-2147483648, 2147483647), (-2147483648, 2147483647), (0, 1), (-2147483648, 2147483647), (-2147483648, 2147483647), (-2147483648, 2147483647), (-2147483648, 2147483647), (-2147483648, 2147483647), (-2147483648, 2147483647)] i,
  fun i => zz_gd [(-2147483648, 2147483647), (-2147483648, 2147483647), (-2147483648, 2147483647), (-2147483648, 2147483647), (-2147483648, 2147483647), (-2147483648, 2147483647), (-2147483648, 2147483647), (-2147483648, 2147483647), (0, 1), (-2147483648, 2147483647), (-2147483648, 2147483647), (-2147483648, 2147483647), (-2147483648, 2147483647), (-2147483648, 2147483647), (-2147483648, 2147483647)] i,
  fun i => zz_gd [(-2147483648, 2147483647), (-2147483648, 2147483647), (-2147483648, 2147483647), (-2147483648, 2147483647), (-2147483648, 2147483647), (-2147483648, 2147483647), (-2147483648, 2147483647), (-2147483648, 2147483647), (0, 1), (-2147483648, 2147483647), (-2147483648, 2147483647), (-2147483648, 2147483647), (-2147483648, 2147483647), (-2147483648, 2147483647), (-2147483648, 2147483647)] i,
  fun i => zz_gd [(-2147483648, 2147483647), (-2147483648, 2147483647), (-2147483648, 2147483647), (-2147483648, 2147483647), (-2147483648, 2147483647), (-2147483648, 2147483647), (-2147483648, 2147483647), (-2147483648, 2147483647), (0, 1), (-2147483648, 2147483647), (-2147483648, 2147483647), (-2147483648, 2147483647), (-2147483648, 2147483647), (-2147483648, 2147483647), (-2147483648, 2147483647)] i,
  fun i => zz_gd [(-2147483648, 2147483647), (-2147483648, 2147483647), (-2147483648, 2147483647), (-2147483648, 2147483647), (-2147483648, 2147483647), (-2147483648, 2147483647), (-2147483648, 2147483647), (-2147483648, 2147483647), (0, 1), (-2147483648, 2147483647), (-2147483648, 2147483647), (-2147483648, 2147483647), (-2147483648, 2147483647), (-2147483648, 2147483647), (-2147483648, 2147483647)] i,
  fun i => zz_gd [(-2147483648, 2147483647), (-2147483648, 2147483647), (-2147483648, 2147483647), (-2147483648, 2147483647), (-2147483648, 2147483647), (-2147483648, 2147483647), (-2147483648, 2147483647), (-2147483648, 2147483647), (0, 1), (-2147483648, 2147483647), (-2147483648, 2147483647), (-2147483648, 2147483647), (-2147483648, 2147483647), (-2147483648, 2147483647), (-2147483648, 2147483647)] i,
  fun i => zz_gd [(-2147483648, 2147483647), (-2147483648, 2147483647), (-2147483648, 2147483647), (-2147483648, 2147483647), (-2147483648, 2147483647), (-2147483648, 2147483647), (-2147483648, 2147483647), (-2147483648, 2147483647), (0, 1), (-2147483648, 2147483647), (-2147483648, 2147483647), (-2147483648, 2147483647), (-2147483648, 2147483647), (-2147483648, 2147483647), (-2147483648, 2147483647)] i,
  fun i => zz_gd [(-2147483648, 2147483647), (-2147483648, 2147483647), (-2147483648, 2147483647), (-2147483648, 2147483647), (-2147483648, 2147483647), (-2147483648, 2147483647), (-2147483648, 2147483647), (-2147483648, 2147483647), (0, 1), (-2147483648, 2147483647), (-2147483648, 2147483647), (-2147483648, 2147483647), (-2147483648, 2147483647), (-2147483648, 2147483647), (-2147483648, 2147483647)] i,
  fun i => zz_gd [(-2147483648, 2147483647), (-2147483648, 2147483647), (-2147483648, 2147483647), (-2147483648, 2147483647), (-2147483648, 2147483647), (-2147483648, 2147483647), (-2147483648, 2147483647), (-2147483648, 2147483647), (0, 1), (-2147483648, 2147483647), (-2147483648, 2147483647), (-2147483648, 2147483647), (-2147483648, 2147483647), (-2147483648, 2147483647), (-2147483648, 2147483647)] i,
  fun i => zz_gd [(-2147483648, 2147483647), (-2147483648, 2147483647), (-2147483648, 2147483647), (-2147483648, 2147483647), (-2147483648, 2147483647), (-2147483648, 2147483647), (-2147483648, 2147483647), (-2147483648, 2147483647), (0, 1), (-2147483648, 2147483647), (-2147483648, 2147483647), (-2147483648, 2147483647), (-2147483648, 2147483647), (-2147483648, 2147483647), (-2147483648, 2147483647)] i,
  fun i => zz_gd [(-2147483648, 2147483647), (-2147483648, 2147483647), (-2147483648, 2147483647), (-2147483648, 2147483647), (-2147483648, 2147483647), (-2147483648, 2147483647), (-2147483648, 2147483647), (-2147483648, 2147483647), (0, 1), (-2147483648, 2147483647), (-2147483648, 2147483647), (-2147483648, 2147483647), (-2147483648, 2147483647), (-2147483648, 2147483647), (-2147483648, 2147483647)] i,
  fun i => zz_gd [(1016, 1016), (1, 11)] i,
  fun i => (12 + (i : Int), 12 + (i : Int)),
  fun i => zz_gd [(-2147483648, 2147483647), (-2147483648, 2147483647), (-2147483648, 2147483647), (-2147483648, 2147483647), (-2147483648, 2147483647), (-2147483648, 2147483647), (-2147483648, 2147483647), (-2147483648, 2147483647), (0, 1), (-2147483648, 2147483647), (-2147483648, 2147483647), (-2147483648, 2147483647), (-2147483648, 2147483647), (-2147483648, 2147483647), (-2147483648, 2147483647)] i,
  fun i => zz_gd [(-2147483648, 2147483647), (-2147483648, 2147483647), (-2147483648, 2147483647), (-2147483648, 2147483647), (-2147483648, 2147483647), (-2147483648, 2147483647), (-2147483648, 2147483647), (-2147483648, 2147483647), (0, 1), (-2147483648, 2147483647), (-2147483648, 2147483647), (-2147483648, 2147483647), (-2147483648, 2147483647), (-2147483648, 2147483647), (-2147483648, 2147483647)] i,
  fun i => zz_gd [(-2147483648, 2147483647), (-2147483648, 2147483647), (-2147483648, 2147483647), (-2147483648, 2147483647), (-2147483648, 2147483647), (-2147483648, 2147483647), (-2147483648, 2147483647), (-2147483648, 2147483647), (0, 1), (-2147483648, 2147483647), (-2147483648, 2147483647), (-2147483648, 2147483647), (-2147483648, 2147483647), (-2147483648, 2147483647), (-2147483648, 2147483647)] i,
  fun i => zz_gd [(-2147483648, 2147483647), (-2147483648, 2147483647), (-2147483648, 2147483647), (-2147483648, 2147483647), (-2147483648, 2147483647), (-2147483648, 2147483647), (-2147483648, 2147483647), (-2147483648, 2147483647), (0, 1), (-2147483648, 2147483647), (-2147483648, 2147483647), (-2147483648, 2147483647), (-2147483648, 2147483647), (-2147483648, 2147483647), (-2147483648, 2147483647)] i,
  fun i => zz_gd [(-2147483648, 2147483647), (-2147483648, 2147483647), (-2147483648, 2147483647), (-2147483648, 2147483647), (-2147483648, 2147483647), (-2147483648, 2147483647), (-2147483648, 2147483647), (-2147483648, 2147483647), (0, 1), (-2147483648, 2147483647), (-2147483648, 2147483647), (-2147483648, 2147483647), (-2147483648, 2147483647), (-2147483648, 2147483647), (-2147483648, 2147483647)] i,
  fun i => zz_gd [(-2147483648, 2147483647), (-2147483648, 2147483647), (-2147483648, 2147483647), (-2147483648, 2147483647), (-2147483648, 2147483647), (-2147483648, 2147483647), (-2147483648, 2147483647), (-2147483648, 2147483647), (0, 1), (-2147483648, 2147483647), (-2147483648, 2147483647), (-2147483648, 2147483647), (-2147483648, 2147483647), (-2147483648, 2147483647), (-2147483648, 2147483647)] i,
  fun i => zz_gd [(-2147483648, 2147483647), (-2147483648, 2147483647), (-2147483648, 2147483647), (-2147483648, 2147483647), (-2147483648, 2147483647), (-2147483648, 2147483647), (-2147483648, 2147483647), (-2147483648, 2147483647), (0, 1), (-2147483648, 2147483647), (-2147483648, 2147483647), (-2147483648, 2147483647), (-2147483648, 2147483647), (-2147483648, 2147483647), (-2147483648, 2147483647)] i,
  fun i => zz_gd [(-2147483648, 2147483647), (-2147483648, 2147483647), (-2147483648, 2147483647), (-2147483648, 2147483647), (-2147483648, 2147483647), (-2147483648, 2147483647), (-2147483648, 2147483647), (-2147483648, 2147483647), (0, 1), (-2147483648, 2147483647), (-2147483648, 2147483647), (-2147483648, 2147483647), (-2147483648, 2147483647), (-2147483648, 2147483647), (-2147483648, 2147483647)] i,
  fun i => zz_gd [(-2147483648, 2147483647), (-2147483648, 2147483647), (-2147483648, 2147483647), (-2147483648, 2147483647), (-2147483648, 2147483647), (-2147483648, 2147483647), (-2147483648, 2147483647), (-2147483648, 2147483647), (0, 1), (-2147483648, 2147483647), (-2147483648, 2147483647), (-2147483648, 2147483647), (-2147483648, 2147483647), (-2147483648, 2147483647), (-2147483648, 2147483647)] i,
  fun i => zz_gd [(-2147483648, 2147483647), (-2147483648, 2147483647), (-2147483648, 2147483647), (-2147483648, 2147483647), (-2147483648, 2147483647), (-2147483648, 2147483647), (-2147483648, 2147483647), (-2147483648, 2147483647), (0, 1), (-2147483648, 2147483647), (-2147483648, 2147483647), (-2147483648, 2147483647), (-2147483648, 2147483647), (-2147483648, 2147483647), (-2147483648, 2147483647)] i,
  fun i => zz_gd [(-2147483648, 2147483647), (-2147483648, 2147483647), (-2147483648, 2147483647), (-2147483648, 2147483647), (-2147483648, 2147483647), (-2147483648, 2147483647), (-2147483648, 2147483647), (-2147483648, 2147483647), (0, 1), (-2147483648, 2147483647), (-2147483648, 2147483647), (-2147483648, 2147483647), (-2147483648, 2147483647), (-2147483648, 2147483647), (-2147483648, 2147483647)] i,
  fun i => zz_gd [(-2147483648, 2147483647), (-2147483648, 2147483647), (-2147483648, 2147483647), (-2147483648, 2147483647), (-2147483648, 2147483647), (-2147483648, 2147483647), (-2147483648, 2147483647), (-2147483648, 2147483647), (0, 1), (-2147483648, 2147483647), (-2147483648, 2147483647), (-2147483648, 2147483647), (-2147483648, 2147483647), (-2147483648, 2147483647), (-2147483648, 2147483647)] i,
  fun _ => (-9223372036854775808, 9223372036854775807),
  fun _ => (-9223372036854775808, 9223372036854775807),
  fun i => zz_gd [(1032, 1032), (1033, 1033), (1034, 1034), (1035, 1035), (1036, 1036), (4, 4), (2, 8), (0, 4095), (0, 63), (0, 31), (0, 511), (0, 511), (0, 1023), (0, 31)] i,
  fun _ => (-128, 127),
  fun _ => (-128, 127),
  fun _ => (-128, 127),
  fun _ => (-2147483648, 2147483647),
  fun _ => (-128, 127),
  fun i => zz_gd [(1038, 1038), (1039, 1039), (1040, 1040), (1041, 1041)] i,
  fun _ => (-2147483648, 2147483647),
  fun _ => (-2147483648, 2147483647),
  fun _ => (-2147483648, 2147483647),
  fun _ => (-2147483648, 2147483647),
  fun i => zz_gd [(1031, 1031), (1043, 1043), (1044, 1044), (1045, 1045), (1046, 1046), (1047, 1047), (1048, 1048), (1049, 1049), (0, 3), (0, 600)] i,
  fun _ => (-2147483648, 2147483647),
  fun _ => (-9223372036854775808, 9223372036854775807),
  fun _ => (-2147483648, 2147483647),
  fun _ => (-2147483648, 2147483647),
  fun _ => (-1, 600),
  fun _ => (-1, 600),
  fun _ => (0, 3),
  fun i => zz_gd [(1051, 1051), (1052, 1052), (1053, 1053), (1054, 1054)] i,
  fun _ => (-2147483648, 2147483647),
  fun _ => (-2147483648, 2147483647),
  fun _ => (-2147483648, 2147483647),
  fun _ => (-2147483648, 2147483647),
  fun i => zz_gd [(1056, 1056), (1057, 1057), (1058, 1058), (1059, 1059)] i,
  fun _ => (-2147483648, 2147483647),
  fun _ => (-2147483648, 2147483647),
  fun _ => (-2147483648, 2147483647),
  fun _ => (-2147483648, 2147483647),
  fun i => zz_gd [(1061, 1061), (1062, 1062), (1063, 1063), (1064, 1064)] i,
  fun _ => (-2147483648, 2147483647),
  fun _ => (-2147483648, 2147483647),
  fun _ => (-2147483648, 2147483647),
  fun _ => (-2147483648, 2147483647),
  fun i => zz_gd [(1066, 1066), (1067, 1067), (1068, 1068), (1069, 1069)] i,
  fun _ => (-2147483648, 2147483647),
  fun _ => (-2147483648, 2147483647),
  fun _ => (-2147483648, 2147483647),
  fun _ => (-2147483648, 2147483647),
  fun i => zz_gd [(1071, 1071), (0, 1500), (-1, 1500), (0, 1500), (-2147483648, 2147483647), (0, 1500), (-2147483648, 2147483647)] i,
  fun _ => (0, 65535),
  fun i => zz_gd [(1070, 1070), (0, 600), (-9223372036854775808, 9223372036854775807), (-2147483648, 2147483647)] i,
  fun i => zz_gd [(1070, 1070), (0, 1), (1074, 1074), (1075, 1075), (0, 1500), (0, 1500), (-2147483648, 2147483647), (-2147483648, 2147483647), (-2147483648, 2147483647)] i,
  fun _ => (0, 1500),
  fun _ => (0, 1500),
  fun i => zz_gd [(0, 1), (0, 1000000), (2, 8), (-1, 23), (-1, 23), (-1, 23), (-2147483648, 2147483647), (-2147483648, 2147483647), (-2147483648, 2147483647), (-2147483648, 2147483647), (-2147483648, 2147483647), (-2147483648, 2147483647), (-2147483648, 2147483647), (-2147483648, 2147483647), (-2147483648, 2147483647), (-2147483648, 2147483647), (-2147483648, 2147483647)] i,
  fun i => zz_gd [(1078, 1078), (0, 128)] i,
  fun _ => (0, 65535),
  fun i => zz_gd [(0, 3), (2, 8), (1080, 1080), (1081, 1081), (1082, 1082), (1083, 1083), (1084, 1084), (0, 600), (1085, 1085), (1086, 1086), (0, 1000000), (1087, 1087), (1088, 1088), (1089, 1089), (0, 4), (-1, 600), (-2147483648, 2147483647), (1090, 1090), (1091, 1091), (-1, 600), (1092, 1092), (1093, 1093), (1094, 1094), (1095, 1095), (1096, 1096), (1097, 1097), (1098, 1098), (1099, 1099), (0, 1500), (1100, 1100), (0, 102), (0, 9999), (0, 1500), (0, 1500), (0, 200), (1101, 1101), (0, 11), (1102, 1102), (1103, 1103), (1104, 1104), (1105, 1105), (1106, 1106), (1107, 1107), (1108, 1108), (1109, 1109), (1110, 1110), (1111, 1111), (1112, 1112), (1113, 1113), (1114, 1114), (-2147483648, 2147483647), (-2147483648, 2147483647), (-2147483648, 2147483647), (-2147483648, 2147483647), (-2147483648, 2147483647), (-2147483648, 2147483647), (-2147483648, 2147483647), (-2147483648, 2147483647), (1115, 1115), (1116, 1116), (-2147483648, 2147483647), (-9223372036854775808, 9223372036854775807), (1117, 1117), (1118, 1118), (-9223372036854775808, 9223372036854775807), (0, 255), (0, 11), (1119, 1119), (1120, 1120)] i,
  fun _ => (-2147483648, 2147483647),
  fun _ => (-2147483648, 2147483647),
  fun _ => (-2147483648, 2147483647),
  fun _ => (-2147483648, 2147483647),
  fun _ => (-2147483648, 2147483647),
  fun _ => (-9223372036854775808, 9223372036854775807),
  fun _ => (-9223372036854775808, 9223372036854775807),
  fun _ => (-2147483648, 2147483647),
  fun _ => (-2147483648, 2147483647),
  fun _ => (-2147483648, 2147483647),
  fun _ => (-2147483648, 2147483647),
  fun _ => (-2147483648, 2147483647),
  fun _ => (-2147483648, 2147483647),
  fun _ => (-2147483648, 2147483647),
  fun _ => (-2147483648, 2147483647),
  fun _ => (0, 1),
  fun _ => (-2147483648, 2147483647),
  fun _ => (-1, 600),
  fun _ => (-1, 601),
  fun _ => (0, 255),
  fun _ => (0, 1099511627775),
  fun _ => (-2147483648, 2147483647),
  fun _ => (0, 63),
  fun _ => (0, 63),
  fun _ => (0, 63),
  fun i => (0, if i = 0 then 0 else 10000000),
  fun _ => (0, 2),
  fun _ => (0, 10),
  fun _ => (0, 10),
  fun _ => (0, 3),
  fun _ => (0, 3),
  fun _ => (0, 3),
  fun _ => (0, 1),
  fun _ => (0, 31),
  fun _ => (0, 4096),
  fun _ => (-2147483648, 2147483647),
  fun _ => (-2147483648, 2147483647),
  fun _ => (-9223372036854775808, 9223372036854775807),
  fun _ => (0, 9999),
  fun i => (0, if i < 12 then 63 else if i < 24 then 63 else if i < 36 then 63 else if i < 37 then 0 else if i < 48 then 10000000 else if i < 59 then 2 else if i < 70 then 10 else if i < 81 then 10 else if i < 92 then 3 else if i < 103 then 3 else if i < 114 then 3 else if i < 125 then 1 else if i < 136 then 31 else 4096),
  fun i => (0, if i = 0 then 0 else 10000000),
  fun _ => (-9223372036854775808, 9223372036854775807)]
def zz_rg (a i : Nat) : Int × Int := (zz_rt.getD (a - 1000) (fun _ => (-9223372036854775808, 9223372036854775807))) i
abbrev zz_end : Nat := 1122
end
section
/-! Rows over whole numbers and the state of cells. By program (wip/zz/gen41.py). -/
def zz_rg32 (z : Int) : Prop := -2147483648 ≤ z ∧ z ≤ 2147483647
def zz_rg64 (z : Int) : Prop := -9223372036854775808 ≤ z ∧ z ≤ 9223372036854775807
theorem zz_t32 {z : Int} (h : -2147483648 ≤ z ∧ z ≤ 2147483647) : (Int32.ofInt z).toInt = z := Int32.toInt_ofInt_of_le (by omega) (by omega)
theorem zz_t64 {z : Int} (h : -9223372036854775808 ≤ z ∧ z ≤ 9223372036854775807) : (Int64.ofInt z).toInt = z := Int64.toInt_ofInt_of_le (by omega) (by omega)
theorem zz_r32 (x : Int32) : -2147483648 ≤ x.toInt ∧ x.toInt ≤ 2147483647 := by
  have h1 := x.le_toInt
  have h2 := x.toInt_lt
  omega
theorem zz_r64 (x : Int64) : -9223372036854775808 ≤ x.toInt ∧ x.toInt ≤ 9223372036854775807 := by
  have h1 := x.le_toInt
  have h2 := x.toInt_lt
  omega
theorem zz_lt32 {a b : Int} (ha : -2147483648 ≤ a ∧ a ≤ 2147483647) (hb : -2147483648 ≤ b ∧ b ≤ 2147483647) : Int32.ofInt a < Int32.ofInt b ↔ a < b := by
  rw [Int32.lt_iff_toInt_lt, zz_t32 ha, zz_t32 hb]
theorem zz_le32 {a b : Int} (ha : -2147483648 ≤ a ∧ a ≤ 2147483647) (hb : -2147483648 ≤ b ∧ b ≤ 2147483647) : Int32.ofInt a ≤ Int32.ofInt b ↔ a ≤ b := by
  rw [Int32.le_iff_toInt_le, zz_t32 ha, zz_t32 hb]
theorem zz_eq32 {a b : Int} (ha : -2147483648 ≤ a ∧ a ≤ 2147483647) (hb : -2147483648 ≤ b ∧ b ≤ 2147483647) : Int32.ofInt a = Int32.ofInt b ↔ a = b := by
  rw [← Int32.toInt_inj, zz_t32 ha, zz_t32 hb]
theorem zz_bm32 (z : Int) : Int32.ofInt (Int32.ofInt z).toInt = Int32.ofInt z := Int32.ofInt_toInt _
theorem zz_nm32 (x : Int32) : x = Int32.ofInt x.toInt := (Int32.ofInt_toInt x).symm
theorem zz_nm64 (x : Int64) : x = Int64.ofInt x.toInt := (Int64.ofInt_toInt x).symm
def zz_fv (kd : Nat) (z : Int) : Value := match kd with
  | 0 => zi z
  | 1 => zl z
  | kd => if z < 0 then .null else .ref (zz_rf kd z)
def zz_av (N kd : Nat) (f : Nat → Int) : vp_A := match kd with
  | 0 => (N, .inl (fun i => Int32.ofInt (f i)))
  | 1 => (N, .inr (.inl (fun i => Int64.ofInt (f i))))
  | kd => (N, .inr (.inr (.inr (.inr (fun i => if f i < 0 then none else some (zz_rf kd (f i)))))))
def zz_fs (ks : List Nat) (f : Nat → Int) : List Value := ks.mapIdx (fun i kd => zz_fv kd (f i))
def zz_en (L : zz_L) (f : Nat → Int) : mm_E := match L with
  | .inl (ci, ks) => .inr (ci, zz_fs ks f)
  | .inr (t, N, kd) => .inl (t, zz_av N kd f)
def zz_M (S : zz_S) (n : Nat) : mm_M := fun a => if a < n then (zz_T a).map (fun L => zz_en L (S a)) else none
def zz_st (S : zz_S) (a i : Nat) (z : Int) : zz_S := fun b j => if b = a ∧ j = i then z else S b j
theorem zz_st_s {S : zz_S} {a i : Nat} {z : Int} : zz_st S a i z a i = z := by simp [zz_st]
theorem zz_st_n {S : zz_S} {a i b j : Nat} {z : Int} (h : ¬ (b = a ∧ j = i)) : zz_st S a i z b j = S b j := by simp only [zz_st, if_neg h]
theorem zz_M_at {S : zz_S} {n a : Nat} {L : zz_L} (hn : a < n) (hT : zz_T a = some L) : zz_M S n a = some (zz_en L (S a)) := by
  simp only [zz_M, if_pos hn, hT, Option.map_some]
theorem zz_M_st {S : zz_S} {n a i : Nat} {z : Int} {L : zz_L} (hn : a < n) (hT : zz_T a = some L) : zz_M (zz_st S a i z) n = mm_up (zz_M S n) a (zz_en L (zz_st S a i z a)) := by
  funext b
  by_cases h : b = a
  · subst h
    rw [mm_up_s, zz_M_at hn hT]
  · rw [mm_up_n h]
    simp only [zz_M]
    split
    · congr 1
      funext L
      congr 1
      funext j
      exact zz_st_n (fun q => h q.1)
    · rfl
theorem zz_fs_at {ks : List Nat} {f : Nat → Int} {i kd : Nat} (h : ks[i]? = some kd) : (zz_fs ks f)[i]? = some (zz_fv kd (f i)) := by
  simp only [zz_fs, List.getElem?_mapIdx, h, Option.map_some]
theorem zz_fs_len {ks : List Nat} {f : Nat → Int} : (zz_fs ks f).length = ks.length := by simp [zz_fs]
theorem zz_fs_set {ks : List Nat} {S : zz_S} {a i kd : Nat} {z : Int} (h : ks[i]? = some kd) : zz_fs ks (zz_st S a i z a) = (zz_fs ks (S a)).set i (zz_fv kd z) := by
  apply List.ext_getElem?
  intro q
  rw [List.getElem?_set]
  simp only [zz_fs, List.getElem?_mapIdx, List.length_mapIdx]
  by_cases hq : i = q
  · subst hq
    have hl : i < ks.length := by
      rcases Nat.lt_or_ge i ks.length with z | z
      · exact z
      · rw [List.getElem?_eq_none z] at h; cases h
    rw [if_pos rfl, if_pos hl, h]
    simp [zz_st]
  · rw [if_neg hq]
    have : ¬ q = i := fun z => hq z.symm
    simp only [zz_st, true_and, if_neg this]
/-- ranges -/
def zz_G (S : zz_S) : Prop := ∀ a i, 1000 ≤ a → (zz_rg a i).1 ≤ S a i ∧ S a i ≤ (zz_rg a i).2
theorem zz_G.at {S : zz_S} (h : zz_G S) (a i : Nat) (lo hi : Int) (e : zz_rg a i = (lo, hi)) (ha : 1000 ≤ a) : lo ≤ S a i ∧ S a i ≤ hi := by
  have := h a i ha
  rw [e] at this
  exact this
theorem zz_G.put {S S1 : zz_S} (h : zz_G S) {a i : Nat} {z : Int} (e : S1 = zz_st S a i z) (lo hi : Int) (er : zz_rg a i = (lo, hi)) (hz : lo ≤ z ∧ z ≤ hi) : zz_G S1 := by
  intro b j hb
  rw [e]
  by_cases q : b = a ∧ j = i
  · obtain ⟨rfl, rfl⟩ := q
    rw [zz_st_s, er]
    exact hz
  · rw [zz_st_n q]
    exact h b j hb
def zz_D (Y : mm_Y) (pc : Nat) (ins : Instr) (len pc1 : Nat) : Prop := decode Y.2.1 pc = .ok (ins, len) ∧ pc + len = pc1
def zz_B (Y : mm_Y) (pc : Nat) (mk : Int → Instr) (tgt pc1 : Nat) : Prop := ∃ off : Int, decode Y.2.1 pc = .ok (mk off, 3) ∧ (pc : Int) + off = (tgt : Int) ∧ pc + 3 = pc1
def zz_E (g : mm_G) (l : Launch) (Y : mm_Y) (rm : Room) (Q : mm_O → Prop) (S : zz_S) (n pc : Nat) (ls : List (Option Value)) (st : List Value) (k j : Nat) : Prop := mm_Ev g l Y rm Q pc ls st (zz_M S n) n k j
section ZZ
variable {g : mm_G} {l : Launch} {Y : mm_Y} {rm : Room} {Q : mm_O → Prop} {pc pc1 : Nat} {ls : List (Option Value)} {st : List Value} {S : zz_S} {n k j : Nat}
theorem zz_rw {M : mm_M} {p0 : Nat} (e : p0 = pc1) (h : mm_Ev g l Y rm Q pc1 ls st M n k j) : mm_Ev g l Y rm Q p0 ls st M n k j := e ▸ h
theorem zz_iconst {z : Int} (hd : zz_D Y pc (.iconst z) 1 pc1) (kk : zz_E g l Y rm Q S n pc1 ls (zi z :: st) k j) : zz_E g l Y rm Q S n pc ls st k j :=
  mm_iconst rfl hd.1 (zz_rw hd.2 kk)
theorem zz_b8 {z : Int} (h : -128 ≤ z ∧ z < 128) : (Int8.ofInt z).toInt32 = Int32.ofInt z := by
  rw [← Int32.ofInt_int8ToInt, Int8.toInt_ofInt_of_le (by omega) (by omega)]
theorem zz_b16 {z : Int} (h : -32768 ≤ z ∧ z < 32768) : (Int16.ofInt z).toInt32 = Int32.ofInt z := by
  rw [← Int32.ofInt_int16ToInt, Int16.toInt_ofInt_of_le (by omega) (by omega)]
theorem zz_bipush {z : Int} (hz : -128 ≤ z ∧ z < 128) (hd : zz_D Y pc (.bipush z) 2 pc1) (kk : zz_E g l Y rm Q S n pc1 ls (zi z :: st) k j) : zz_E g l Y rm Q S n pc ls st k j :=
  mm_bipush (zz_b8 hz) hd.1 (zz_rw hd.2 kk)
theorem zz_sipush {z : Int} (hz : -32768 ≤ z ∧ z < 32768) (hd : zz_D Y pc (.sipush z) 3 pc1) (kk : zz_E g l Y rm Q S n pc1 ls (zi z :: st) k j) : zz_E g l Y rm Q S n pc ls st k j :=
  mm_sipush (zz_b16 hz) hd.1 (zz_rw hd.2 kk)
theorem zz_lconst {q : Fin 2} {z : Int} (hz : Int64.ofNat (q : Nat) = Int64.ofInt z) (hd : zz_D Y pc (.lconst q) 1 pc1) (kk : zz_E g l Y rm Q S n pc1 ls (zl z :: st) k j) : zz_E g l Y rm Q S n pc ls st k j :=
  mm_lconst hz hd.1 (zz_rw hd.2 kk)
theorem zz_ldc {index : Nat} {z : Int} {v : Int32} (hw : Cond.constant Y.1.cls index v ∈ mm_tb) (hz : v = Int32.ofInt z) (hd : zz_D Y pc (.ldc index) 2 pc1) (kk : zz_E g l Y rm Q S n pc1 ls (zi z :: st) k j) : zz_E g l Y rm Q S n pc ls st k j :=
  mm_ldc hd.1 hw (zz_rw hd.2 (by subst hz; exact kk))
theorem zz_ldc2 {index : Nat} {z : Int} {v : Int64} (hw : Cond.constantLong Y.1.cls index v ∈ mm_tb) (hz : v = Int64.ofInt z) (hd : zz_D Y pc (.ldc2_w index) 3 pc1) (kk : zz_E g l Y rm Q S n pc1 ls (zl z :: st) k j) : zz_E g l Y rm Q S n pc ls st k j :=
  mm_ldc2 hd.1 hw (zz_rw hd.2 (by subst hz; exact kk))
theorem zz_ldcs {index t : Nat} (hw : (Y.1.cls, index, t) ∈ mm_strs) (ht : t < 900) (hd : zz_D Y pc (.ldc index) 2 pc1) (kk : zz_E g l Y rm Q S n pc1 ls (.ref (100 + t) :: st) k j) : zz_E g l Y rm Q S n pc ls st k j :=
  mm_ldcs hd.1 hw ht (zz_rw hd.2 kk)
theorem zz_iload_n {q : Fin 4} {x : Int} (hv : mm_lg ls (q : Nat) = some (zi x)) (hd : zz_D Y pc (.iload_n q) 1 pc1) (kk : zz_E g l Y rm Q S n pc1 ls (zi x :: st) k j) : zz_E g l Y rm Q S n pc ls st k j :=
  mm_iload_n hv hd.1 (zz_rw hd.2 kk)
theorem zz_iload {i : Nat} {x : Int} (hv : mm_lg ls i = some (zi x)) (hd : zz_D Y pc (.iload i) 2 pc1) (kk : zz_E g l Y rm Q S n pc1 ls (zi x :: st) k j) : zz_E g l Y rm Q S n pc ls st k j :=
  mm_iload hv hd.1 (zz_rw hd.2 kk)
theorem zz_istore_n {q : Fin 4} {x : Int} (ls1 : List (Option Value)) (hd : zz_D Y pc (.istore_n q) 1 pc1) (hn : (q : Nat) < Y.2.2.1) (hl : mm_st1 ls (q : Nat) (zi x) = ls1) (kk : zz_E g l Y rm Q S n pc1 ls1 st k j) : zz_E g l Y rm Q S n pc ls (zi x :: st) k j :=
  mm_istore_n hd.1 hn hl (zz_rw hd.2 kk)
theorem zz_istore {i : Nat} {x : Int} (ls1 : List (Option Value)) (hd : zz_D Y pc (.istore i) 2 pc1) (hn : i < Y.2.2.1) (hl : mm_st1 ls i (zi x) = ls1) (kk : zz_E g l Y rm Q S n pc1 ls1 st k j) : zz_E g l Y rm Q S n pc ls (zi x :: st) k j :=
  mm_istore hd.1 hn hl (zz_rw hd.2 kk)
theorem zz_lload_n {q : Fin 4} {x : Int} (hv : mm_lg ls (q : Nat) = some (zl x)) (hd : zz_D Y pc (.lload_n q) 1 pc1) (kk : zz_E g l Y rm Q S n pc1 ls (zl x :: st) k j) : zz_E g l Y rm Q S n pc ls st k j :=
  mm_lload_n hv hd.1 (zz_rw hd.2 kk)
theorem zz_lload {i : Nat} {x : Int} (hv : mm_lg ls i = some (zl x)) (hd : zz_D Y pc (.lload i) 2 pc1) (kk : zz_E g l Y rm Q S n pc1 ls (zl x :: st) k j) : zz_E g l Y rm Q S n pc ls st k j :=
  mm_lload hv hd.1 (zz_rw hd.2 kk)
theorem zz_lstore_n {q : Fin 4} {x : Int} (ls1 : List (Option Value)) (hd : zz_D Y pc (.lstore_n q) 1 pc1) (hn : (q : Nat) + 1 < Y.2.2.1) (hl : mm_st2 ls (q : Nat) (zl x) = ls1) (kk : zz_E g l Y rm Q S n pc1 ls1 st k j) : zz_E g l Y rm Q S n pc ls (zl x :: st) k j :=
  mm_lstore_n hd.1 hn hl (zz_rw hd.2 kk)
theorem zz_lstore {i : Nat} {x : Int} (ls1 : List (Option Value)) (hd : zz_D Y pc (.lstore i) 2 pc1) (hn : i + 1 < Y.2.2.1) (hl : mm_st2 ls i (zl x) = ls1) (kk : zz_E g l Y rm Q S n pc1 ls1 st k j) : zz_E g l Y rm Q S n pc ls (zl x :: st) k j :=
  mm_lstore hd.1 hn hl (zz_rw hd.2 kk)
theorem zz_aload_n {q : Fin 4} {x : Nat} (hv : mm_lg ls (q : Nat) = some (.ref x)) (hd : zz_D Y pc (.aload_n q) 1 pc1) (kk : zz_E g l Y rm Q S n pc1 ls (.ref x :: st) k j) : zz_E g l Y rm Q S n pc ls st k j :=
  mm_aload_n hv hd.1 (zz_rw hd.2 kk)
theorem zz_aload {i : Nat} {x : Nat} (hv : mm_lg ls i = some (.ref x)) (hd : zz_D Y pc (.aload i) 2 pc1) (kk : zz_E g l Y rm Q S n pc1 ls (.ref x :: st) k j) : zz_E g l Y rm Q S n pc ls st k j :=
  mm_aload hv hd.1 (zz_rw hd.2 kk)
theorem zz_astore_n {q : Fin 4} {x : Nat} (ls1 : List (Option Value)) (hd : zz_D Y pc (.astore_n q) 1 pc1) (hn : (q : Nat) < Y.2.2.1) (hl : mm_st1 ls (q : Nat) (.ref x) = ls1) (kk : zz_E g l Y rm Q S n pc1 ls1 st k j) : zz_E g l Y rm Q S n pc ls (.ref x :: st) k j :=
  mm_astore_n hd.1 hn hl (zz_rw hd.2 kk)
theorem zz_astore {i : Nat} {x : Nat} (ls1 : List (Option Value)) (hd : zz_D Y pc (.astore i) 2 pc1) (hn : i < Y.2.2.1) (hl : mm_st1 ls i (.ref x) = ls1) (kk : zz_E g l Y rm Q S n pc1 ls1 st k j) : zz_E g l Y rm Q S n pc ls (.ref x :: st) k j :=
  mm_astore hd.1 hn hl (zz_rw hd.2 kk)
theorem zz_iinc {i : Nat} {c x : Int} (ls1 : List (Option Value)) (hd : zz_D Y pc (.iinc i c) 3 pc1) (hg : mm_lg ls i = some (zi x)) (hl : mm_st1 ls i (zi (x + c)) = ls1) (kk : zz_E g l Y rm Q S n pc1 ls1 st k j) : zz_E g l Y rm Q S n pc ls st k j :=
  mm_iinc hd.1 hg (Int32.ofInt_add x c).symm hl (zz_rw hd.2 kk)
theorem zz_iadd {x y : Int} (hd : zz_D Y pc .iadd 1 pc1) (kk : zz_E g l Y rm Q S n pc1 ls (zi (x + y) :: st) k j) : zz_E g l Y rm Q S n pc ls (zi y :: zi x :: st) k j :=
  mm_iadd hd.1 (zz_rw hd.2 (by rw [← Int32.ofInt_add]; exact kk))
theorem zz_ladd {x y : Int} (hd : zz_D Y pc .ladd 1 pc1) (kk : zz_E g l Y rm Q S n pc1 ls (zl (x + y) :: st) k j) : zz_E g l Y rm Q S n pc ls (zl y :: zl x :: st) k j :=
  mm_ladd hd.1 (zz_rw hd.2 (by rw [← Int64.ofInt_add]; exact kk))
theorem zz_isub {x y : Int} (hd : zz_D Y pc .isub 1 pc1) (kk : zz_E g l Y rm Q S n pc1 ls (zi (x - y) :: st) k j) : zz_E g l Y rm Q S n pc ls (zi y :: zi x :: st) k j :=
  mm_isub hd.1 (zz_rw hd.2 (by rw [← Int32.ofInt_sub]; exact kk))
theorem zz_lsub {x y : Int} (hd : zz_D Y pc .lsub 1 pc1) (kk : zz_E g l Y rm Q S n pc1 ls (zl (x - y) :: st) k j) : zz_E g l Y rm Q S n pc ls (zl y :: zl x :: st) k j :=
  mm_lsub hd.1 (zz_rw hd.2 (by rw [← Int64.ofInt_sub]; exact kk))
theorem zz_imul {x y : Int} (hd : zz_D Y pc .imul 1 pc1) (kk : zz_E g l Y rm Q S n pc1 ls (zi (x * y) :: st) k j) : zz_E g l Y rm Q S n pc ls (zi y :: zi x :: st) k j :=
  mm_imul hd.1 (zz_rw hd.2 (by rw [← Int32.ofInt_mul]; exact kk))
theorem zz_lmul {x y : Int} (hd : zz_D Y pc .lmul 1 pc1) (kk : zz_E g l Y rm Q S n pc1 ls (zl (x * y) :: st) k j) : zz_E g l Y rm Q S n pc ls (zl y :: zl x :: st) k j :=
  mm_lmul hd.1 (zz_rw hd.2 (by rw [← Int64.ofInt_mul]; exact kk))
theorem zz_ineg {x : Int} (hd : zz_D Y pc .ineg 1 pc1) (kk : zz_E g l Y rm Q S n pc1 ls (zi (-x) :: st) k j) : zz_E g l Y rm Q S n pc ls (zi x :: st) k j :=
  mm_ineg hd.1 (zz_rw hd.2 (by rw [← Int32.ofInt_neg]; exact kk))
theorem zz_nrm {e : Int} (kk : ∀ v : Int, (-2147483648 ≤ v ∧ v ≤ 2147483647) → (-2147483648 ≤ e ∧ e ≤ 2147483647 → v = e) → zz_E g l Y rm Q S n pc ls (zi v :: st) k j) : zz_E g l Y rm Q S n pc ls (zi e :: st) k j := by
  have h := kk (Int32.ofInt e).toInt (zz_r32 _) (fun h => zz_t32 h)
  unfold zi at h
  rw [zz_bm32] at h
  exact h
theorem zz_nrml {e : Int} (kk : ∀ v : Int, (-9223372036854775808 ≤ v ∧ v ≤ 9223372036854775807) → (-9223372036854775808 ≤ e ∧ e ≤ 9223372036854775807 → v = e) → zz_E g l Y rm Q S n pc ls (zl v :: st) k j) : zz_E g l Y rm Q S n pc ls (zl e :: st) k j := by
  have h := kk (Int64.ofInt e).toInt (zz_r64 _) (fun h => zz_t64 h)
  unfold zl at h
  rw [Int64.ofInt_toInt] at h
  exact h
theorem zz_eqv {e v : Int} (h : e = v) (kk : zz_E g l Y rm Q S n pc ls (zi v :: st) k j) : zz_E g l Y rm Q S n pc ls (zi e :: st) k j := h ▸ kk
theorem zz_div32 {x y : Int} (hx : -2147483648 ≤ x ∧ x ≤ 2147483647) (hy : 0 < y ∧ y ≤ 2147483647) : Int32.ofInt x / Int32.ofInt y = Int32.ofInt (x.tdiv y) := by
  apply Int32.toInt_inj.mp
  have hb : Int32.ofInt y ≠ -1 := fun h => by
    have h2 := congrArg Int32.toInt h
    rw [zz_t32 (by omega)] at h2
    have : (-1 : Int32).toInt = -1 := by decide
    omega
  rw [Int32.toInt_div_of_ne_right _ _ hb, zz_t32 hx, zz_t32 (by omega)]
  have h1 := Int.tdiv_le_self (a := x) 
  rw [zz_t32]
  have h3 := Int.natAbs_tdiv_le_natAbs x y
  have h4 : (x.tdiv y).natAbs ≤ x.natAbs := h3
  by_cases h0 : 0 ≤ x
  · have := Int.tdiv_nonneg h0 (Int.le_of_lt hy.1)
    omega
  · have := Int.tdiv_nonneg (by omega : 0 ≤ -x) (Int.le_of_lt hy.1)
    rw [Int.neg_tdiv] at this
    omega
theorem zz_ne0 {y : Int} (hy : 0 < y ∧ y ≤ 2147483647) : ¬ Int32.ofInt y = 0 := fun h => by
  have h2 := congrArg Int32.toInt h
  rw [zz_t32 (by omega)] at h2
  have : (0 : Int32).toInt = 0 := by decide
  omega
theorem zz_idiv {x y : Int} (hx : -2147483648 ≤ x ∧ x ≤ 2147483647) (hy : 0 < y ∧ y ≤ 2147483647) (hd : zz_D Y pc .idiv 1 pc1) (kk : ∀ v : Int, (-2147483648 ≤ v ∧ v ≤ 2147483647) → v = x.tdiv y → (0 ≤ x → v = x / y) → (x ≤ 0 → v = -((-x) / y)) → zz_E g l Y rm Q S n pc1 ls (zi v :: st) k j) : zz_E g l Y rm Q S n pc ls (zi y :: zi x :: st) k j := by
  refine mm_idiv (zz_ne0 hy) hd.1 (zz_rw hd.2 ?_)
  rw [zz_div32 hx hy]
  refine kk (x.tdiv y) ?_ rfl (fun h => Int.tdiv_eq_ediv_of_nonneg h) (fun h => ?_)
  · have h3 := Int.natAbs_tdiv_le_natAbs x y
    by_cases h0 : 0 ≤ x
    · have := Int.tdiv_nonneg h0 (Int.le_of_lt hy.1)
      omega
    · have := Int.tdiv_nonneg (by omega : 0 ≤ -x) (Int.le_of_lt hy.1)
      rw [Int.neg_tdiv] at this
      omega
  · rw [← Int.tdiv_eq_ediv_of_nonneg (by omega : 0 ≤ -x), Int.neg_tdiv, Int.neg_neg]
theorem zz_irem {x y : Int} (hx : -2147483648 ≤ x ∧ x ≤ 2147483647) (hy : 0 < y ∧ y ≤ 2147483647) (hd : zz_D Y pc .irem 1 pc1) (kk : ∀ v : Int, (-y < v ∧ v < y) → v = x.tmod y → (0 ≤ x → v = x % y) → (x ≤ 0 → v = -((-x) % y)) → zz_E g l Y rm Q S n pc1 ls (zi v :: st) k j) : zz_E g l Y rm Q S n pc ls (zi y :: zi x :: st) k j := by
  refine mm_irem (zz_ne0 hy) hd.1 (zz_rw hd.2 ?_)
  rw [zz_div32 hx hy, ← Int32.ofInt_mul, ← Int32.ofInt_sub]
  have e : x - x.tdiv y * y = x.tmod y := by
    have := Int.tdiv_mul_add_tmod x y
    omega
  rw [e]
  have hneg : x ≤ 0 → x.tmod y = -((-x) % y) := fun h => by
    rw [← Int.tmod_eq_emod_of_nonneg (by omega : 0 ≤ -x), Int.neg_tmod, Int.neg_neg]
  refine kk (x.tmod y) ?_ rfl (fun h => Int.tmod_eq_emod_of_nonneg h) hneg
  rcases Int.le_total 0 x with h | h
  · rw [Int.tmod_eq_emod_of_nonneg h]
    have h1 := Int.emod_nonneg x (by omega : y ≠ 0)
    have h2 := Int.emod_lt_of_pos x hy.1
    omega
  · rw [hneg h]
    have h1 := Int.emod_nonneg (-x) (by omega : y ≠ 0)
    have h2 := Int.emod_lt_of_pos (-x) hy.1
    omega
theorem zz_and32 (x y : Int32) : (0 ≤ x.toInt → 0 ≤ (x &&& y).toInt ∧ (x &&& y).toInt ≤ x.toInt) ∧ (0 ≤ y.toInt → 0 ≤ (x &&& y).toInt ∧ (x &&& y).toInt ≤ y.toInt) := by
  have key : ∀ x y : Int32, 0 ≤ x.toInt → 0 ≤ (x &&& y).toInt ∧ (x &&& y).toInt ≤ x.toInt := by
    intro x y h
    have h1 : x.toBitVec.toInt = x.toInt := rfl
    have h2 : (x &&& y).toInt = (x.toBitVec &&& y.toBitVec).toInt := by rw [← Int32.toInt_toBitVec, Int32.toBitVec_and]
    have hm : x.toBitVec.msb = false := by
      rw [BitVec.msb_eq_toInt]
      simpa [h1] using h
    have hm2 : (x.toBitVec &&& y.toBitVec).msb = false := by rw [BitVec.msb_and, hm]; rfl
    rw [h2, ← h1, BitVec.toInt_eq_toNat_of_msb hm2, BitVec.toInt_eq_toNat_of_msb hm, BitVec.toNat_and]
    have := @Nat.and_le_left x.toBitVec.toNat y.toBitVec.toNat
    omega
  refine ⟨key x y, fun h => ?_⟩
  have := key y x h
  rw [Int32.and_comm y x] at this
  exact this
theorem zz_or32 (x y : Int32) : (0 ≤ x.toInt → 0 ≤ y.toInt → 0 ≤ (x ||| y).toInt) := by
  intro hx hy
  have h1 : x.toBitVec.toInt = x.toInt := rfl
  have h1y : y.toBitVec.toInt = y.toInt := rfl
  have h2 : (x ||| y).toInt = (x.toBitVec ||| y.toBitVec).toInt := by rw [← Int32.toInt_toBitVec, Int32.toBitVec_or]
  have hm : x.toBitVec.msb = false := by rw [BitVec.msb_eq_toInt]; simpa [h1] using hx
  have hmy : y.toBitVec.msb = false := by rw [BitVec.msb_eq_toInt]; simpa [h1y] using hy
  have hm2 : (x.toBitVec ||| y.toBitVec).msb = false := by rw [BitVec.msb_or, hm, hmy]; rfl
  rw [h2, BitVec.toInt_eq_toNat_of_msb hm2]
  omega
theorem zz_iand {x y : Int} (hx : -2147483648 ≤ x ∧ x ≤ 2147483647) (hy : -2147483648 ≤ y ∧ y ≤ 2147483647) (hd : zz_D Y pc .iand 1 pc1) (kk : ∀ v : Int, (-2147483648 ≤ v ∧ v ≤ 2147483647) → (0 ≤ x → 0 ≤ v ∧ v ≤ x) → (0 ≤ y → 0 ≤ v ∧ v ≤ y) → v = (Int32.ofInt x &&& Int32.ofInt y).toInt → zz_E g l Y rm Q S n pc1 ls (zi v :: st) k j) : zz_E g l Y rm Q S n pc ls (zi y :: zi x :: st) k j := by
  refine mm_iand hd.1 (zz_rw hd.2 ?_)
  have h := zz_and32 (Int32.ofInt x) (Int32.ofInt y)
  rw [zz_t32 hx, zz_t32 hy] at h
  rw [zz_nm32 (Int32.ofInt x &&& Int32.ofInt y)]
  exact kk _ (zz_r32 _) h.1 h.2 rfl
theorem zz_ior {x y : Int} (hx : -2147483648 ≤ x ∧ x ≤ 2147483647) (hy : -2147483648 ≤ y ∧ y ≤ 2147483647) (hd : zz_D Y pc .ior 1 pc1) (kk : ∀ v : Int, (-2147483648 ≤ v ∧ v ≤ 2147483647) → (0 ≤ x → 0 ≤ y → 0 ≤ v) → v = (Int32.ofInt x ||| Int32.ofInt y).toInt → zz_E g l Y rm Q S n pc1 ls (zi v :: st) k j) : zz_E g l Y rm Q S n pc ls (zi y :: zi x :: st) k j := by
  refine mm_ior hd.1 (zz_rw hd.2 ?_)
  have h := zz_or32 (Int32.ofInt x) (Int32.ofInt y)
  rw [zz_t32 hx, zz_t32 hy] at h
  rw [zz_nm32 (Int32.ofInt x ||| Int32.ofInt y)]
  exact kk _ (zz_r32 _) h rfl
theorem zz_ixor {x y : Int} (hd : zz_D Y pc .ixor 1 pc1) (kk : ∀ v : Int, (-2147483648 ≤ v ∧ v ≤ 2147483647) → v = (Int32.ofInt x ^^^ Int32.ofInt y).toInt → zz_E g l Y rm Q S n pc1 ls (zi v :: st) k j) : zz_E g l Y rm Q S n pc ls (zi y :: zi x :: st) k j := by
  refine mm_ixor hd.1 (zz_rw hd.2 ?_)
  rw [zz_nm32 (Int32.ofInt x ^^^ Int32.ofInt y)]
  exact kk _ (zz_r32 _) rfl
theorem zz_ishl {x y : Int} (hd : zz_D Y pc .ishl 1 pc1) (kk : ∀ v : Int, (-2147483648 ≤ v ∧ v ≤ 2147483647) → v = (Int32.ofInt x <<< (Int32.ofInt y &&& 31)).toInt → zz_E g l Y rm Q S n pc1 ls (zi v :: st) k j) : zz_E g l Y rm Q S n pc ls (zi y :: zi x :: st) k j := by
  refine mm_ishl hd.1 (zz_rw hd.2 ?_)
  rw [zz_nm32 (Int32.ofInt x <<< (Int32.ofInt y &&& 31))]
  exact kk _ (zz_r32 _) rfl
theorem zz_ishr {x y : Int} (hd : zz_D Y pc .ishr 1 pc1) (kk : ∀ v : Int, (-2147483648 ≤ v ∧ v ≤ 2147483647) → v = (Int32.ofInt x >>> (Int32.ofInt y &&& 31)).toInt → zz_E g l Y rm Q S n pc1 ls (zi v :: st) k j) : zz_E g l Y rm Q S n pc ls (zi y :: zi x :: st) k j := by
  refine mm_ishr hd.1 (zz_rw hd.2 ?_)
  rw [zz_nm32 (Int32.ofInt x >>> (Int32.ofInt y &&& 31))]
  exact kk _ (zz_r32 _) rfl
theorem zz_iushr {x y : Int} (hd : zz_D Y pc .iushr 1 pc1) (kk : ∀ v : Int, (-2147483648 ≤ v ∧ v ≤ 2147483647) → v = (((Int32.ofInt x).toUInt32 >>> ((Int32.ofInt y).toUInt32 &&& Int32.toUInt32 31)).toInt32).toInt → zz_E g l Y rm Q S n pc1 ls (zi v :: st) k j) : zz_E g l Y rm Q S n pc ls (zi y :: zi x :: st) k j := by
  refine mm_iushr rfl hd.1 (zz_rw hd.2 ?_)
  rw [zz_nm32 (((Int32.ofInt x).toUInt32 >>> ((Int32.ofInt y).toUInt32 &&& Int32.toUInt32 31)).toInt32)]
  exact kk _ (zz_r32 _) rfl
theorem zz_land {x y : Int} (hd : zz_D Y pc .land 1 pc1) (kk : ∀ v : Int, (-9223372036854775808 ≤ v ∧ v ≤ 9223372036854775807) → v = (Int64.ofInt x &&& Int64.ofInt y).toInt → zz_E g l Y rm Q S n pc1 ls (zl v :: st) k j) : zz_E g l Y rm Q S n pc ls (zl y :: zl x :: st) k j := by
  refine mm_land hd.1 (zz_rw hd.2 ?_)
  rw [zz_nm64 (Int64.ofInt x &&& Int64.ofInt y)]
  exact kk _ (zz_r64 _) rfl
theorem zz_lor {x y : Int} (hd : zz_D Y pc .lor 1 pc1) (kk : ∀ v : Int, (-9223372036854775808 ≤ v ∧ v ≤ 9223372036854775807) → v = (Int64.ofInt x ||| Int64.ofInt y).toInt → zz_E g l Y rm Q S n pc1 ls (zl v :: st) k j) : zz_E g l Y rm Q S n pc ls (zl y :: zl x :: st) k j := by
  refine mm_lor hd.1 (zz_rw hd.2 ?_)
  rw [zz_nm64 (Int64.ofInt x ||| Int64.ofInt y)]
  exact kk _ (zz_r64 _) rfl
theorem zz_lxor {x y : Int} (hd : zz_D Y pc .lxor 1 pc1) (kk : ∀ v : Int, (-9223372036854775808 ≤ v ∧ v ≤ 9223372036854775807) → v = (Int64.ofInt x ^^^ Int64.ofInt y).toInt → zz_E g l Y rm Q S n pc1 ls (zl v :: st) k j) : zz_E g l Y rm Q S n pc ls (zl y :: zl x :: st) k j := by
  refine mm_lxor hd.1 (zz_rw hd.2 ?_)
  rw [zz_nm64 (Int64.ofInt x ^^^ Int64.ofInt y)]
  exact kk _ (zz_r64 _) rfl
theorem zz_lshl {x y : Int} (hd : zz_D Y pc .lshl 1 pc1) (kk : ∀ v : Int, (-9223372036854775808 ≤ v ∧ v ≤ 9223372036854775807) → v = (Int64.ofInt x <<< ((Int32.ofInt y).toInt64 &&& 63)).toInt → zz_E g l Y rm Q S n pc1 ls (zl v :: st) k j) : zz_E g l Y rm Q S n pc ls (zi y :: zl x :: st) k j := by
  refine mm_lshl rfl hd.1 (zz_rw hd.2 ?_)
  rw [zz_nm64 (Int64.ofInt x <<< ((Int32.ofInt y).toInt64 &&& 63))]
  exact kk _ (zz_r64 _) rfl
theorem zz_lshr {x y : Int} (hd : zz_D Y pc .lshr 1 pc1) (kk : ∀ v : Int, (-9223372036854775808 ≤ v ∧ v ≤ 9223372036854775807) → v = (Int64.ofInt x >>> ((Int32.ofInt y).toInt64 &&& 63)).toInt → zz_E g l Y rm Q S n pc1 ls (zl v :: st) k j) : zz_E g l Y rm Q S n pc ls (zi y :: zl x :: st) k j := by
  refine mm_lshr rfl hd.1 (zz_rw hd.2 ?_)
  rw [zz_nm64 (Int64.ofInt x >>> ((Int32.ofInt y).toInt64 &&& 63))]
  exact kk _ (zz_r64 _) rfl
theorem zz_lushr {x y : Int} (hd : zz_D Y pc .lushr 1 pc1) (kk : ∀ v : Int, (-9223372036854775808 ≤ v ∧ v ≤ 9223372036854775807) → v = (((Int64.ofInt x).toUInt64 >>> ((Int32.ofInt y).toInt64.toUInt64 &&& Int64.toUInt64 63)).toInt64).toInt → zz_E g l Y rm Q S n pc1 ls (zl v :: st) k j) : zz_E g l Y rm Q S n pc ls (zi y :: zl x :: st) k j := by
  refine mm_lushr rfl hd.1 (zz_rw hd.2 ?_)
  rw [zz_nm64 (((Int64.ofInt x).toUInt64 >>> ((Int32.ofInt y).toInt64.toUInt64 &&& Int64.toUInt64 63)).toInt64)]
  exact kk _ (zz_r64 _) rfl
theorem zz_i2l {x : Int} (hx : -2147483648 ≤ x ∧ x ≤ 2147483647) (hd : zz_D Y pc .i2l 1 pc1) (kk : zz_E g l Y rm Q S n pc1 ls (zl x :: st) k j) : zz_E g l Y rm Q S n pc ls (zi x :: st) k j := by
  refine mm_i2l (v := Int64.ofInt x) ?_ hd.1 (zz_rw hd.2 kk)
  apply Int64.toInt_inj.mp
  rw [Int32.toInt_toInt64, zz_t32 hx, zz_t64 (by omega)]
theorem zz_l2i {x : Int} (hx : -9223372036854775808 ≤ x ∧ x ≤ 9223372036854775807) (hd : zz_D Y pc .l2i 1 pc1) (kk : ∀ v : Int, (-2147483648 ≤ v ∧ v ≤ 2147483647) → (-2147483648 ≤ x ∧ x ≤ 2147483647 → v = x) → v = (Int64.ofInt x).toInt32.toInt → zz_E g l Y rm Q S n pc1 ls (zi v :: st) k j) : zz_E g l Y rm Q S n pc ls (zl x :: st) k j := by
  refine mm_l2i rfl hd.1 (zz_rw hd.2 ?_)
  rw [zz_nm32 (Int64.ofInt x).toInt32]
  refine kk _ (zz_r32 _) (fun h => ?_) rfl
  rw [Int64.toInt_toInt32, zz_t64 hx]
  exact Int.bmod_eq_of_le (by omega) (by omega)
theorem zz_i2b {x : Int} (hd : zz_D Y pc .i2b 1 pc1) (kk : ∀ v : Int, (-128 ≤ v ∧ v ≤ 127) → zz_E g l Y rm Q S n pc1 ls (zi v :: st) k j) : zz_E g l Y rm Q S n pc ls (zi x :: st) k j := by
  refine mm_i2b rfl hd.1 (zz_rw hd.2 ?_)
  rw [zz_nm32 (Int32.ofInt x).toInt8.toInt32]
  refine kk _ ?_
  rw [Int8.toInt_toInt32]
  have h1 := (Int32.ofInt x).toInt8.le_toInt
  have h2 := (Int32.ofInt x).toInt8.toInt_lt
  omega
theorem zz_i2c {x : Int} (hx : 0 ≤ x ∧ x ≤ 65535) (hd : zz_D Y pc .i2c 1 pc1) (kk : zz_E g l Y rm Q S n pc1 ls (zi x :: st) k j) : zz_E g l Y rm Q S n pc ls (zi x :: st) k j := by
  refine mm_i2c (v := Int32.ofInt x) ?_ hd.1 (zz_rw hd.2 kk)
  obtain ⟨m, rfl⟩ := Int.eq_ofNat_of_zero_le hx.1
  have hm : m ≤ 65535 := by omega
  apply Int32.toBitVec_inj.mp
  apply BitVec.eq_of_toNat_eq
  simp only [UInt32.toBitVec_toInt32, UInt32.toBitVec_mod, Int32.toBitVec_toUInt32, Int32.toBitVec_ofInt, BitVec.toNat_umod, BitVec.toNat_ofInt]
  have : (65536 : UInt32).toBitVec.toNat = 65536 := by decide
  rw [this]
  omega
theorem zz_dup {v : Value} (hv : v.category = 1) (hd : zz_D Y pc .dup 1 pc1) (kk : zz_E g l Y rm Q S n pc1 ls (v :: v :: st) k j) : zz_E g l Y rm Q S n pc ls (v :: st) k j :=
  mm_dup hv hd.1 (zz_rw hd.2 kk)
theorem zz_pop {v : Value} (hv : v.category = 1) (hd : zz_D Y pc .pop 1 pc1) (kk : zz_E g l Y rm Q S n pc1 ls st k j) : zz_E g l Y rm Q S n pc ls (v :: st) k j :=
  mm_pop hv hd.1 (zz_rw hd.2 kk)
theorem zz_dup_x1 {v w : Value} (hv : v.category = 1) (hw : w.category = 1) (hd : zz_D Y pc .dup_x1 1 pc1) (kk : zz_E g l Y rm Q S n pc1 ls (v :: w :: v :: st) k j) : zz_E g l Y rm Q S n pc ls (v :: w :: st) k j :=
  mm_dup_x1 hv hw hd.1 (zz_rw hd.2 kk)
theorem zz_dup_x2 {v w u : Value} (hv : v.category = 1) (hw : w.category = 1) (hu : u.category = 1) (hd : zz_D Y pc .dup_x2 1 pc1) (kk : zz_E g l Y rm Q S n pc1 ls (v :: w :: u :: v :: st) k j) : zz_E g l Y rm Q S n pc ls (v :: w :: u :: st) k j :=
  mm_dup_x2 hv hw hu hd.1 (zz_rw hd.2 kk)
theorem zz_dup2_11 {v w : Value} (hv : v.category = 1) (hw : w.category = 1) (hd : zz_D Y pc .dup2 1 pc1) (kk : zz_E g l Y rm Q S n pc1 ls (v :: w :: v :: w :: st) k j) : zz_E g l Y rm Q S n pc ls (v :: w :: st) k j :=
  mm_dup2_11 hv hw hd.1 (zz_rw hd.2 kk)
theorem zz_dup2_2 {v : Value} (hv : v.category = 2) (hd : zz_D Y pc .dup2 1 pc1) (kk : zz_E g l Y rm Q S n pc1 ls (v :: v :: st) k j) : zz_E g l Y rm Q S n pc ls (v :: st) k j :=
  mm_dup2_2 hv hd.1 (zz_rw hd.2 kk)
theorem zz_pop2_2 {v : Value} (hv : v.category = 2) (hd : zz_D Y pc .pop2 1 pc1) (kk : zz_E g l Y rm Q S n pc1 ls st k j) : zz_E g l Y rm Q S n pc ls (v :: st) k j :=
  mm_pop2_2 hv hd.1 (zz_rw hd.2 kk)
theorem zz_dup2_x1_2 {v w : Value} (hv : v.category = 2) (hw : w.category = 1) (hd : zz_D Y pc .dup2_x1 1 pc1) (kk : zz_E g l Y rm Q S n pc1 ls (v :: w :: v :: st) k j) : zz_E g l Y rm Q S n pc ls (v :: w :: st) k j :=
  mm_dup2_x1_2 hv hw hd.1 (zz_rw hd.2 kk)
theorem zz_dup2_x2_2 {v w u : Value} (hv : v.category = 2) (hw : w.category = 1) (hu : u.category = 1) (hd : zz_D Y pc .dup2_x2 1 pc1) (kk : zz_E g l Y rm Q S n pc1 ls (v :: w :: u :: v :: st) k j) : zz_E g l Y rm Q S n pc ls (v :: w :: u :: st) k j :=
  mm_dup2_x2_2 hv hw hu hd.1 (zz_rw hd.2 kk)
theorem zz_cmp {x y : Int} (hx : -9223372036854775808 ≤ x ∧ x ≤ 9223372036854775807) (hy : -9223372036854775808 ≤ y ∧ y ≤ 9223372036854775807) : ∃ v : Int, lg_cmp (Int64.ofInt x) (Int64.ofInt y) = Int32.ofInt v ∧ ((x < y ∧ v = -1) ∨ (x = y ∧ v = 0) ∨ (y < x ∧ v = 1)) := by
  have h1 : Int64.ofInt x < Int64.ofInt y ↔ x < y := by rw [Int64.lt_iff_toInt_lt, zz_t64 hx, zz_t64 hy]
  have h3 : Int64.ofInt y < Int64.ofInt x ↔ y < x := by rw [Int64.lt_iff_toInt_lt, zz_t64 hx, zz_t64 hy]
  have h2 : Int64.ofInt x = Int64.ofInt y ↔ x = y := by rw [← Int64.toInt_inj, zz_t64 hx, zz_t64 hy]
  unfold lg_cmp
  rcases Int.lt_trichotomy x y with h | h | h
  · refine ⟨-1, ?_, Or.inl ⟨h, rfl⟩⟩
    have q3 : ¬ Int64.ofInt y < Int64.ofInt x := fun z => by have := h3.mp z; omega
    have q1 := h1.mpr h
    have q2 : ¬ Int64.ofInt x = Int64.ofInt y := fun z => by have := h2.mp z; omega
    simp [q1, q2, q3]
  · refine ⟨0, ?_, Or.inr (Or.inl ⟨h, rfl⟩)⟩
    subst h
    simp
  · refine ⟨1, ?_, Or.inr (Or.inr ⟨h, rfl⟩)⟩
    have q3 := h3.mpr h
    have q1 : ¬ Int64.ofInt x < Int64.ofInt y := fun z => by have := h1.mp z; omega
    have q2 : ¬ Int64.ofInt x = Int64.ofInt y := fun z => by have := h2.mp z; omega
    simp [q1, q2, q3]
theorem zz_lcmp {x y : Int} (hx : -9223372036854775808 ≤ x ∧ x ≤ 9223372036854775807) (hy : -9223372036854775808 ≤ y ∧ y ≤ 9223372036854775807) (hd : zz_D Y pc .lcmp 1 pc1) (kk : ∀ v : Int, ((x < y ∧ v = -1) ∨ (x = y ∧ v = 0) ∨ (y < x ∧ v = 1)) → zz_E g l Y rm Q S n pc1 ls (zi v :: st) k j) : zz_E g l Y rm Q S n pc ls (zl y :: zl x :: st) k j := by
  refine mm_lcmp hd.1 (zz_rw hd.2 ?_)
  obtain ⟨v, h1, h2⟩ := zz_cmp hx hy
  rw [h1]
  exact kk v h2
theorem zz_icmp_eq {x y : Int} {tgt : Nat} (hx : -2147483648 ≤ x ∧ x ≤ 2147483647) (hy : -2147483648 ≤ y ∧ y ≤ 2147483647) (hd : zz_B Y pc (Instr.if_icmp .eq) tgt pc1) (kt : x = y → zz_E g l Y rm Q S n tgt ls st k j) (kf : x ≠ y → zz_E g l Y rm Q S n pc1 ls st k j) : zz_E g l Y rm Q S n pc ls (zi y :: zi x :: st) k j := by
  obtain ⟨off, hd, ht, he⟩ := hd
  exact mm_icmp_eq hd ht (fun h => kt ((zz_eq32 hx hy).mp h)) (fun h => (zz_rw he (kf (fun q => h ((zz_eq32 hx hy).mpr q)))))
theorem zz_if_eq {x : Int} {tgt : Nat} (hx : -2147483648 ≤ x ∧ x ≤ 2147483647) (hd : zz_B Y pc (Instr.ifCond .eq) tgt pc1) (kt : x = 0 → zz_E g l Y rm Q S n tgt ls st k j) (kf : x ≠ 0 → zz_E g l Y rm Q S n pc1 ls st k j) : zz_E g l Y rm Q S n pc ls (zi x :: st) k j := by
  obtain ⟨off, hd, ht, he⟩ := hd
  have hy : -2147483648 ≤ (0 : Int) ∧ (0 : Int) ≤ 2147483647 := by omega
  have e0 : (0 : Int32) = Int32.ofInt 0 := rfl
  exact mm_if_eq hd ht (fun h => kt ((zz_eq32 hx hy).mp h)) (fun h => (zz_rw he (kf (fun q => h ((zz_eq32 hx hy).mpr q)))))
theorem zz_icmp_ne {x y : Int} {tgt : Nat} (hx : -2147483648 ≤ x ∧ x ≤ 2147483647) (hy : -2147483648 ≤ y ∧ y ≤ 2147483647) (hd : zz_B Y pc (Instr.if_icmp .ne) tgt pc1) (kt : x ≠ y → zz_E g l Y rm Q S n tgt ls st k j) (kf : x = y → zz_E g l Y rm Q S n pc1 ls st k j) : zz_E g l Y rm Q S n pc ls (zi y :: zi x :: st) k j := by
  obtain ⟨off, hd, ht, he⟩ := hd
  exact mm_icmp_ne hd ht (fun h => kt (fun q => h ((zz_eq32 hx hy).mpr q))) (fun h => (zz_rw he (kf ((zz_eq32 hx hy).mp h))))
theorem zz_if_ne {x : Int} {tgt : Nat} (hx : -2147483648 ≤ x ∧ x ≤ 2147483647) (hd : zz_B Y pc (Instr.ifCond .ne) tgt pc1) (kt : x ≠ 0 → zz_E g l Y rm Q S n tgt ls st k j) (kf : x = 0 → zz_E g l Y rm Q S n pc1 ls st k j) : zz_E g l Y rm Q S n pc ls (zi x :: st) k j := by
  obtain ⟨off, hd, ht, he⟩ := hd
  have hy : -2147483648 ≤ (0 : Int) ∧ (0 : Int) ≤ 2147483647 := by omega
  have e0 : (0 : Int32) = Int32.ofInt 0 := rfl
  exact mm_if_ne hd ht (fun h => kt (fun q => h ((zz_eq32 hx hy).mpr q))) (fun h => (zz_rw he (kf ((zz_eq32 hx hy).mp h))))
theorem zz_icmp_lt {x y : Int} {tgt : Nat} (hx : -2147483648 ≤ x ∧ x ≤ 2147483647) (hy : -2147483648 ≤ y ∧ y ≤ 2147483647) (hd : zz_B Y pc (Instr.if_icmp .lt) tgt pc1) (kt : x < y → zz_E g l Y rm Q S n tgt ls st k j) (kf : y ≤ x → zz_E g l Y rm Q S n pc1 ls st k j) : zz_E g l Y rm Q S n pc ls (zi y :: zi x :: st) k j := by
  obtain ⟨off, hd, ht, he⟩ := hd
  exact mm_icmp_lt hd ht (fun h => kt ((zz_lt32 hx hy).mp h)) (fun h => (zz_rw he (kf (by have := mt (zz_lt32 hx hy).mpr h; omega))))
theorem zz_if_lt {x : Int} {tgt : Nat} (hx : -2147483648 ≤ x ∧ x ≤ 2147483647) (hd : zz_B Y pc (Instr.ifCond .lt) tgt pc1) (kt : x < 0 → zz_E g l Y rm Q S n tgt ls st k j) (kf : 0 ≤ x → zz_E g l Y rm Q S n pc1 ls st k j) : zz_E g l Y rm Q S n pc ls (zi x :: st) k j := by
  obtain ⟨off, hd, ht, he⟩ := hd
  have hy : -2147483648 ≤ (0 : Int) ∧ (0 : Int) ≤ 2147483647 := by omega
  have e0 : (0 : Int32) = Int32.ofInt 0 := rfl
  exact mm_if_lt hd ht (fun h => kt ((zz_lt32 hx hy).mp h)) (fun h => (zz_rw he (kf (by have := mt (zz_lt32 hx hy).mpr h; omega))))
theorem zz_icmp_ge {x y : Int} {tgt : Nat} (hx : -2147483648 ≤ x ∧ x ≤ 2147483647) (hy : -2147483648 ≤ y ∧ y ≤ 2147483647) (hd : zz_B Y pc (Instr.if_icmp .ge) tgt pc1) (kt : y ≤ x → zz_E g l Y rm Q S n tgt ls st k j) (kf : x < y → zz_E g l Y rm Q S n pc1 ls st k j) : zz_E g l Y rm Q S n pc ls (zi y :: zi x :: st) k j := by
  obtain ⟨off, hd, ht, he⟩ := hd
  exact mm_icmp_ge hd ht (fun h => kt ((zz_le32 hy hx).mp h)) (fun h => (zz_rw he (kf (by have := mt (zz_le32 hy hx).mpr h; omega))))
theorem zz_if_ge {x : Int} {tgt : Nat} (hx : -2147483648 ≤ x ∧ x ≤ 2147483647) (hd : zz_B Y pc (Instr.ifCond .ge) tgt pc1) (kt : 0 ≤ x → zz_E g l Y rm Q S n tgt ls st k j) (kf : x < 0 → zz_E g l Y rm Q S n pc1 ls st k j) : zz_E g l Y rm Q S n pc ls (zi x :: st) k j := by
  obtain ⟨off, hd, ht, he⟩ := hd
  have hy : -2147483648 ≤ (0 : Int) ∧ (0 : Int) ≤ 2147483647 := by omega
  have e0 : (0 : Int32) = Int32.ofInt 0 := rfl
  exact mm_if_ge hd ht (fun h => kt ((zz_le32 hy hx).mp h)) (fun h => (zz_rw he (kf (by have := mt (zz_le32 hy hx).mpr h; omega))))
theorem zz_icmp_gt {x y : Int} {tgt : Nat} (hx : -2147483648 ≤ x ∧ x ≤ 2147483647) (hy : -2147483648 ≤ y ∧ y ≤ 2147483647) (hd : zz_B Y pc (Instr.if_icmp .gt) tgt pc1) (kt : y < x → zz_E g l Y rm Q S n tgt ls st k j) (kf : x ≤ y → zz_E g l Y rm Q S n pc1 ls st k j) : zz_E g l Y rm Q S n pc ls (zi y :: zi x :: st) k j := by
  obtain ⟨off, hd, ht, he⟩ := hd
  exact mm_icmp_gt hd ht (fun h => kt ((zz_lt32 hy hx).mp h)) (fun h => (zz_rw he (kf (by have := mt (zz_lt32 hy hx).mpr h; omega))))
theorem zz_if_gt {x : Int} {tgt : Nat} (hx : -2147483648 ≤ x ∧ x ≤ 2147483647) (hd : zz_B Y pc (Instr.ifCond .gt) tgt pc1) (kt : 0 < x → zz_E g l Y rm Q S n tgt ls st k j) (kf : x ≤ 0 → zz_E g l Y rm Q S n pc1 ls st k j) : zz_E g l Y rm Q S n pc ls (zi x :: st) k j := by
  obtain ⟨off, hd, ht, he⟩ := hd
  have hy : -2147483648 ≤ (0 : Int) ∧ (0 : Int) ≤ 2147483647 := by omega
  have e0 : (0 : Int32) = Int32.ofInt 0 := rfl
  exact mm_if_gt hd ht (fun h => kt ((zz_lt32 hy hx).mp h)) (fun h => (zz_rw he (kf (by have := mt (zz_lt32 hy hx).mpr h; omega))))
theorem zz_icmp_le {x y : Int} {tgt : Nat} (hx : -2147483648 ≤ x ∧ x ≤ 2147483647) (hy : -2147483648 ≤ y ∧ y ≤ 2147483647) (hd : zz_B Y pc (Instr.if_icmp .le) tgt pc1) (kt : x ≤ y → zz_E g l Y rm Q S n tgt ls st k j) (kf : y < x → zz_E g l Y rm Q S n pc1 ls st k j) : zz_E g l Y rm Q S n pc ls (zi y :: zi x :: st) k j := by
  obtain ⟨off, hd, ht, he⟩ := hd
  exact mm_icmp_le hd ht (fun h => kt ((zz_le32 hx hy).mp h)) (fun h => (zz_rw he (kf (by have := mt (zz_le32 hx hy).mpr h; omega))))
theorem zz_if_le {x : Int} {tgt : Nat} (hx : -2147483648 ≤ x ∧ x ≤ 2147483647) (hd : zz_B Y pc (Instr.ifCond .le) tgt pc1) (kt : x ≤ 0 → zz_E g l Y rm Q S n tgt ls st k j) (kf : 0 < x → zz_E g l Y rm Q S n pc1 ls st k j) : zz_E g l Y rm Q S n pc ls (zi x :: st) k j := by
  obtain ⟨off, hd, ht, he⟩ := hd
  have hy : -2147483648 ≤ (0 : Int) ∧ (0 : Int) ≤ 2147483647 := by omega
  have e0 : (0 : Int32) = Int32.ofInt 0 := rfl
  exact mm_if_le hd ht (fun h => kt ((zz_le32 hx hy).mp h)) (fun h => (zz_rw he (kf (by have := mt (zz_le32 hx hy).mpr h; omega))))
theorem zz_goto {tgt : Nat} (hd : zz_B Y pc Instr.goto tgt pc1) (kk : zz_E g l Y rm Q S n tgt ls st k j) : zz_E g l Y rm Q S n pc ls st k j := by
  obtain ⟨off, hd, ht, he⟩ := hd
  exact mm_goto hd ht kk
def zz_W (Y : mm_Y) (pc : Nat) (dflt lo hi : Int) (offs : Array Int) : Prop := ∃ len, decode Y.2.1 pc = .ok (.tableswitch dflt lo hi offs, len)
theorem zz_swIn {dflt lo hi : Int} {offs : Array Int} {tgt : Nat} {x : Int} (c off : Int) (hx : x = c) (hc : -2147483648 ≤ c ∧ c ≤ 2147483647 ∧ lo ≤ c ∧ c ≤ hi) (hd : zz_W Y pc dflt lo hi offs) (ho : offs[(c - lo).toNat]? = some off) (ht : (pc : Int) + off = (tgt : Int)) (kk : zz_E g l Y rm Q S n tgt ls st k j) : zz_E g l Y rm Q S n pc ls (zi x :: st) k j := by
  subst hx
  obtain ⟨len, hd⟩ := hd
  have e := zz_t32 (z := x) (by omega)
  exact mm_tableIn hd (by rw [e]; omega) (by rw [e]; omega) (by rw [e]; exact ho) ht kk
theorem zz_swOut {dflt lo hi : Int} {offs : Array Int} {tgt : Nat} {x : Int} (hx : -2147483648 ≤ x ∧ x ≤ 2147483647) (ho : x < lo ∨ hi < x) (hd : zz_W Y pc dflt lo hi offs) (ht : (pc : Int) + dflt = (tgt : Int)) (kk : zz_E g l Y rm Q S n tgt ls st k j) : zz_E g l Y rm Q S n pc ls (zi x :: st) k j := by
  obtain ⟨len, hd⟩ := hd
  exact mm_tableOut hd (by rw [zz_t32 hx]; exact ho) ht kk
theorem zz_lsw {dflt off : Int} {ps : Array (Int × Int)} {tgt : Nat} {x : Int} (hx : -2147483648 ≤ x ∧ x ≤ 2147483647) (hd : ∃ len, decode Y.2.1 pc = .ok (.lookupswitch dflt ps, len)) (hp : (ps.toList.zip (ps.toList.drop 1)).all (fun (a, next) => a.1 < next.1) = true) (ho : Op.lookupswitch.offset ps.toList dflt x = off) (ht : (pc : Int) + off = (tgt : Int)) (kk : zz_E g l Y rm Q S n tgt ls st k j) : zz_E g l Y rm Q S n pc ls (zi x :: st) k j := by
  obtain ⟨len, hd⟩ := hd
  exact mm_lookup hd hp (by rw [zz_t32 hx]; exact ho) ht kk
theorem zz_iret {v : Int} (hd : zz_D Y pc .ireturn 1 pc1) (hr : Y.2.2.2 = some .int) (hk : k ≤ rm.cells) (hj : j ≤ rm.slots) (hQ : Q (.inl (some (zi v)), zz_M S n, n)) : zz_E g l Y rm Q S n pc ls [zi v] k j := mm_iret hd.1 hr hk hj hQ
theorem zz_zret {v : Int} (hd : zz_D Y pc .ireturn 1 pc1) (hr : Y.2.2.2 = some .boolean) (hv : 0 ≤ v ∧ v ≤ 1) (hk : k ≤ rm.cells) (hj : j ≤ rm.slots) (hQ : Q (.inl (some (zi v)), zz_M S n, n)) : zz_E g l Y rm Q S n pc ls [zi v] k j := by
  refine mm_zret hd.1 hr ?_ hk hj hQ
  have : v = 0 ∨ v = 1 := by omega
  rcases this with rfl | rfl <;> decide
theorem zz_bret {v : Int} (hd : zz_D Y pc .ireturn 1 pc1) (hr : Y.2.2.2 = some .byte) (hv : -128 ≤ v ∧ v ≤ 127) (hk : k ≤ rm.cells) (hj : j ≤ rm.slots) (hQ : Q (.inl (some (zi v)), zz_M S n, n)) : zz_E g l Y rm Q S n pc ls [zi v] k j := by
  refine mm_zret hd.1 hr ?_ hk hj hQ
  have h : narrow .byte (.int (Int32.ofInt v)) = .int ((Int32.ofInt v).toInt8.toInt32) := rfl
  rw [h]
  congr 1
  apply Int32.toInt_inj.mp
  rw [Int8.toInt_toInt32, Int32.toInt_toInt8, zz_t32 (by omega)]
  exact Int.bmod_eq_of_le (by omega) (by omega)
theorem zz_lret {v : Int} (hd : zz_D Y pc .lreturn 1 pc1) (hr : Y.2.2.2 = some .long) (hk : k ≤ rm.cells) (hj : j ≤ rm.slots) (hQ : Q (.inl (some (zl v)), zz_M S n, n)) : zz_E g l Y rm Q S n pc ls [zl v] k j := mm_lret hd.1 hr hk hj hQ
theorem zz_vret (hd : zz_D Y pc .return_ 1 pc1) (hr : Y.2.2.2 = none) (hk : k ≤ rm.cells) (hj : j ≤ rm.slots) (hQ : Q (.inl none, zz_M S n, n)) : zz_E g l Y rm Q S n pc ls [] k j := mm_vret hd.1 hr hk hj hQ
theorem zz_aret {a : Nat} {C : String} (hd : zz_D Y pc .areturn 1 pc1) (hr : Y.2.2.2 = some (.object C)) (hk : k ≤ rm.cells) (hj : j ≤ rm.slots) (hQ : Q (.inl (some (.ref a)), zz_M S n, n)) : zz_E g l Y rm Q S n pc ls [.ref a] k j := mm_aret hd.1 hr hk hj hQ
theorem zz_geti {a kf index ci : Nat} {ks : List Nat} {ty : FieldType} {fin : Bool} {z : Int} (hd : zz_D Y pc (.getfield index) 3 pc1) (hF : mm_Fl Y.1.cls index ci kf ty fin) (hT : zz_T a = some (.inl (ci, ks))) (hk : ks[kf]? = some 0) (hn : a < n) (hz : S a kf = z) (kk : zz_E g l Y rm Q S n pc1 ls (zi z :: st) k j) : zz_E g l Y rm Q S n pc ls (.ref a :: st) k j := by
  subst hz
  exact mm_get hd.1 hF (zz_M_at hn hT) (zz_fs_at hk) (zz_rw hd.2 kk)
theorem zz_getl {a kf index ci : Nat} {ks : List Nat} {ty : FieldType} {fin : Bool} {z : Int} (hd : zz_D Y pc (.getfield index) 3 pc1) (hF : mm_Fl Y.1.cls index ci kf ty fin) (hT : zz_T a = some (.inl (ci, ks))) (hk : ks[kf]? = some 1) (hn : a < n) (hz : S a kf = z) (kk : zz_E g l Y rm Q S n pc1 ls (zl z :: st) k j) : zz_E g l Y rm Q S n pc ls (.ref a :: st) k j := by
  subst hz
  exact mm_get hd.1 hF (zz_M_at hn hT) (zz_fs_at hk) (zz_rw hd.2 kk)
theorem zz_getr {a kf index ci kd : Nat} {ks : List Nat} {ty : FieldType} {fin : Bool} {z : Int} (hd : zz_D Y pc (.getfield index) 3 pc1) (hF : mm_Fl Y.1.cls index ci kf ty fin) (hT : zz_T a = some (.inl (ci, ks))) (hk : ks[kf]? = some (kd + 2)) (hn : a < n) (hz : S a kf = z) (h0 : 0 ≤ z) (x : Nat) (hx : zz_rf (kd + 2) z = x) (kk : zz_E g l Y rm Q S n pc1 ls (.ref x :: st) k j) : zz_E g l Y rm Q S n pc ls (.ref a :: st) k j := by
  subst hz
  subst hx
  refine mm_get hd.1 hF (zz_M_at hn hT) (v := .ref (zz_rf (kd + 2) (S a kf))) ?_ (zz_rw hd.2 kk)
  rw [zz_fs_at hk]
  simp only [zz_fv, if_neg (Int.not_lt.mpr h0)]
theorem zz_puti {a kf index ci : Nat} {ks : List Nat} {z : Int} (hd : zz_D Y pc (.putfield index) 3 pc1) (hF : mm_Fl Y.1.cls index ci kf .int false) (hT : zz_T a = some (.inl (ci, ks))) (hk : ks[kf]? = some 0) (hn : a < n) (kk : ∀ S1 : zz_S, S1 = zz_st S a kf z → zz_E g l Y rm Q S1 n pc1 ls st k j) : zz_E g l Y rm Q S n pc ls (zi z :: .ref a :: st) k j := by
  refine mm_put hd.1 hF (zz_M_at hn hT) (by rw [zz_fs_len]; exact (List.getElem?_eq_some_iff.mp hk).1) rfl rfl (fun M1 e => zz_rw hd.2 ?_)
  have h := kk _ rfl
  unfold zz_E at h
  rw [zz_M_st hn hT] at h
  rw [e]
  simp only [zz_en, zz_fs_set hk, zz_fv] at h
  exact h
theorem zz_putz {a kf index ci : Nat} {ks : List Nat} {z : Int} (hd : zz_D Y pc (.putfield index) 3 pc1) (hF : mm_Fl Y.1.cls index ci kf .boolean false) (hT : zz_T a = some (.inl (ci, ks))) (hk : ks[kf]? = some 0) (hn : a < n) (hv : 0 ≤ z ∧ z ≤ 1) (kk : ∀ S1 : zz_S, S1 = zz_st S a kf z → zz_E g l Y rm Q S1 n pc1 ls st k j) : zz_E g l Y rm Q S n pc ls (zi z :: .ref a :: st) k j := by
  have hN : narrow .boolean (mm_tr g (zi z)) = mm_tr g (zi z) := by
    have : z = 0 ∨ z = 1 := by omega
    rcases this with rfl | rfl <;> rfl
  have hT9 : fits .boolean (mm_tr g (zi z)) = true := by
    have : z = 0 ∨ z = 1 := by omega
    rcases this with rfl | rfl <;> rfl
  refine mm_put hd.1 hF (zz_M_at hn hT) (by rw [zz_fs_len]; exact (List.getElem?_eq_some_iff.mp hk).1) hN hT9 (fun M1 e => zz_rw hd.2 ?_)
  have h := kk _ rfl
  unfold zz_E at h
  rw [zz_M_st hn hT] at h
  rw [e]
  simp only [zz_en, zz_fs_set hk, zz_fv] at h
  exact h
theorem zz_putl {a kf index ci : Nat} {ks : List Nat} {z : Int} (hd : zz_D Y pc (.putfield index) 3 pc1) (hF : mm_Fl Y.1.cls index ci kf .long false) (hT : zz_T a = some (.inl (ci, ks))) (hk : ks[kf]? = some 1) (hn : a < n) (kk : ∀ S1 : zz_S, S1 = zz_st S a kf z → zz_E g l Y rm Q S1 n pc1 ls st k j) : zz_E g l Y rm Q S n pc ls (zl z :: .ref a :: st) k j := by
  refine mm_put hd.1 hF (zz_M_at hn hT) (by rw [zz_fs_len]; exact (List.getElem?_eq_some_iff.mp hk).1) rfl rfl (fun M1 e => zz_rw hd.2 ?_)
  have h := kk _ rfl
  unfold zz_E at h
  rw [zz_M_st hn hT] at h
  rw [e]
  simp only [zz_en, zz_fs_set hk, zz_fv] at h
  exact h
theorem zz_putr {a kf index ci kd x : Nat} {ks : List Nat} {ty : FieldType} (z : Int) (hd : zz_D Y pc (.putfield index) 3 pc1) (hF : mm_Fl Y.1.cls index ci kf ty false) (hT : zz_T a = some (.inl (ci, ks))) (hk : ks[kf]? = some (kd + 2)) (hn : a < n) (h0 : 0 ≤ z) (hx : zz_rf (kd + 2) z = x) (hna : ∀ v, narrow ty (.ref v) = .ref v) (hfi : ∀ v, fits ty (.ref v) = true) (kk : ∀ S1 : zz_S, S1 = zz_st S a kf z → zz_E g l Y rm Q S1 n pc1 ls st k j) : zz_E g l Y rm Q S n pc ls (.ref x :: .ref a :: st) k j := by
  refine mm_put hd.1 hF (zz_M_at hn hT) (by rw [zz_fs_len]; exact (List.getElem?_eq_some_iff.mp hk).1) (hna _) (hfi _) (fun M1 e => zz_rw hd.2 ?_)
  have h := kk _ rfl
  unfold zz_E at h
  rw [zz_M_st hn hT] at h
  rw [e]
  simp only [zz_en, zz_fs_set hk, zz_fv, if_neg (Int.not_lt.mpr h0), hx] at h
  exact h
theorem zz_in {i : Int} {N : Nat} (h : 0 ≤ i ∧ i < N) (hN : N ≤ 2147483647) : vp_in (Int32.ofInt i) N := by
  rw [vp_in_iff, zz_t32 (by omega)]
  exact h
theorem zz_nc {i : Int} {N : Nat} (h : 0 ≤ i ∧ i < N) (hN : N ≤ 2147483647) : (Int32.ofInt i).toNatClampNeg = i.toNat := by
  rw [← Int32.toNat_toInt, zz_t32 (by omega)]
theorem zz_updI {S : zz_S} {a i : Nat} {z : Int} : upd (fun q => Int32.ofInt (S a q)) i (Int32.ofInt z) = fun q => Int32.ofInt (zz_st S a i z a q) := by
  funext q
  simp only [upd, zz_st]
  by_cases h : q = i
  · simp [h]
  · simp [h]
theorem zz_updL {S : zz_S} {a i : Nat} {z : Int} : vp_updL (fun q => Int64.ofInt (S a q)) i (Int64.ofInt z) = fun q => Int64.ofInt (zz_st S a i z a q) := by
  funext q
  simp only [vp_updL, zz_st]
  by_cases h : q = i
  · simp [h]
  · simp [h]
theorem zz_iald {a t N : Nat} {i z : Int} (hd : zz_D Y pc .iaload 1 pc1) (hT : zz_T a = some (.inr (t, N, 0))) (ht : mm_ty[t]? = some .int) (hn : a < n) (hN : N ≤ 2147483647) (hi : 0 ≤ i ∧ i < N) (hz : S a i.toNat = z) (kk : zz_E g l Y rm Q S n pc1 ls (zi z :: st) k j) : zz_E g l Y rm Q S n pc ls (zi i :: .ref a :: st) k j := by
  subst hz
  refine mm_iald hd.1 (zz_M_at hn hT) ht (zz_in hi hN) (zz_rw hd.2 ?_)
  rw [zz_nc hi hN]
  exact kk
theorem zz_bald {a t N : Nat} {i z : Int} (hd : zz_D Y pc .baload 1 pc1) (hT : zz_T a = some (.inr (t, N, 0))) (ht : mm_ty[t]? = some .byte) (hn : a < n) (hN : N ≤ 2147483647) (hi : 0 ≤ i ∧ i < N) (hz : S a i.toNat = z) (kk : zz_E g l Y rm Q S n pc1 ls (zi z :: st) k j) : zz_E g l Y rm Q S n pc ls (zi i :: .ref a :: st) k j := by
  subst hz
  refine mm_bald hd.1 (zz_M_at hn hT) ht (zz_in hi hN) (zz_rw hd.2 ?_)
  rw [zz_nc hi hN]
  exact kk
theorem zz_zald {a t N : Nat} {i z : Int} (hd : zz_D Y pc .baload 1 pc1) (hT : zz_T a = some (.inr (t, N, 0))) (ht : mm_ty[t]? = some .boolean) (hn : a < n) (hN : N ≤ 2147483647) (hi : 0 ≤ i ∧ i < N) (hz : S a i.toNat = z) (kk : zz_E g l Y rm Q S n pc1 ls (zi z :: st) k j) : zz_E g l Y rm Q S n pc ls (zi i :: .ref a :: st) k j := by
  subst hz
  refine mm_zald hd.1 (zz_M_at hn hT) ht (zz_in hi hN) (zz_rw hd.2 ?_)
  rw [zz_nc hi hN]
  exact kk
theorem zz_cald {a t N : Nat} {i z : Int} (hd : zz_D Y pc .caload 1 pc1) (hT : zz_T a = some (.inr (t, N, 0))) (ht : mm_ty[t]? = some .char) (hn : a < n) (hN : N ≤ 2147483647) (hi : 0 ≤ i ∧ i < N) (hz : S a i.toNat = z) (kk : zz_E g l Y rm Q S n pc1 ls (zi z :: st) k j) : zz_E g l Y rm Q S n pc ls (zi i :: .ref a :: st) k j := by
  subst hz
  refine mm_cald hd.1 (zz_M_at hn hT) ht (zz_in hi hN) (zz_rw hd.2 ?_)
  rw [zz_nc hi hN]
  exact kk
theorem zz_lald {a t N : Nat} {i z : Int} (hd : zz_D Y pc .laload 1 pc1) (hT : zz_T a = some (.inr (t, N, 1))) (ht : mm_ty[t]? = some .long) (hn : a < n) (hN : N ≤ 2147483647) (hi : 0 ≤ i ∧ i < N) (hz : S a i.toNat = z) (kk : zz_E g l Y rm Q S n pc1 ls (zl z :: st) k j) : zz_E g l Y rm Q S n pc ls (zi i :: .ref a :: st) k j := by
  subst hz
  refine mm_lald hd.1 (zz_M_at hn hT) ht (zz_in hi hN) (zz_rw hd.2 ?_)
  rw [zz_nc hi hN]
  exact kk
theorem zz_aald {a t N kd : Nat} {C : String} {i z : Int} (hd : zz_D Y pc .aaload 1 pc1) (hT : zz_T a = some (.inr (t, N, kd + 2))) (ht : mm_ty[t]? = some (.object C)) (hn : a < n) (hN : N ≤ 2147483647) (hi : 0 ≤ i ∧ i < N) (hz : S a i.toNat = z) (h0 : 0 ≤ z) (x : Nat) (hx : zz_rf (kd + 2) z = x) (kk : zz_E g l Y rm Q S n pc1 ls (.ref x :: st) k j) : zz_E g l Y rm Q S n pc ls (zi i :: .ref a :: st) k j := by
  subst hz
  subst hx
  refine mm_aald hd.1 (zz_M_at hn hT) ht (zz_in hi hN) (x := zz_rf (kd + 2) (S a i.toNat)) ?_ (zz_rw hd.2 kk)
  rw [zz_nc hi hN, if_neg (Int.not_lt.mpr h0)]
theorem zz_alen {a t N kd : Nat} {ty : FieldType} (hd : zz_D Y pc .arraylength 1 pc1) (hT : zz_T a = some (.inr (t, N, kd))) (ht : mm_ty[t]? = some ty) (hn : a < n) (kk : zz_E g l Y rm Q S n pc1 ls (zi (N : Int) :: st) k j) : zz_E g l Y rm Q S n pc ls (.ref a :: st) k j := by
  refine mm_alen hd.1 (x := zz_av N kd (S a)) (zz_M_at hn hT) ht (v := Int32.ofInt (N : Int)) ?_ (zz_rw hd.2 kk)
  have : (zz_av N kd (S a)).1 = N := by
    match kd with
    | 0 => rfl
    | 1 => rfl
    | kd + 2 => rfl
  rw [this, Int32.ofInt_eq_ofNat]
theorem zz_iast {a t N : Nat} {i z : Int} (hd : zz_D Y pc .iastore 1 pc1) (hT : zz_T a = some (.inr (t, N, 0))) (ht : mm_ty[t]? = some .int) (hn : a < n) (hN : N ≤ 2147483647) (hi : 0 ≤ i ∧ i < N) (kk : ∀ S1 : zz_S, S1 = zz_st S a i.toNat z → zz_E g l Y rm Q S1 n pc1 ls st k j) : zz_E g l Y rm Q S n pc ls (zi z :: zi i :: .ref a :: st) k j := by
  refine mm_iast hd.1 (zz_M_at hn hT) ht (zz_in hi hN) (fun M1 e => zz_rw hd.2 ?_)
  rw [zz_nc hi hN, zz_updI] at e
  have h := kk _ rfl
  unfold zz_E at h
  rw [zz_M_st hn hT] at h
  rw [e]
  exact h
theorem zz_nar_byte {z : Int} (hv : -128 ≤ z ∧ z ≤ 127) : vp_nar .byte (Int32.ofInt z) = Int32.ofInt z := by
  have h : vp_nar .byte (Int32.ofInt z) = (Int32.ofInt z).toInt8.toInt32 := rfl
  rw [h]
  apply Int32.toInt_inj.mp
  rw [Int8.toInt_toInt32, Int32.toInt_toInt8, zz_t32 (by omega)]
  exact Int.bmod_eq_of_le (by omega) (by omega)
theorem zz_bast {a t N : Nat} {i z : Int} (hd : zz_D Y pc .bastore 1 pc1) (hT : zz_T a = some (.inr (t, N, 0))) (ht : mm_ty[t]? = some .byte) (hn : a < n) (hN : N ≤ 2147483647) (hi : 0 ≤ i ∧ i < N) (hv : -128 ≤ z ∧ z ≤ 127) (kk : ∀ S1 : zz_S, S1 = zz_st S a i.toNat z → zz_E g l Y rm Q S1 n pc1 ls st k j) : zz_E g l Y rm Q S n pc ls (zi z :: zi i :: .ref a :: st) k j := by
  refine mm_bast hd.1 (zz_M_at hn hT) ht (zz_in hi hN) (fun M1 e => zz_rw hd.2 ?_)
  rw [zz_nar_byte hv] at e
  rw [zz_nc hi hN, zz_updI] at e
  have h := kk _ rfl
  unfold zz_E at h
  rw [zz_M_st hn hT] at h
  rw [e]
  exact h
theorem zz_nar_boolean {z : Int} (hv : 0 ≤ z ∧ z ≤ 1) : vp_nar .boolean (Int32.ofInt z) = Int32.ofInt z := by
  have : z = 0 ∨ z = 1 := by omega
  rcases this with rfl | rfl <;> decide
theorem zz_zast {a t N : Nat} {i z : Int} (hd : zz_D Y pc .bastore 1 pc1) (hT : zz_T a = some (.inr (t, N, 0))) (ht : mm_ty[t]? = some .boolean) (hn : a < n) (hN : N ≤ 2147483647) (hi : 0 ≤ i ∧ i < N) (hv : 0 ≤ z ∧ z ≤ 1) (kk : ∀ S1 : zz_S, S1 = zz_st S a i.toNat z → zz_E g l Y rm Q S1 n pc1 ls st k j) : zz_E g l Y rm Q S n pc ls (zi z :: zi i :: .ref a :: st) k j := by
  refine mm_zast hd.1 (zz_M_at hn hT) ht (zz_in hi hN) (fun M1 e => zz_rw hd.2 ?_)
  rw [zz_nar_boolean hv] at e
  rw [zz_nc hi hN, zz_updI] at e
  have h := kk _ rfl
  unfold zz_E at h
  rw [zz_M_st hn hT] at h
  rw [e]
  exact h
theorem zz_nar_char {z : Int} (hv : 0 ≤ z ∧ z ≤ 65535) : vp_nar .char (Int32.ofInt z) = Int32.ofInt z := by
  have h : vp_nar .char (Int32.ofInt z) = ((Int32.ofInt z).toUInt32 % 65536).toInt32 := rfl
  rw [h]
  obtain ⟨m, rfl⟩ := Int.eq_ofNat_of_zero_le hv.1
  have hm : m ≤ 65535 := by omega
  apply Int32.toBitVec_inj.mp
  apply BitVec.eq_of_toNat_eq
  simp only [UInt32.toBitVec_toInt32, UInt32.toBitVec_mod, Int32.toBitVec_toUInt32, Int32.toBitVec_ofInt, BitVec.toNat_umod, BitVec.toNat_ofInt]
  have : (65536 : UInt32).toBitVec.toNat = 65536 := by decide
  rw [this]
  omega
theorem zz_cast {a t N : Nat} {i z : Int} (hd : zz_D Y pc .castore 1 pc1) (hT : zz_T a = some (.inr (t, N, 0))) (ht : mm_ty[t]? = some .char) (hn : a < n) (hN : N ≤ 2147483647) (hi : 0 ≤ i ∧ i < N) (hv : 0 ≤ z ∧ z ≤ 65535) (kk : ∀ S1 : zz_S, S1 = zz_st S a i.toNat z → zz_E g l Y rm Q S1 n pc1 ls st k j) : zz_E g l Y rm Q S n pc ls (zi z :: zi i :: .ref a :: st) k j := by
  refine mm_cast hd.1 (zz_M_at hn hT) ht (zz_in hi hN) (fun M1 e => zz_rw hd.2 ?_)
  rw [zz_nar_char hv] at e
  rw [zz_nc hi hN, zz_updI] at e
  have h := kk _ rfl
  unfold zz_E at h
  rw [zz_M_st hn hT] at h
  rw [e]
  exact h
theorem zz_last {a t N : Nat} {i z : Int} (hd : zz_D Y pc .lastore 1 pc1) (hT : zz_T a = some (.inr (t, N, 1))) (ht : mm_ty[t]? = some .long) (hn : a < n) (hN : N ≤ 2147483647) (hi : 0 ≤ i ∧ i < N) (kk : ∀ S1 : zz_S, S1 = zz_st S a i.toNat z → zz_E g l Y rm Q S1 n pc1 ls st k j) : zz_E g l Y rm Q S n pc ls (zl z :: zi i :: .ref a :: st) k j := by
  refine mm_last hd.1 (zz_M_at hn hT) ht (zz_in hi hN) (fun M1 e => zz_rw hd.2 ?_)
  rw [zz_nc hi hN, zz_updL] at e
  have h := kk _ rfl
  unfold zz_E at h
  rw [zz_M_st hn hT] at h
  rw [e]
  exact h
theorem zz_gets {q0 index : Nat} {q : String × String × List Int32} (hd : zz_D Y pc (.getstatic index) 3 pc1) (hq : mm_sta[q0]? = some q) (h0 : q0 < 1000) (hl : Cond.fieldLink Y.1.cls index q.1 q.2.1 "[I" ∈ mm_tb) (kk : zz_E g l Y rm Q S n pc1 ls (.ref q0 :: st) k j) : zz_E g l Y rm Q S n pc ls st k j := mm_gets hd.1 hq h0 hl (zz_rw hd.2 kk)
theorem zz_tiald {q0 N : Nat} {q : String × String × List Int32} {i : Int} (z : Int) (hd : zz_D Y pc .iaload 1 pc1) (hq : mm_sta[q0]? = some q) (h0 : q0 < 1000) (hl : q.2.2.length = N) (hN : N ≤ 2147483647) (hi : 0 ≤ i ∧ i < N) (hz : q.2.2.getD i.toNat 0 = Int32.ofInt z) (kk : zz_E g l Y rm Q S n pc1 ls (zi z :: st) k j) : zz_E g l Y rm Q S n pc ls (zi i :: .ref q0 :: st) k j := by
  refine mm_tiald hd.1 hq h0 (by rw [hl]; exact zz_in hi hN) (zz_rw hd.2 ?_)
  rw [zz_nc hi hN, hz]
  exact kk
theorem zz_less {ls1 : List (Option Value)} (h : mm_sub ls1 ls) (kk : zz_E g l Y rm Q S n pc ls1 st k j) : zz_E g l Y rm Q S n pc ls st k j := mm_less h kk
theorem zz_enter {as : List Value} (hy : plainName Y.1.cls = true) (hfit : (lg_sl (as.map (mm_tr g))).length ≤ Y.2.2.1) (h : zz_E g l Y rm Q S n 0 (mm_ent as) [] 0 0) : mm_Met g l Y rm as (zz_M S n) n Q := mm_enter hy hfit h
end ZZ
/-- ends of methods -/
def zz_QI (n : Nat) (P : Int → zz_S → Prop) : mm_O → Prop := fun u => ∃ v S1, u = (.inl (some (zi v)), zz_M S1 n, n) ∧ P v S1
def zz_QJ (n : Nat) (P : Int → zz_S → Prop) : mm_O → Prop := fun u => ∃ v S1, u = (.inl (some (zl v)), zz_M S1 n, n) ∧ P v S1
def zz_QA (n : Nat) (P : Nat → zz_S → Prop) : mm_O → Prop := fun u => ∃ v S1, u = (.inl (some (.ref v)), zz_M S1 n, n) ∧ P v S1
def zz_QV (n : Nat) (P : zz_S → Prop) : mm_O → Prop := fun u => ∃ S1, u = (.inl none, zz_M S1 n, n) ∧ P S1
section ZC
variable {g : mm_G} {l : Launch} {Y : mm_Y} {rm : Room} {Q : mm_O → Prop} {pc pc1 : Nat} {ls : List (Option Value)} {st : List Value} {S : zz_S} {n k j : Nat}
theorem zz_callVI {Z : mm_Y} {rz : Room} {P : Int → zz_S → Prop} {a ci index np : Nat} {ks : List Nat} {stk : List Value} (as : List Value) (hd : zz_D Y pc (.invokevirtual index) 3 pc1) (hZ : mm_Vl Y.1.cls index ci np Z) (hT : zz_T a = some (.inl (ci, ks))) (hn : a < n) (hst : stk = as.reverse ++ .ref a :: st) (hlen : as.length = np) (hroom : rz.frames + 1 ≤ rm.frames ∧ (st.map fun v => v.category).sum + (Z.2.2.1 + 11) + rz.locals ≤ rm.locals) (hz : rz.cells = 0 ∧ rz.slots = 0) (hk : k ≤ rm.cells) (hj : j ≤ rm.slots) (hM : mm_Met g l Z rz (.ref a :: as) (zz_M S n) n (zz_QI n P)) (kr : ∀ (v : Int) (S1 : zz_S), P v S1 → zz_E g l Y rm Q S1 n pc1 ls (zi v :: st) k j) : zz_E g l Y rm Q S n pc ls stk k j := by
  subst hst
  refine mm_callV hd.1 hZ hM (zz_M_at hn hT) hlen hroom (by omega) (by omega) (fun v M1 n1 hQ => ?_) (fun i M1 n1 hQ => ?_)
  · obtain ⟨v1, S1, e, hP⟩ := hQ
    cases e
    rw [hz.1, hz.2]
    exact zz_rw hd.2 (kr v1 S1 hP)
  · obtain ⟨v1, S1, e, hP⟩ := hQ
    cases e
theorem zz_callSI {Z : mm_Y} {rz : Room} {P : Int → zz_S → Prop} {index np : Nat} {stk : List Value} (as : List Value) (hd : zz_D Y pc (.invokestatic index) 3 pc1) (hZ : mm_Sl Y.1.cls index np Z) (hst : stk = as.reverse ++ st) (hlen : as.length = np) (hroom : rz.frames + 1 ≤ rm.frames ∧ (st.map fun v => v.category).sum + (Z.2.2.1 + 11) + rz.locals ≤ rm.locals) (hz : rz.cells = 0 ∧ rz.slots = 0) (hk : k ≤ rm.cells) (hj : j ≤ rm.slots) (hM : mm_Met g l Z rz (as) (zz_M S n) n (zz_QI n P)) (kr : ∀ (v : Int) (S1 : zz_S), P v S1 → zz_E g l Y rm Q S1 n pc1 ls (zi v :: st) k j) : zz_E g l Y rm Q S n pc ls stk k j := by
  subst hst
  refine mm_callS hd.1 hZ hM hlen hroom (by omega) (by omega) (fun v M1 n1 hQ => ?_) (fun i M1 n1 hQ => ?_)
  · obtain ⟨v1, S1, e, hP⟩ := hQ
    cases e
    rw [hz.1, hz.2]
    exact zz_rw hd.2 (kr v1 S1 hP)
  · obtain ⟨v1, S1, e, hP⟩ := hQ
    cases e
theorem zz_callVJ {Z : mm_Y} {rz : Room} {P : Int → zz_S → Prop} {a ci index np : Nat} {ks : List Nat} {stk : List Value} (as : List Value) (hd : zz_D Y pc (.invokevirtual index) 3 pc1) (hZ : mm_Vl Y.1.cls index ci np Z) (hT : zz_T a = some (.inl (ci, ks))) (hn : a < n) (hst : stk = as.reverse ++ .ref a :: st) (hlen : as.length = np) (hroom : rz.frames + 1 ≤ rm.frames ∧ (st.map fun v => v.category).sum + (Z.2.2.1 + 11) + rz.locals ≤ rm.locals) (hz : rz.cells = 0 ∧ rz.slots = 0) (hk : k ≤ rm.cells) (hj : j ≤ rm.slots) (hM : mm_Met g l Z rz (.ref a :: as) (zz_M S n) n (zz_QJ n P)) (kr : ∀ (v : Int) (S1 : zz_S), P v S1 → zz_E g l Y rm Q S1 n pc1 ls (zl v :: st) k j) : zz_E g l Y rm Q S n pc ls stk k j := by
  subst hst
  refine mm_callV hd.1 hZ hM (zz_M_at hn hT) hlen hroom (by omega) (by omega) (fun v M1 n1 hQ => ?_) (fun i M1 n1 hQ => ?_)
  · obtain ⟨v1, S1, e, hP⟩ := hQ
    cases e
    rw [hz.1, hz.2]
    exact zz_rw hd.2 (kr v1 S1 hP)
  · obtain ⟨v1, S1, e, hP⟩ := hQ
    cases e
theorem zz_callSJ {Z : mm_Y} {rz : Room} {P : Int → zz_S → Prop} {index np : Nat} {stk : List Value} (as : List Value) (hd : zz_D Y pc (.invokestatic index) 3 pc1) (hZ : mm_Sl Y.1.cls index np Z) (hst : stk = as.reverse ++ st) (hlen : as.length = np) (hroom : rz.frames + 1 ≤ rm.frames ∧ (st.map fun v => v.category).sum + (Z.2.2.1 + 11) + rz.locals ≤ rm.locals) (hz : rz.cells = 0 ∧ rz.slots = 0) (hk : k ≤ rm.cells) (hj : j ≤ rm.slots) (hM : mm_Met g l Z rz (as) (zz_M S n) n (zz_QJ n P)) (kr : ∀ (v : Int) (S1 : zz_S), P v S1 → zz_E g l Y rm Q S1 n pc1 ls (zl v :: st) k j) : zz_E g l Y rm Q S n pc ls stk k j := by
  subst hst
  refine mm_callS hd.1 hZ hM hlen hroom (by omega) (by omega) (fun v M1 n1 hQ => ?_) (fun i M1 n1 hQ => ?_)
  · obtain ⟨v1, S1, e, hP⟩ := hQ
    cases e
    rw [hz.1, hz.2]
    exact zz_rw hd.2 (kr v1 S1 hP)
  · obtain ⟨v1, S1, e, hP⟩ := hQ
    cases e
theorem zz_callVA {Z : mm_Y} {rz : Room} {P : Nat → zz_S → Prop} {a ci index np : Nat} {ks : List Nat} {stk : List Value} (as : List Value) (hd : zz_D Y pc (.invokevirtual index) 3 pc1) (hZ : mm_Vl Y.1.cls index ci np Z) (hT : zz_T a = some (.inl (ci, ks))) (hn : a < n) (hst : stk = as.reverse ++ .ref a :: st) (hlen : as.length = np) (hroom : rz.frames + 1 ≤ rm.frames ∧ (st.map fun v => v.category).sum + (Z.2.2.1 + 11) + rz.locals ≤ rm.locals) (hz : rz.cells = 0 ∧ rz.slots = 0) (hk : k ≤ rm.cells) (hj : j ≤ rm.slots) (hM : mm_Met g l Z rz (.ref a :: as) (zz_M S n) n (zz_QA n P)) (kr : ∀ (v : Nat) (S1 : zz_S), P v S1 → zz_E g l Y rm Q S1 n pc1 ls (.ref v :: st) k j) : zz_E g l Y rm Q S n pc ls stk k j := by
  subst hst
  refine mm_callV hd.1 hZ hM (zz_M_at hn hT) hlen hroom (by omega) (by omega) (fun v M1 n1 hQ => ?_) (fun i M1 n1 hQ => ?_)
  · obtain ⟨v1, S1, e, hP⟩ := hQ
    cases e
    rw [hz.1, hz.2]
    exact zz_rw hd.2 (kr v1 S1 hP)
  · obtain ⟨v1, S1, e, hP⟩ := hQ
    cases e
theorem zz_callSA {Z : mm_Y} {rz : Room} {P : Nat → zz_S → Prop} {index np : Nat} {stk : List Value} (as : List Value) (hd : zz_D Y pc (.invokestatic index) 3 pc1) (hZ : mm_Sl Y.1.cls index np Z) (hst : stk = as.reverse ++ st) (hlen : as.length = np) (hroom : rz.frames + 1 ≤ rm.frames ∧ (st.map fun v => v.category).sum + (Z.2.2.1 + 11) + rz.locals ≤ rm.locals) (hz : rz.cells = 0 ∧ rz.slots = 0) (hk : k ≤ rm.cells) (hj : j ≤ rm.slots) (hM : mm_Met g l Z rz (as) (zz_M S n) n (zz_QA n P)) (kr : ∀ (v : Nat) (S1 : zz_S), P v S1 → zz_E g l Y rm Q S1 n pc1 ls (.ref v :: st) k j) : zz_E g l Y rm Q S n pc ls stk k j := by
  subst hst
  refine mm_callS hd.1 hZ hM hlen hroom (by omega) (by omega) (fun v M1 n1 hQ => ?_) (fun i M1 n1 hQ => ?_)
  · obtain ⟨v1, S1, e, hP⟩ := hQ
    cases e
    rw [hz.1, hz.2]
    exact zz_rw hd.2 (kr v1 S1 hP)
  · obtain ⟨v1, S1, e, hP⟩ := hQ
    cases e
theorem zz_callVV {Z : mm_Y} {rz : Room} {P : zz_S → Prop} {a ci index np : Nat} {ks : List Nat} {stk : List Value} (as : List Value) (hd : zz_D Y pc (.invokevirtual index) 3 pc1) (hZ : mm_Vl Y.1.cls index ci np Z) (hT : zz_T a = some (.inl (ci, ks))) (hn : a < n) (hst : stk = as.reverse ++ .ref a :: st) (hlen : as.length = np) (hroom : rz.frames + 1 ≤ rm.frames ∧ (st.map fun v => v.category).sum + (Z.2.2.1 + 11) + rz.locals ≤ rm.locals) (hz : rz.cells = 0 ∧ rz.slots = 0) (hk : k ≤ rm.cells) (hj : j ≤ rm.slots) (hM : mm_Met g l Z rz (.ref a :: as) (zz_M S n) n (zz_QV n P)) (kr : ∀ (S1 : zz_S), P S1 → zz_E g l Y rm Q S1 n pc1 ls (st) k j) : zz_E g l Y rm Q S n pc ls stk k j := by
  subst hst
  refine mm_callV hd.1 hZ hM (zz_M_at hn hT) hlen hroom (by omega) (by omega) (fun v M1 n1 hQ => ?_) (fun i M1 n1 hQ => ?_)
  · obtain ⟨S1, e, hP⟩ := hQ
    cases e
    rw [hz.1, hz.2]
    exact zz_rw hd.2 (kr S1 hP)
  · obtain ⟨S1, e, hP⟩ := hQ
    cases e
theorem zz_callSV {Z : mm_Y} {rz : Room} {P : zz_S → Prop} {index np : Nat} {stk : List Value} (as : List Value) (hd : zz_D Y pc (.invokestatic index) 3 pc1) (hZ : mm_Sl Y.1.cls index np Z) (hst : stk = as.reverse ++ st) (hlen : as.length = np) (hroom : rz.frames + 1 ≤ rm.frames ∧ (st.map fun v => v.category).sum + (Z.2.2.1 + 11) + rz.locals ≤ rm.locals) (hz : rz.cells = 0 ∧ rz.slots = 0) (hk : k ≤ rm.cells) (hj : j ≤ rm.slots) (hM : mm_Met g l Z rz (as) (zz_M S n) n (zz_QV n P)) (kr : ∀ (S1 : zz_S), P S1 → zz_E g l Y rm Q S1 n pc1 ls (st) k j) : zz_E g l Y rm Q S n pc ls stk k j := by
  subst hst
  refine mm_callS hd.1 hZ hM hlen hroom (by omega) (by omega) (fun v M1 n1 hQ => ?_) (fun i M1 n1 hQ => ?_)
  · obtain ⟨S1, e, hP⟩ := hQ
    cases e
    rw [hz.1, hz.2]
    exact zz_rw hd.2 (kr S1 hP)
  · obtain ⟨S1, e, hP⟩ := hQ
    cases e
theorem zz_callCV {Z : mm_Y} {rz : Room} {P : zz_S → Prop} {a index np : Nat} {stk : List Value} (as : List Value) (hd : zz_D Y pc (.invokespecial index) 3 pc1) (hZ : mm_Il Y.1.cls index np Z) (hst : stk = as.reverse ++ .ref a :: st) (hlen : as.length = np) (hroom : rz.frames + 1 ≤ rm.frames ∧ (st.map fun v => v.category).sum + (Z.2.2.1 + 11) + rz.locals ≤ rm.locals) (hz : rz.cells = 0 ∧ rz.slots = 0) (hk : k ≤ rm.cells) (hj : j ≤ rm.slots) (hM : mm_Met g l Z rz (.ref a :: as) (zz_M S n) n (zz_QV n P)) (kr : ∀ (S1 : zz_S), P S1 → zz_E g l Y rm Q S1 n pc1 ls (st) k j) : zz_E g l Y rm Q S n pc ls stk k j := by
  subst hst
  refine mm_callI hd.1 hZ hM hlen hroom (by omega) (by omega) (fun v M1 n1 hQ => ?_) (fun i M1 n1 hQ => ?_)
  · obtain ⟨S1, e, hP⟩ := hQ
    cases e
    rw [hz.1, hz.2]
    exact zz_rw hd.2 (kr S1 hP)
  · obtain ⟨S1, e, hP⟩ := hQ
    cases e
end ZC
end
section
/-! Frames, cells by number, and helpers. By program (wip/zz/gen42.py). -/
def zz_fr (sl : List (Nat × Nat)) (cl : List Nat) (V : Nat → Nat → Prop) (S S1 : zz_S) : Prop := ∀ a i, sl.contains (a, i) = false → cl.contains a = false → ¬ V a i → S1 a i = S a i
theorem zz_fr.refl {sl : List (Nat × Nat)} {cl : List Nat} {V : Nat → Nat → Prop} {S : zz_S} : zz_fr sl cl V S S := fun _ _ _ _ _ => rfl
theorem zz_fr.puts {sl : List (Nat × Nat)} {cl : List Nat} {V : Nat → Nat → Prop} {S0 S S1 : zz_S} {a i : Nat} {z : Int} (h : zz_fr sl cl V S0 S) (e : S1 = zz_st S a i z) (hm : sl.contains (a, i) = true) : zz_fr sl cl V S0 S1 := by
  intro b j h1 h2 h3
  rw [e, zz_st_n (fun q => by rw [q.1, q.2, hm] at h1; cases h1)]
  exact h b j h1 h2 h3
theorem zz_fr.putc {sl : List (Nat × Nat)} {cl : List Nat} {V : Nat → Nat → Prop} {S0 S S1 : zz_S} {a i : Nat} {z : Int} (h : zz_fr sl cl V S0 S) (e : S1 = zz_st S a i z) (hm : cl.contains a = true) : zz_fr sl cl V S0 S1 := by
  intro b j h1 h2 h3
  rw [e, zz_st_n (fun q => by rw [q.1, hm] at h2; cases h2)]
  exact h b j h1 h2 h3
theorem zz_fr.putv {sl : List (Nat × Nat)} {cl : List Nat} {V : Nat → Nat → Prop} {S0 S S1 : zz_S} {a i : Nat} {z : Int} (h : zz_fr sl cl V S0 S) (e : S1 = zz_st S a i z) (hm : V a i) : zz_fr sl cl V S0 S1 := by
  intro b j h1 h2 h3
  rw [e, zz_st_n (fun q => h3 (by rw [q.1, q.2]; exact hm))]
  exact h b j h1 h2 h3
def zz_sb (sl' : List (Nat × Nat)) (cl' : List Nat) (sl : List (Nat × Nat)) (cl : List Nat) : Bool := sl'.all (fun p => sl.contains p || cl.contains p.1) && cl'.all (fun a => cl.contains a)
theorem zz_fr.trans {sl sl' : List (Nat × Nat)} {cl cl' : List Nat} {V V' : Nat → Nat → Prop} {S0 S S1 : zz_S} (h : zz_fr sl cl V S0 S) (h1 : zz_fr sl' cl' V' S S1) (hs : zz_sb sl' cl' sl cl = true) (hv : ∀ a i, V' a i → sl.contains (a, i) = true ∨ cl.contains a = true ∨ V a i) : zz_fr sl cl V S0 S1 := by
  simp only [zz_sb, Bool.and_eq_true, List.all_eq_true, Bool.or_eq_true] at hs
  intro a i q1 q2 q3
  refine (h1 a i ?_ ?_ ?_).trans (h a i q1 q2 q3)
  · cases e : sl'.contains (a, i) with
    | false => rfl
    | true =>
      have := hs.1 (a, i) (by simpa using e)
      rw [q1, q2] at this
      simp at this
  · cases e : cl'.contains a with
    | false => rfl
    | true =>
      have := hs.2 a (by simpa using e)
      rw [q2] at this
      cases this
  · intro z
    rcases hv a i z with w | w | w
    · rw [q1] at w; cases w
    · rw [q2] at w; cases w
    · exact q3 w
theorem zz_fr.eq {S S1 : zz_S} (h : zz_fr [] [] (fun _ _ => False) S S1) : S = S1 := by
  funext a i
  exact (h a i rfl rfl (fun h => h)).symm
theorem zz_nv {V : Nat → Nat → Prop} {sl : List (Nat × Nat)} {cl : List Nat} : ∀ a i, (fun (_ _ : Nat) => False) a i → sl.contains (a, i) = true ∨ cl.contains a = true ∨ V a i := fun _ _ h => h.elim
theorem zz_rs {S S1 : zz_S} {a i : Nat} {z : Int} (e : S1 = zz_st S a i z) : S1 a i = z := by rw [e, zz_st_s]
theorem zz_ro {S S1 : zz_S} {a i b j : Nat} {z v : Int} (e : S1 = zz_st S a i z) (h : ¬ (b = a ∧ j = i)) (hv : S b j = v) : S1 b j = v := by rw [e, zz_st_n h, hv]
theorem zz_rc {sl : List (Nat × Nat)} {cl : List Nat} {V : Nat → Nat → Prop} {S S1 : zz_S} {a i : Nat} {v : Int} (f : zz_fr sl cl V S S1) (h1 : sl.contains (a, i) = false) (h2 : cl.contains a = false) (h3 : ¬ V a i) (hv : S a i = v) : S1 a i = v := (f a i h1 h2 h3).trans hv
theorem zz_nc1 {sl : List (Nat × Nat)} {a i : Nat} (h : sl.all (fun p => !(p.1 == a)) = true) : sl.contains (a, i) = false := by
  cases e : sl.contains (a, i) with
  | false => rfl
  | true =>
    have := List.all_eq_true.mp h (a, i) (by simpa using e)
    simp at this
theorem zz_ltn {a n : Nat} (h : zz_end ≤ n) (e : Nat.blt a zz_end = true) : a < n := Nat.lt_of_lt_of_le (Nat.blt_eq.mp e) h
theorem zz_G.eq {S : zz_S} (h : zz_G S) (a i : Nat) (c : Int) (e : zz_rg a i = (c, c)) (ha : Nat.ble 1000 a = true) : S a i = c := by
  have := h.at a i c c e (Nat.le_of_ble_eq_true ha)
  omega
theorem zz_G.r {S : zz_S} (h : zz_G S) (a i : Nat) (lo hi : Int) (e : zz_rg a i = (lo, hi)) (ha : Nat.ble 1000 a = true) : lo ≤ S a i ∧ S a i ≤ hi := h.at a i lo hi e (Nat.le_of_ble_eq_true ha)
section ZH
variable {g : mm_G} {l : Launch} {Y : mm_Y} {rm : Room} {Q : mm_O → Prop} {pc pc1 : Nat} {ls : List (Option Value)} {st : List Value} {S : zz_S} {n k j : Nat}
theorem zz_nme {e : Int} (kk : ∀ w : Int, w = e → zz_E g l Y rm Q S n pc ls (zi w :: st) k j) : zz_E g l Y rm Q S n pc ls (zi e :: st) k j := kk e rfl
theorem zz_nmel {e : Int} (kk : ∀ w : Int, w = e → zz_E g l Y rm Q S n pc ls (zl w :: st) k j) : zz_E g l Y rm Q S n pc ls (zl e :: st) k j := kk e rfl
theorem zz_iincN {i : Nat} {c x : Int} (ls1 : Int → List (Option Value)) (hd : zz_D Y pc (.iinc i c) 3 pc1) (hg : mm_lg ls i = some (zi x)) (hl : ∀ v, mm_st1 ls i (zi v) = ls1 v) (kk : ∀ v : Int, (-2147483648 ≤ v ∧ v ≤ 2147483647) → (-2147483648 ≤ x + c ∧ x + c ≤ 2147483647 → v = x + c) → zz_E g l Y rm Q S n pc1 (ls1 v) st k j) : zz_E g l Y rm Q S n pc ls st k j := by
  have h := kk (Int32.ofInt (x + c)).toInt (zz_r32 _) (fun h => zz_t32 h)
  refine zz_iinc (ls1 (Int32.ofInt (x + c)).toInt) hd hg ?_ h
  rw [← hl]
  unfold zi
  rw [zz_bm32]
theorem zz_pc {pc2 : Nat} (e : pc = pc2) (kk : zz_E g l Y rm Q S n pc2 ls st k j) : zz_E g l Y rm Q S n pc ls st k j := e ▸ kk
theorem zz_mmax {index : Nat} {x y : Int} (hx : -2147483648 ≤ x ∧ x ≤ 2147483647) (hy : -2147483648 ≤ y ∧ y ≤ 2147483647) (hd : zz_D Y pc (.invokestatic index) 3 pc1) (hw : Cond.methodLink Y.1.cls index Lib.Math.max.name ∈ mm_tb ∧ Cond.static Lib.Math.max.name ∈ mm_tb ∧ Cond.initialized "java/lang/Math" ∈ mm_tb ∧ Cond.code Lib.Math.max.name Lib.Math.max.code 2 (some .int) ∈ mm_tb) (hroom : 1 ≤ rm.frames ∧ (st.map fun v => v.category).sum + 13 ≤ rm.locals) (hk : k ≤ rm.cells) (hj : j ≤ rm.slots) (kk : ∀ v : Int, ((x < y ∧ v = y) ∨ (y ≤ x ∧ v = x)) → zz_E g l Y rm Q S n pc1 ls (zi v :: st) k j) : zz_E g l Y rm Q S n pc ls (zi y :: zi x :: st) k j := by
  refine mm_mmax hd.1 hw hroom hk hj (zz_rw hd.2 ?_)
  by_cases h : x < y
  · rw [if_pos ((zz_lt32 hx hy).mpr h)]; exact kk y (Or.inl ⟨h, rfl⟩)
  · rw [if_neg (fun q => h ((zz_lt32 hx hy).mp q))]; exact kk x (Or.inr ⟨Int.not_lt.mp h, rfl⟩)
theorem zz_mmin {index : Nat} {x y : Int} (hx : -2147483648 ≤ x ∧ x ≤ 2147483647) (hy : -2147483648 ≤ y ∧ y ≤ 2147483647) (hd : zz_D Y pc (.invokestatic index) 3 pc1) (hw : Cond.methodLink Y.1.cls index Lib.Math.min.name ∈ mm_tb ∧ Cond.static Lib.Math.min.name ∈ mm_tb ∧ Cond.initialized "java/lang/Math" ∈ mm_tb ∧ Cond.code Lib.Math.min.name Lib.Math.min.code 2 (some .int) ∈ mm_tb) (hroom : 1 ≤ rm.frames ∧ (st.map fun v => v.category).sum + 13 ≤ rm.locals) (hk : k ≤ rm.cells) (hj : j ≤ rm.slots) (kk : ∀ v : Int, ((y < x ∧ v = y) ∨ (x ≤ y ∧ v = x)) → zz_E g l Y rm Q S n pc1 ls (zi v :: st) k j) : zz_E g l Y rm Q S n pc ls (zi y :: zi x :: st) k j := by
  refine mm_mmin hd.1 hw hroom hk hj (zz_rw hd.2 ?_)
  by_cases h : y < x
  · rw [if_pos ((zz_lt32 hy hx).mpr h)]; exact kk y (Or.inl ⟨h, rfl⟩)
  · rw [if_neg (fun q => h ((zz_lt32 hy hx).mp q))]; exact kk x (Or.inr ⟨Int.not_lt.mp h, rfl⟩)
theorem zz_lt64 {a b : Int} (ha : -9223372036854775808 ≤ a ∧ a ≤ 9223372036854775807) (hb : -9223372036854775808 ≤ b ∧ b ≤ 9223372036854775807) : Int64.ofInt a < Int64.ofInt b ↔ a < b := by
  rw [Int64.lt_iff_toInt_lt, zz_t64 ha, zz_t64 hb]
theorem zz_mmaxl {index : Nat} {x y : Int} (hx : -9223372036854775808 ≤ x ∧ x ≤ 9223372036854775807) (hy : -9223372036854775808 ≤ y ∧ y ≤ 9223372036854775807) (hd : zz_D Y pc (.invokestatic index) 3 pc1) (hw : Cond.methodLink Y.1.cls index Lib.MathLoose.max_long.x ∈ mm_tb ∧ Cond.static Lib.MathLoose.max_long.x ∈ mm_tb ∧ Cond.initialized "java/lang/Math" ∈ mm_tb ∧ Cond.code Lib.MathLoose.max_long.x Lib.MathLoose.max_long.code 4 (some .long) ∈ mm_tb) (hroom : 1 ≤ rm.frames ∧ (st.map fun v => v.category).sum + 15 ≤ rm.locals) (hk : k ≤ rm.cells) (hj : j ≤ rm.slots) (kk : ∀ v : Int, ((y < x ∧ v = x) ∨ (x ≤ y ∧ v = y)) → zz_E g l Y rm Q S n pc1 ls (zl v :: st) k j) : zz_E g l Y rm Q S n pc ls (zl y :: zl x :: st) k j := by
  refine mm_mmaxl hd.1 hw hroom hk hj (zz_rw hd.2 ?_)
  by_cases h : y < x
  · rw [if_pos ((zz_lt64 hy hx).mpr h)]; exact kk x (Or.inl ⟨h, rfl⟩)
  · rw [if_neg (fun q => h ((zz_lt64 hy hx).mp q))]; exact kk y (Or.inr ⟨Int.not_lt.mp h, rfl⟩)
theorem zz_mminl {index : Nat} {x y : Int} (hx : -9223372036854775808 ≤ x ∧ x ≤ 9223372036854775807) (hy : -9223372036854775808 ≤ y ∧ y ≤ 9223372036854775807) (hd : zz_D Y pc (.invokestatic index) 3 pc1) (hw : Cond.methodLink Y.1.cls index Lib.MathLoose.min_long.x ∈ mm_tb ∧ Cond.static Lib.MathLoose.min_long.x ∈ mm_tb ∧ Cond.initialized "java/lang/Math" ∈ mm_tb ∧ Cond.code Lib.MathLoose.min_long.x Lib.MathLoose.min_long.code 4 (some .long) ∈ mm_tb) (hroom : 1 ≤ rm.frames ∧ (st.map fun v => v.category).sum + 15 ≤ rm.locals) (hk : k ≤ rm.cells) (hj : j ≤ rm.slots) (kk : ∀ v : Int, ((y < x ∧ v = y) ∨ (x ≤ y ∧ v = x)) → zz_E g l Y rm Q S n pc1 ls (zl v :: st) k j) : zz_E g l Y rm Q S n pc ls (zl y :: zl x :: st) k j := by
  refine mm_mminl hd.1 hw hroom hk hj (zz_rw hd.2 ?_)
  by_cases h : y < x
  · rw [if_pos ((zz_lt64 hy hx).mpr h)]; exact kk y (Or.inl ⟨h, rfl⟩)
  · rw [if_neg (fun q => h ((zz_lt64 hy hx).mp q))]; exact kk x (Or.inr ⟨Int.not_lt.mp h, rfl⟩)
end ZH
theorem zT_1000 : zz_T 1000 = some (.inl (0, [2, 2, 2, 2, 2, 2, 2, 3, 3, 4, 4, 0])) := rfl
theorem zT_1001 : zz_T 1001 = some (.inl (1, [2, 0])) := rfl
theorem zT_1002 : zz_T 1002 = some (.inr (0, 12, 6)) := rfl
theorem zT_1003 : zz_T 1003 = some (.inl (2, [0, 0, 0, 0, 0, 0, 0, 0, 0, 0, 0, 0, 0, 0, 0])) := rfl
theorem zT_1004 : zz_T 1004 = some (.inl (2, [0, 0, 0, 0, 0, 0, 0, 0, 0, 0, 0, 0, 0, 0, 0])) := rfl
theorem zT_1005 : zz_T 1005 = some (.inl (2, [0, 0, 0, 0, 0, 0, 0, 0, 0, 0, 0, 0, 0, 0, 0])) := rfl
theorem zT_1006 : zz_T 1006 = some (.inl (2, [0, 0, 0, 0, 0, 0, 0, 0, 0, 0, 0, 0, 0, 0, 0])) := rfl
theorem zT_1007 : zz_T 1007 = some (.inl (2, [0, 0, 0, 0, 0, 0, 0, 0, 0, 0, 0, 0, 0, 0, 0])) := rfl
theorem zT_1008 : zz_T 1008 = some (.inl (2, [0, 0, 0, 0, 0, 0, 0, 0, 0, 0, 0, 0, 0, 0, 0])) := rfl
theorem zT_1009 : zz_T 1009 = some (.inl (2, [0, 0, 0, 0, 0, 0, 0, 0, 0, 0, 0, 0, 0, 0, 0])) := rfl
theorem zT_1010 : zz_T 1010 = some (.inl (2, [0, 0, 0, 0, 0, 0, 0, 0, 0, 0, 0, 0, 0, 0, 0])) := rfl
theorem zT_1011 : zz_T 1011 = some (.inl (2, [0, 0, 0, 0, 0, 0, 0, 0, 0, 0, 0, 0, 0, 0, 0])) := rfl
theorem zT_1012 : zz_T 1012 = some (.inl (2, [0, 0, 0, 0, 0, 0, 0, 0, 0, 0, 0, 0, 0, 0, 0])) := rfl
theorem zT_1013 : zz_T 1013 = some (.inl (2, [0, 0, 0, 0, 0, 0, 0, 0, 0, 0, 0, 0, 0, 0, 0])) := rfl
theorem zT_1014 : zz_T 1014 = some (.inl (2, [0, 0, 0, 0, 0, 0, 0, 0, 0, 0, 0, 0, 0, 0, 0])) := rfl
theorem zT_1015 : zz_T 1015 = some (.inl (1, [2, 0])) := rfl
theorem zT_1016 : zz_T 1016 = some (.inr (0, 12, 6)) := rfl
theorem zT_1017 : zz_T 1017 = some (.inl (2, [0, 0, 0, 0, 0, 0, 0, 0, 0, 0, 0, 0, 0, 0, 0])) := rfl
theorem zT_1018 : zz_T 1018 = some (.inl (2, [0, 0, 0, 0, 0, 0, 0, 0, 0, 0, 0, 0, 0, 0, 0])) := rfl
theorem zT_1019 : zz_T 1019 = some (.inl (2, [0, 0, 0, 0, 0, 0, 0, 0, 0, 0, 0, 0, 0, 0, 0])) := rfl
theorem zT_1020 : zz_T 1020 = some (.inl (2, [0, 0, 0, 0, 0, 0, 0, 0, 0, 0, 0, 0, 0, 0, 0])) := rfl
theorem zT_1021 : zz_T 1021 = some (.inl (2, [0, 0, 0, 0, 0, 0, 0, 0, 0, 0, 0, 0, 0, 0, 0])) := rfl
theorem zT_1022 : zz_T 1022 = some (.inl (2, [0, 0, 0, 0, 0, 0, 0, 0, 0, 0, 0, 0, 0, 0, 0])) := rfl
theorem zT_1023 : zz_T 1023 = some (.inl (2, [0, 0, 0, 0, 0, 0, 0, 0, 0, 0, 0, 0, 0, 0, 0])) := rfl
theorem zT_1024 : zz_T 1024 = some (.inl (2, [0, 0, 0, 0, 0, 0, 0, 0, 0, 0, 0, 0, 0, 0, 0])) := rfl
theorem zT_1025 : zz_T 1025 = some (.inl (2, [0, 0, 0, 0, 0, 0, 0, 0, 0, 0, 0, 0, 0, 0, 0])) := rfl
theorem zT_1026 : zz_T 1026 = some (.inl (2, [0, 0, 0, 0, 0, 0, 0, 0, 0, 0, 0, 0, 0, 0, 0])) := rfl
theorem zT_1027 : zz_T 1027 = some (.inl (2, [0, 0, 0, 0, 0, 0, 0, 0, 0, 0, 0, 0, 0, 0, 0])) := rfl
theorem zT_1028 : zz_T 1028 = some (.inl (2, [0, 0, 0, 0, 0, 0, 0, 0, 0, 0, 0, 0, 0, 0, 0])) := rfl
theorem zT_1029 : zz_T 1029 = some (.inr (1, 600, 1)) := rfl
theorem zT_1030 : zz_T 1030 = some (.inr (1, 600, 1)) := rfl
theorem zT_1031 : zz_T 1031 = some (.inl (3, [2, 2, 2, 2, 2, 5, 0, 0, 0, 0, 0, 0, 0, 0])) := rfl
theorem zT_1032 : zz_T 1032 = some (.inr (2, 4096, 0)) := rfl
theorem zT_1033 : zz_T 1033 = some (.inr (2, 512, 0)) := rfl
theorem zT_1034 : zz_T 1034 = some (.inr (2, 512, 0)) := rfl
theorem zT_1035 : zz_T 1035 = some (.inr (3, 256, 0)) := rfl
theorem zT_1036 : zz_T 1036 = some (.inr (2, 256, 0)) := rfl
theorem zT_1037 : zz_T 1037 = some (.inl (4, [2, 2, 2, 2])) := rfl
theorem zT_1038 : zz_T 1038 = some (.inr (3, 5, 0)) := rfl
theorem zT_1039 : zz_T 1039 = some (.inr (3, 5, 0)) := rfl
theorem zT_1040 : zz_T 1040 = some (.inr (3, 5, 0)) := rfl
theorem zT_1041 : zz_T 1041 = some (.inr (3, 5, 0)) := rfl
theorem zT_1042 : zz_T 1042 = some (.inl (5, [2, 2, 2, 2, 2, 2, 2, 2, 5, 0])) := rfl
theorem zT_1043 : zz_T 1043 = some (.inr (3, 10, 0)) := rfl
theorem zT_1044 : zz_T 1044 = some (.inr (1, 600, 1)) := rfl
theorem zT_1045 : zz_T 1045 = some (.inr (3, 600, 0)) := rfl
theorem zT_1046 : zz_T 1046 = some (.inr (3, 600, 0)) := rfl
theorem zT_1047 : zz_T 1047 = some (.inr (3, 3, 0)) := rfl
theorem zT_1048 : zz_T 1048 = some (.inr (3, 3, 0)) := rfl
theorem zT_1049 : zz_T 1049 = some (.inr (4, 3, 5)) := rfl
theorem zT_1050 : zz_T 1050 = some (.inl (4, [2, 2, 2, 2])) := rfl
theorem zT_1051 : zz_T 1051 = some (.inr (3, 5, 0)) := rfl
theorem zT_1052 : zz_T 1052 = some (.inr (3, 5, 0)) := rfl
theorem zT_1053 : zz_T 1053 = some (.inr (3, 5, 0)) := rfl
theorem zT_1054 : zz_T 1054 = some (.inr (3, 5, 0)) := rfl
theorem zT_1055 : zz_T 1055 = some (.inl (4, [2, 2, 2, 2])) := rfl
theorem zT_1056 : zz_T 1056 = some (.inr (3, 5, 0)) := rfl
theorem zT_1057 : zz_T 1057 = some (.inr (3, 5, 0)) := rfl
theorem zT_1058 : zz_T 1058 = some (.inr (3, 5, 0)) := rfl
theorem zT_1059 : zz_T 1059 = some (.inr (3, 5, 0)) := rfl
theorem zT_1060 : zz_T 1060 = some (.inl (4, [2, 2, 2, 2])) := rfl
theorem zT_1061 : zz_T 1061 = some (.inr (3, 5, 0)) := rfl
theorem zT_1062 : zz_T 1062 = some (.inr (3, 5, 0)) := rfl
theorem zT_1063 : zz_T 1063 = some (.inr (3, 5, 0)) := rfl
theorem zT_1064 : zz_T 1064 = some (.inr (3, 5, 0)) := rfl
theorem zT_1065 : zz_T 1065 = some (.inl (4, [2, 2, 2, 2])) := rfl
theorem zT_1066 : zz_T 1066 = some (.inr (3, 5, 0)) := rfl
theorem zT_1067 : zz_T 1067 = some (.inr (3, 5, 0)) := rfl
theorem zT_1068 : zz_T 1068 = some (.inr (3, 5, 0)) := rfl
theorem zT_1069 : zz_T 1069 = some (.inr (3, 5, 0)) := rfl
theorem zT_1070 : zz_T 1070 = some (.inl (6, [2, 0, 0, 0, 0, 0, 0])) := rfl
theorem zT_1071 : zz_T 1071 = some (.inr (5, 1500, 0)) := rfl
theorem zT_1072 : zz_T 1072 = some (.inl (7, [2, 0, 1, 0])) := rfl
theorem zT_1073 : zz_T 1073 = some (.inl (8, [2, 3, 2, 2, 0, 0, 0, 0, 0])) := rfl
theorem zT_1074 : zz_T 1074 = some (.inr (3, 11, 0)) := rfl
theorem zT_1075 : zz_T 1075 = some (.inr (3, 11, 0)) := rfl
theorem zT_1076 : zz_T 1076 = some (.inl (9, [4, 0, 0, 6, 6, 6, 0, 0, 0, 0, 0, 0, 0, 0, 0, 0, 0])) := rfl
theorem zT_1077 : zz_T 1077 = some (.inl (10, [2, 0])) := rfl
theorem zT_1078 : zz_T 1078 = some (.inr (5, 128, 0)) := rfl
theorem zT_1079 : zz_T 1079 = some (.inl (11, [0, 0, 2, 2, 2, 2, 2, 0, 2, 2, 0, 2, 2, 2, 0, 0, 0, 2, 2, 0, 2, 2, 2, 2, 2, 2, 2, 2, 0, 2, 0, 0, 0, 0, 0, 2, 0, 2, 2, 2, 2, 2, 2, 2, 2, 2, 2, 2, 2, 2, 0, 0, 0, 0, 0, 0, 0, 0, 2, 2, 0, 1, 2, 2, 1, 0, 0, 2, 2])) := rfl
theorem zT_1080 : zz_T 1080 = some (.inr (3, 4096, 0)) := rfl
theorem zT_1081 : zz_T 1081 = some (.inr (3, 512, 0)) := rfl
theorem zT_1082 : zz_T 1082 = some (.inr (3, 512, 0)) := rfl
theorem zT_1083 : zz_T 1083 = some (.inr (3, 256, 0)) := rfl
theorem zT_1084 : zz_T 1084 = some (.inr (3, 256, 0)) := rfl
theorem zT_1085 : zz_T 1085 = some (.inr (1, 601, 1)) := rfl
theorem zT_1086 : zz_T 1086 = some (.inr (1, 601, 1)) := rfl
theorem zT_1087 : zz_T 1087 = some (.inr (3, 12, 0)) := rfl
theorem zT_1088 : zz_T 1088 = some (.inr (3, 10, 0)) := rfl
theorem zT_1089 : zz_T 1089 = some (.inr (3, 10, 0)) := rfl
theorem zT_1090 : zz_T 1090 = some (.inr (3, 3, 0)) := rfl
theorem zT_1091 : zz_T 1091 = some (.inr (3, 4, 0)) := rfl
theorem zT_1092 : zz_T 1092 = some (.inr (3, 601, 0)) := rfl
theorem zT_1093 : zz_T 1093 = some (.inr (3, 601, 0)) := rfl
theorem zT_1094 : zz_T 1094 = some (.inr (3, 601, 0)) := rfl
theorem zT_1095 : zz_T 1095 = some (.inr (6, 601, 0)) := rfl
theorem zT_1096 : zz_T 1096 = some (.inr (3, 601, 0)) := rfl
theorem zT_1097 : zz_T 1097 = some (.inr (3, 3, 0)) := rfl
theorem zT_1098 : zz_T 1098 = some (.inr (3, 3, 0)) := rfl
theorem zT_1099 : zz_T 1099 = some (.inr (3, 1500, 0)) := rfl
theorem zT_1100 : zz_T 1100 = some (.inr (1, 24, 1)) := rfl
theorem zT_1101 : zz_T 1101 = some (.inr (3, 200, 0)) := rfl
theorem zT_1102 : zz_T 1102 = some (.inr (3, 11, 0)) := rfl
theorem zT_1103 : zz_T 1103 = some (.inr (3, 11, 0)) := rfl
theorem zT_1104 : zz_T 1104 = some (.inr (3, 11, 0)) := rfl
theorem zT_1105 : zz_T 1105 = some (.inr (3, 12, 0)) := rfl
theorem zT_1106 : zz_T 1106 = some (.inr (3, 10, 0)) := rfl
theorem zT_1107 : zz_T 1107 = some (.inr (3, 10, 0)) := rfl
theorem zT_1108 : zz_T 1108 = some (.inr (3, 10, 0)) := rfl
theorem zT_1109 : zz_T 1109 = some (.inr (3, 10, 0)) := rfl
theorem zT_1110 : zz_T 1110 = some (.inr (3, 10, 0)) := rfl
theorem zT_1111 : zz_T 1111 = some (.inr (3, 10, 0)) := rfl
theorem zT_1112 : zz_T 1112 = some (.inr (3, 10, 0)) := rfl
theorem zT_1113 : zz_T 1113 = some (.inr (3, 10, 0)) := rfl
theorem zT_1114 : zz_T 1114 = some (.inr (3, 10, 0)) := rfl
theorem zT_1115 : zz_T 1115 = some (.inr (3, 10, 0)) := rfl
theorem zT_1116 : zz_T 1116 = some (.inr (3, 10, 0)) := rfl
theorem zT_1117 : zz_T 1117 = some (.inr (1, 11, 1)) := rfl
theorem zT_1118 : zz_T 1118 = some (.inr (3, 8, 0)) := rfl
theorem zT_1119 : zz_T 1119 = some (.inr (3, 147, 0)) := rfl
theorem zT_1120 : zz_T 1120 = some (.inr (3, 12, 0)) := rfl
theorem zT_1121 : zz_T 1121 = some (.inr (1, 1, 1)) := rfl
theorem zT_k3 {z : Int} (h : 0 ≤ z ∧ z ≤ 1) : zz_T (zz_rf 3 z) = some (.inl (1, [2, 0])) := by
  have : z = 0 ∨ z = 1 := by omega
  rcases this with rfl | rfl <;> rfl
theorem zN_k3 {z : Int} {n : Nat} (hn : zz_end ≤ n) (h : 0 ≤ z ∧ z ≤ 1) : zz_rf 3 z < n := by
  have : z = 0 ∨ z = 1 := by omega
  refine Nat.lt_of_lt_of_le ?_ hn
  rcases this with rfl | rfl <;> decide
theorem zT_k3a {z : Int} (h : 0 ≤ z ∧ z ≤ 1) : zz_T (zz_rf 3 z + 1) = some (.inr (0, 12, 6)) := by
  have : z = 0 ∨ z = 1 := by omega
  rcases this with rfl | rfl <;> rfl
theorem zN_k3a {z : Int} {n : Nat} (hn : zz_end ≤ n) (h : 0 ≤ z ∧ z ≤ 1) : (zz_rf 3 z + 1) < n := by
  have : z = 0 ∨ z = 1 := by omega
  refine Nat.lt_of_lt_of_le ?_ hn
  rcases this with rfl | rfl <;> decide
theorem zT_k4 {z : Int} (h : 0 ≤ z ∧ z ≤ 1) : zz_T (zz_rf 4 z) = some (.inr (1, 600, 1)) := by
  have : z = 0 ∨ z = 1 := by omega
  rcases this with rfl | rfl <;> rfl
theorem zN_k4 {z : Int} {n : Nat} (hn : zz_end ≤ n) (h : 0 ≤ z ∧ z ≤ 1) : zz_rf 4 z < n := by
  have : z = 0 ∨ z = 1 := by omega
  refine Nat.lt_of_lt_of_le ?_ hn
  rcases this with rfl | rfl <;> decide
theorem zT_k5 {z : Int} (h : 0 ≤ z ∧ z ≤ 4) : zz_T (zz_rf 5 z) = some (.inl (4, [2, 2, 2, 2])) := by
  have : z = 0 ∨ z = 1 ∨ z = 2 ∨ z = 3 ∨ z = 4 := by omega
  rcases this with rfl | rfl | rfl | rfl | rfl <;> rfl
theorem zN_k5 {z : Int} {n : Nat} (hn : zz_end ≤ n) (h : 0 ≤ z ∧ z ≤ 4) : zz_rf 5 z < n := by
  have : z = 0 ∨ z = 1 ∨ z = 2 ∨ z = 3 ∨ z = 4 := by omega
  refine Nat.lt_of_lt_of_le ?_ hn
  rcases this with rfl | rfl | rfl | rfl | rfl <;> decide
theorem zT_k5a1 {z : Int} (h : 0 ≤ z ∧ z ≤ 4) : zz_T (zz_rf 5 z + 1) = some (.inr (3, 5, 0)) := by
  have : z = 0 ∨ z = 1 ∨ z = 2 ∨ z = 3 ∨ z = 4 := by omega
  rcases this with rfl | rfl | rfl | rfl | rfl <;> rfl
theorem zN_k5a1 {z : Int} {n : Nat} (hn : zz_end ≤ n) (h : 0 ≤ z ∧ z ≤ 4) : (zz_rf 5 z + 1) < n := by
  have : z = 0 ∨ z = 1 ∨ z = 2 ∨ z = 3 ∨ z = 4 := by omega
  refine Nat.lt_of_lt_of_le ?_ hn
  rcases this with rfl | rfl | rfl | rfl | rfl <;> decide
theorem zT_k5a2 {z : Int} (h : 0 ≤ z ∧ z ≤ 4) : zz_T (zz_rf 5 z + 2) = some (.inr (3, 5, 0)) := by
  have : z = 0 ∨ z = 1 ∨ z = 2 ∨ z = 3 ∨ z = 4 := by omega
  rcases this with rfl | rfl | rfl | rfl | rfl <;> rfl
theorem zN_k5a2 {z : Int} {n : Nat} (hn : zz_end ≤ n) (h : 0 ≤ z ∧ z ≤ 4) : (zz_rf 5 z + 2) < n := by
  have : z = 0 ∨ z = 1 ∨ z = 2 ∨ z = 3 ∨ z = 4 := by omega
  refine Nat.lt_of_lt_of_le ?_ hn
  rcases this with rfl | rfl | rfl | rfl | rfl <;> decide
theorem zT_k5a3 {z : Int} (h : 0 ≤ z ∧ z ≤ 4) : zz_T (zz_rf 5 z + 3) = some (.inr (3, 5, 0)) := by
  have : z = 0 ∨ z = 1 ∨ z = 2 ∨ z = 3 ∨ z = 4 := by omega
  rcases this with rfl | rfl | rfl | rfl | rfl <;> rfl
theorem zN_k5a3 {z : Int} {n : Nat} (hn : zz_end ≤ n) (h : 0 ≤ z ∧ z ≤ 4) : (zz_rf 5 z + 3) < n := by
  have : z = 0 ∨ z = 1 ∨ z = 2 ∨ z = 3 ∨ z = 4 := by omega
  refine Nat.lt_of_lt_of_le ?_ hn
  rcases this with rfl | rfl | rfl | rfl | rfl <;> decide
theorem zT_k5a4 {z : Int} (h : 0 ≤ z ∧ z ≤ 4) : zz_T (zz_rf 5 z + 4) = some (.inr (3, 5, 0)) := by
  have : z = 0 ∨ z = 1 ∨ z = 2 ∨ z = 3 ∨ z = 4 := by omega
  rcases this with rfl | rfl | rfl | rfl | rfl <;> rfl
theorem zN_k5a4 {z : Int} {n : Nat} (hn : zz_end ≤ n) (h : 0 ≤ z ∧ z ≤ 4) : (zz_rf 5 z + 4) < n := by
  have : z = 0 ∨ z = 1 ∨ z = 2 ∨ z = 3 ∨ z = 4 := by omega
  refine Nat.lt_of_lt_of_le ?_ hn
  rcases this with rfl | rfl | rfl | rfl | rfl <;> decide
theorem zT_k6 {z : Int} (h : 0 ≤ z ∧ z ≤ 23) : zz_T (zz_rf 6 z) = some (.inl (2, [0, 0, 0, 0, 0, 0, 0, 0, 0, 0, 0, 0, 0, 0, 0])) := by
  have : z = 0 ∨ z = 1 ∨ z = 2 ∨ z = 3 ∨ z = 4 ∨ z = 5 ∨ z = 6 ∨ z = 7 ∨ z = 8 ∨ z = 9 ∨ z = 10 ∨ z = 11 ∨ z = 12 ∨ z = 13 ∨ z = 14 ∨ z = 15 ∨ z = 16 ∨ z = 17 ∨ z = 18 ∨ z = 19 ∨ z = 20 ∨ z = 21 ∨ z = 22 ∨ z = 23 := by omega
  rcases this with rfl | rfl | rfl | rfl | rfl | rfl | rfl | rfl | rfl | rfl | rfl | rfl | rfl | rfl | rfl | rfl | rfl | rfl | rfl | rfl | rfl | rfl | rfl | rfl <;> rfl
theorem zN_k6 {z : Int} {n : Nat} (hn : zz_end ≤ n) (h : 0 ≤ z ∧ z ≤ 23) : zz_rf 6 z < n := by
  have : z = 0 ∨ z = 1 ∨ z = 2 ∨ z = 3 ∨ z = 4 ∨ z = 5 ∨ z = 6 ∨ z = 7 ∨ z = 8 ∨ z = 9 ∨ z = 10 ∨ z = 11 ∨ z = 12 ∨ z = 13 ∨ z = 14 ∨ z = 15 ∨ z = 16 ∨ z = 17 ∨ z = 18 ∨ z = 19 ∨ z = 20 ∨ z = 21 ∨ z = 22 ∨ z = 23 := by omega
  refine Nat.lt_of_lt_of_le ?_ hn
  rcases this with rfl | rfl | rfl | rfl | rfl | rfl | rfl | rfl | rfl | rfl | rfl | rfl | rfl | rfl | rfl | rfl | rfl | rfl | rfl | rfl | rfl | rfl | rfl | rfl <;> decide
theorem zz_band64 {x y v : Int} (hx : -9223372036854775808 ≤ x ∧ x ≤ 9223372036854775807) (hy : -9223372036854775808 ≤ y ∧ y ≤ 9223372036854775807) (e : v = (Int64.ofInt x &&& Int64.ofInt y).toInt) : (0 ≤ x → 0 ≤ v ∧ v ≤ x) ∧ (0 ≤ y → 0 ≤ v ∧ v ≤ y) := by
  have key : ∀ x y : Int64, 0 ≤ x.toInt → 0 ≤ (x &&& y).toInt ∧ (x &&& y).toInt ≤ x.toInt := by
    intro x y h
    have h1 : x.toBitVec.toInt = x.toInt := rfl
    have h2 : (x &&& y).toInt = (x.toBitVec &&& y.toBitVec).toInt := by rw [← Int64.toInt_toBitVec, Int64.toBitVec_and]
    have hm : x.toBitVec.msb = false := by
      rw [BitVec.msb_eq_toInt]
      simpa [h1] using h
    have hm2 : (x.toBitVec &&& y.toBitVec).msb = false := by rw [BitVec.msb_and, hm]; rfl
    rw [h2, ← h1, BitVec.toInt_eq_toNat_of_msb hm2, BitVec.toInt_eq_toNat_of_msb hm, BitVec.toNat_and]
    have := @Nat.and_le_left x.toBitVec.toNat y.toBitVec.toNat
    omega
  subst e
  refine ⟨fun h => ?_, fun h => ?_⟩
  · have := key (Int64.ofInt x) (Int64.ofInt y) (by rw [zz_t64 hx]; exact h)
    rw [zz_t64 hx] at this
    exact this
  · have := key (Int64.ofInt y) (Int64.ofInt x) (by rw [zz_t64 hy]; exact h)
    rw [zz_t64 hy, Int64.and_comm] at this
    exact this
theorem zz_lsr5 {x v : Int} (hx : 0 ≤ x ∧ x ≤ 9223372036854775807) (e : v = (Int64.ofInt x >>> ((Int32.ofInt 5).toInt64 &&& 63)).toInt) : v = x / 32 := by
  have h5 : (Int32.ofInt 5).toInt64 &&& 63 = 5 := by decide
  rw [h5] at e
  rw [e, ← Int64.toInt_toBitVec, Int64.toBitVec_shiftRight]
  have h6 : (BitVec.smod (Int64.toBitVec 5) 64).toNat = 5 := by decide
  rw [BitVec.sshiftRight', h6, BitVec.toInt_sshiftRight, Int64.toInt_toBitVec, zz_t64 (by omega)]
  exact Int.shiftRight_eq_div_pow x 5
theorem zz_sl1 {b v : Int} (hb : 0 ≤ b ∧ b ≤ 12) (e : v = (Int64.ofInt 1 <<< ((Int32.ofInt b).toInt64 &&& 63)).toInt) : (b = 0 ∧ v = 1) ∨ (b = 1 ∧ v = 2) ∨ (b = 2 ∧ v = 4) ∨ (b = 3 ∧ v = 8) ∨ (b = 4 ∧ v = 16) ∨ (b = 5 ∧ v = 32) ∨ (b = 6 ∧ v = 64) ∨ (b = 7 ∧ v = 128) ∨ (b = 8 ∧ v = 256) ∨ (b = 9 ∧ v = 512) ∨ (b = 10 ∧ v = 1024) ∨ (b = 11 ∧ v = 2048) ∨ (b = 12 ∧ v = 4096) := by
  have : b = 0 ∨ b = 1 ∨ b = 2 ∨ b = 3 ∨ b = 4 ∨ b = 5 ∨ b = 6 ∨ b = 7 ∨ b = 8 ∨ b = 9 ∨ b = 10 ∨ b = 11 ∨ b = 12 := by omega
  subst e
  rcases this with rfl | rfl | rfl | rfl | rfl | rfl | rfl | rfl | rfl | rfl | rfl | rfl | rfl <;> decide
theorem zz_mulb {a b : Int} (A B C : Int) (ha : 0 ≤ a ∧ a ≤ A) (hb : 0 ≤ b ∧ b ≤ B) (hC : A * B = C) : 0 ≤ a * b ∧ a * b ≤ C := by
  refine ⟨Int.mul_nonneg ha.1 hb.1, ?_⟩
  rw [← hC]
  exact Int.mul_le_mul ha.2 hb.2 hb.1 (Int.le_trans ha.1 ha.2)
theorem zz_rf3 {z : Int} (h : 0 ≤ z ∧ z ≤ 1) : (zz_rf 3 z : Int) = 1001 + 14 * z := by
  have : z = 0 ∨ z = 1 := by omega
  rcases this with rfl | rfl <;> rfl
theorem zz_rf6 {z : Int} (h : 0 ≤ z ∧ z ≤ 23) : (z < 12 ∧ (zz_rf 6 z : Int) = 1003 + z) ∨ (12 ≤ z ∧ (zz_rf 6 z : Int) = 1005 + z) := by
  by_cases q : z < 12
  · have e : zz_rf 6 z = 1003 + z.toNat := if_pos q
    exact Or.inl ⟨q, by rw [e]; omega⟩
  · have e : zz_rf 6 z = 1005 + z.toNat := if_neg q
    exact Or.inr ⟨by omega, by rw [e]; omega⟩
theorem zz_rf5 {z : Int} (h : 0 ≤ z ∧ z ≤ 4) : (z = 4 ∧ (zz_rf 5 z : Int) = 1037) ∨ (z < 4 ∧ (zz_rf 5 z : Int) = 1050 + 5 * z) := by
  by_cases q : z = 4
  · have e : zz_rf 5 z = 1037 := if_pos q
    exact Or.inl ⟨q, by rw [e]; rfl⟩
  · have e : zz_rf 5 z = 1050 + 5 * z.toNat := if_neg q
    exact Or.inr ⟨by omega, by rw [e]; omega⟩
end
section
/-! Throws, and calls of methods that may throw. By program (wip/zz/gen43.py). -/
theorem zz_T_none {a : Nat} (h : zz_end ≤ a) : zz_T a = none := by
  have hl : zz_tab.length = 122 := rfl
  have h' : 1122 ≤ a := h
  unfold zz_T
  rw [if_neg (by omega)]
  exact List.getElem?_eq_none (by omega)
theorem zz_M_n {S : zz_S} {n : Nat} (hn : zz_end ≤ n) : zz_M S (n + 1) = zz_M S n := by
  funext a
  unfold zz_M
  by_cases h : a < n
  · rw [if_pos h, if_pos (by omega)]
  · rw [if_neg h]
    by_cases h2 : a < n + 1
    · rw [if_pos h2, zz_T_none (Nat.le_trans hn (Nat.not_lt.mp h))]; rfl
    · rw [if_neg h2]
def zz_XI (n : Nat) (P : Int → zz_S → Prop) (X : Nat → zz_S → Prop) : mm_O → Prop := fun u => (∃ v S1, u = (.inl (some (zi v)), zz_M S1 n, n) ∧ P v S1) ∨ (∃ i S1, u = (.inr i, zz_M S1 (n + 1), n + 1) ∧ X i S1)
def zz_XJ (n : Nat) (P : Int → zz_S → Prop) (X : Nat → zz_S → Prop) : mm_O → Prop := fun u => (∃ v S1, u = (.inl (some (zl v)), zz_M S1 n, n) ∧ P v S1) ∨ (∃ i S1, u = (.inr i, zz_M S1 (n + 1), n + 1) ∧ X i S1)
def zz_XV (n : Nat) (P : zz_S → Prop) (X : Nat → zz_S → Prop) : mm_O → Prop := fun u => (∃ S1, u = (.inl none, zz_M S1 n, n) ∧ P S1) ∨ (∃ i S1, u = (.inr i, zz_M S1 (n + 1), n + 1) ∧ X i S1)
def zz_Thr (Y : mm_Y) (pc ix is ic : Nat) : Prop := decode Y.2.1 pc = .ok (.new ix, 3) ∧ decode Y.2.1 (pc + 3) = .ok (.dup, 1) ∧ decode Y.2.1 (pc + 3 + 1) = .ok (.ldc is, 2) ∧ decode Y.2.1 (pc + 3 + 1 + 2) = .ok (.invokespecial ic, 3) ∧ decode Y.2.1 (pc + 3 + 1 + 2 + 3) = .ok (.athrow, 1)
def zz_ThrW (Y : mm_Y) (pc ix is ic : Nat) : Prop := decode Y.2.1 pc = .ok (.new ix, 3) ∧ decode Y.2.1 (pc + 3) = .ok (.dup, 1) ∧ decode Y.2.1 (pc + 3 + 1) = .ok (.ldc_w is, 3) ∧ decode Y.2.1 (pc + 3 + 1 + 3) = .ok (.invokespecial ic, 3) ∧ decode Y.2.1 (pc + 3 + 1 + 3 + 3) = .ok (.athrow, 1)
section ZX
variable {g : mm_G} {l : Launch} {Y : mm_Y} {rm : Room} {Q : mm_O → Prop} {pc pc1 : Nat} {ls : List (Option Value)} {st : List Value} {S : zz_S} {n k j : Nat}
theorem zz_throw {ix is ic i np : Nat} (hfl : l.flags = flags0) (hn : zz_end ≤ n) (hd : zz_Thr Y pc ix is ic) (hY : mm_Yw Y np) (hXl : mm_Xl Y.1.cls ix is ic i) (hk : k + 1 ≤ rm.cells) (hj : j + 6 ≤ rm.slots) (hroom : 5 < rm.frames ∧ (st.map fun v => v.category).sum + 82 ≤ rm.locals) (hQ : Q (.inr i, zz_M S (n + 1), n + 1)) : zz_E g l Y rm Q S n pc ls st k j :=
  mm_throw hfl hd.1 hd.2.1 hd.2.2.1 hd.2.2.2.1 hd.2.2.2.2 hY hXl hk hj hroom (by rw [← zz_M_n hn]; exact hQ)
theorem zz_throwW {ix is ic i np : Nat} (hfl : l.flags = flags0) (hn : zz_end ≤ n) (hd : zz_ThrW Y pc ix is ic) (hY : mm_Yw Y np) (hXl : mm_Xl Y.1.cls ix is ic i) (hk : k + 1 ≤ rm.cells) (hj : j + 6 ≤ rm.slots) (hroom : 5 < rm.frames ∧ (st.map fun v => v.category).sum + 82 ≤ rm.locals) (hQ : Q (.inr i, zz_M S (n + 1), n + 1)) : zz_E g l Y rm Q S n pc ls st k j :=
  mm_throwW hfl hd.1 hd.2.1 hd.2.2.1 hd.2.2.2.1 hd.2.2.2.2 hY hXl hk hj hroom (by rw [← zz_M_n hn]; exact hQ)
theorem zz_callVXI {Z : mm_Y} {rz : Room} {P : Int → zz_S → Prop} {X : Nat → zz_S → Prop} {a ci index np nq : Nat} {ks : List Nat} {stk : List Value} (as : List Value) (hd : zz_D Y pc (.invokevirtual index) 3 pc1) (hZ : mm_Vl Y.1.cls index ci np Z) (hT : zz_T a = some (.inl (ci, ks))) (hn : a < n) (hst : stk = as.reverse ++ .ref a :: st) (hlen : as.length = np) (hroom : rz.frames + 1 ≤ rm.frames ∧ (st.map fun v => v.category).sum + (Z.2.2.1 + 11) + rz.locals ≤ rm.locals) (hk : k + rz.cells ≤ rm.cells) (hj : j + rz.slots ≤ rm.slots) (hM : mm_Met g l Z rz (.ref a :: as) (zz_M S n) n (zz_XI n P X)) (hY : mm_Yw Y nq) (kx : ∀ i S1, X i S1 → Q (.inr i, zz_M S1 (n + 1), n + 1)) (kr : ∀ (v : Int) (S1 : zz_S), P v S1 → zz_E g l Y rm Q S1 n pc1 ls (zi v :: st) (k + rz.cells) (j + rz.slots)) : zz_E g l Y rm Q S n pc ls stk k j := by
  subst hst
  refine mm_callV hd.1 hZ hM (zz_M_at hn hT) hlen hroom hk hj (fun v M1 n1 hQ => ?_) (fun i M1 n1 hQ => ?_)
  · rcases hQ with ⟨v1, S1, e, hP⟩ | ⟨i, S1, e, hX⟩
    · cases e
      exact zz_rw hd.2 (kr v1 S1 hP)
    · cases e
  · rcases hQ with ⟨v1, S1, e, hP⟩ | ⟨i, S1, e, hX⟩
    · cases e
    · cases e
      exact mm_out hY hk hj (kx _ _ hX)
theorem zz_callVXJ {Z : mm_Y} {rz : Room} {P : Int → zz_S → Prop} {X : Nat → zz_S → Prop} {a ci index np nq : Nat} {ks : List Nat} {stk : List Value} (as : List Value) (hd : zz_D Y pc (.invokevirtual index) 3 pc1) (hZ : mm_Vl Y.1.cls index ci np Z) (hT : zz_T a = some (.inl (ci, ks))) (hn : a < n) (hst : stk = as.reverse ++ .ref a :: st) (hlen : as.length = np) (hroom : rz.frames + 1 ≤ rm.frames ∧ (st.map fun v => v.category).sum + (Z.2.2.1 + 11) + rz.locals ≤ rm.locals) (hk : k + rz.cells ≤ rm.cells) (hj : j + rz.slots ≤ rm.slots) (hM : mm_Met g l Z rz (.ref a :: as) (zz_M S n) n (zz_XJ n P X)) (hY : mm_Yw Y nq) (kx : ∀ i S1, X i S1 → Q (.inr i, zz_M S1 (n + 1), n + 1)) (kr : ∀ (v : Int) (S1 : zz_S), P v S1 → zz_E g l Y rm Q S1 n pc1 ls (zl v :: st) (k + rz.cells) (j + rz.slots)) : zz_E g l Y rm Q S n pc ls stk k j := by
  subst hst
  refine mm_callV hd.1 hZ hM (zz_M_at hn hT) hlen hroom hk hj (fun v M1 n1 hQ => ?_) (fun i M1 n1 hQ => ?_)
  · rcases hQ with ⟨v1, S1, e, hP⟩ | ⟨i, S1, e, hX⟩
    · cases e
      exact zz_rw hd.2 (kr v1 S1 hP)
    · cases e
  · rcases hQ with ⟨v1, S1, e, hP⟩ | ⟨i, S1, e, hX⟩
    · cases e
    · cases e
      exact mm_out hY hk hj (kx _ _ hX)
theorem zz_callVXV {Z : mm_Y} {rz : Room} {P : zz_S → Prop} {X : Nat → zz_S → Prop} {a ci index np nq : Nat} {ks : List Nat} {stk : List Value} (as : List Value) (hd : zz_D Y pc (.invokevirtual index) 3 pc1) (hZ : mm_Vl Y.1.cls index ci np Z) (hT : zz_T a = some (.inl (ci, ks))) (hn : a < n) (hst : stk = as.reverse ++ .ref a :: st) (hlen : as.length = np) (hroom : rz.frames + 1 ≤ rm.frames ∧ (st.map fun v => v.category).sum + (Z.2.2.1 + 11) + rz.locals ≤ rm.locals) (hk : k + rz.cells ≤ rm.cells) (hj : j + rz.slots ≤ rm.slots) (hM : mm_Met g l Z rz (.ref a :: as) (zz_M S n) n (zz_XV n P X)) (hY : mm_Yw Y nq) (kx : ∀ i S1, X i S1 → Q (.inr i, zz_M S1 (n + 1), n + 1)) (kr : ∀ (S1 : zz_S), P S1 → zz_E g l Y rm Q S1 n pc1 ls (st) (k + rz.cells) (j + rz.slots)) : zz_E g l Y rm Q S n pc ls stk k j := by
  subst hst
  refine mm_callV hd.1 hZ hM (zz_M_at hn hT) hlen hroom hk hj (fun v M1 n1 hQ => ?_) (fun i M1 n1 hQ => ?_)
  · rcases hQ with ⟨S1, e, hP⟩ | ⟨i, S1, e, hX⟩
    · cases e
      exact zz_rw hd.2 (kr S1 hP)
    · cases e
  · rcases hQ with ⟨S1, e, hP⟩ | ⟨i, S1, e, hX⟩
    · cases e
    · cases e
      exact mm_out hY hk hj (kx _ _ hX)
end ZX
end
section
abbrev zy_thrown_14_2 : mm_Y := (⟨"TensorForgeModel", "thrown", "()I"⟩, prog_14_method_2_code, 1, (some .int))
theorem zyw_thrown_14_2 : mm_Yw zy_thrown_14_2 0 := ⟨mm_tb_1 1823 (by decide +kernel) rfl, mm_tb_1 12 (by decide +kernel) rfl, ⟨by decide, by decide⟩, by decide +kernel⟩
theorem zd_14_2_0 : zz_D zy_thrown_14_2 0 (.aload_n 0) 1 1 := ⟨by decide +kernel, rfl⟩
theorem zd_14_2_1 : zz_D zy_thrown_14_2 1 (.getfield 187) 3 4 := ⟨by decide +kernel, rfl⟩
theorem zf_Md_187 : mm_Fl "TensorForgeModel" 187 11 0 .int false := ⟨R_Md, F_Md, 69, t_Md, rfl, i_Md, by decide, mm_tb_1 1611 (by decide +kernel) rfl, rfl, t_Md_ok, n_Md, rfl, by decide +kernel⟩
theorem zd_14_2_4 : zz_D zy_thrown_14_2 4 (.ireturn) 1 5 := ⟨by decide +kernel, rfl⟩
-- TensorForgeModel thrown ()I
abbrev zr_thrown_14_2 : Room := { frames := 0, cells := 0, slots := 0, locals := 0 }
def zp_thrown_14_2  (S0 : zz_S) : Int → zz_S → Prop := fun r S => S0 = S ∧ (0 ≤ r ∧ r ≤ 3) ∧ (r = S0 1079 0)
theorem zc_thrown_14_2 {g : mm_G} {l : Launch}  (S0 : zz_S) (n : Nat) (hn : zz_end ≤ n) (G_S0 : zz_G S0)  : mm_Met g l zy_thrown_14_2 zr_thrown_14_2 [.ref 1079] (zz_M S0 n) n (zz_QI n (zp_thrown_14_2  S0)) := by
  refine zz_enter (by decide) (Nat.le_of_ble_eq_true rfl) (zz_less (ls1 := [some (.ref 1079)]) ⟨rfl, trivial⟩ ?_)
  refine zz_aload_n (x := 1079) rfl zd_14_2_0 ?_
  have g1 := zz_G.r G_S0 1079 0 0 3 rfl rfl
  refine zz_geti (z := S0 1079 0) zd_14_2_1 zf_Md_187 zT_1079 rfl (zz_ltn hn rfl) rfl ?_
  exact zz_iret zd_14_2_4 rfl (Nat.zero_le _) (Nat.zero_le _) ⟨_, _, rfl, rfl, by omega, by omega⟩
abbrev zy_refuse_14_3 : mm_Y := (⟨"TensorForgeModel", "refuse", "(ZZZ)Z"⟩, prog_14_method_3_code, 4, (some .boolean))
theorem zyw_refuse_14_3 : mm_Yw zy_refuse_14_3 3 := ⟨mm_tb_1 1835 (by decide +kernel) rfl, mm_tb_1 12 (by decide +kernel) rfl, ⟨by decide, by decide⟩, by decide +kernel⟩
theorem zd_14_3_0 : zz_D zy_refuse_14_3 0 (.aload_n 0) 1 1 := ⟨by decide +kernel, rfl⟩
theorem zd_14_3_1 : zz_D zy_refuse_14_3 1 (.iload_n 1) 1 2 := ⟨by decide +kernel, rfl⟩
theorem zd_14_3_2 : zz_B zy_refuse_14_3 2 (Instr.ifCond .eq) 9 5 := ⟨7, by decide +kernel, rfl, rfl⟩
theorem zd_14_3_9 : zz_D zy_refuse_14_3 9 (.iload_n 2) 1 10 := ⟨by decide +kernel, rfl⟩
theorem zd_14_3_10 : zz_B zy_refuse_14_3 10 (Instr.ifCond .eq) 17 13 := ⟨7, by decide +kernel, rfl, rfl⟩
theorem zd_14_3_17 : zz_D zy_refuse_14_3 17 (.iload_n 3) 1 18 := ⟨by decide +kernel, rfl⟩
theorem zd_14_3_18 : zz_B zy_refuse_14_3 18 (Instr.ifCond .eq) 25 21 := ⟨7, by decide +kernel, rfl, rfl⟩
theorem zd_14_3_25 : zz_D zy_refuse_14_3 25 (.iconst 0) 1 26 := ⟨by decide +kernel, rfl⟩
theorem zd_14_3_26 : zz_D zy_refuse_14_3 26 (.putfield 187) 3 29 := ⟨by decide +kernel, rfl⟩
theorem zd_14_3_29 : zz_D zy_refuse_14_3 29 (.aload_n 0) 1 30 := ⟨by decide +kernel, rfl⟩
theorem zd_14_3_30 : zz_D zy_refuse_14_3 30 (.getfield 187) 3 33 := ⟨by decide +kernel, rfl⟩
theorem zd_14_3_33 : zz_B zy_refuse_14_3 33 (Instr.ifCond .le) 40 36 := ⟨7, by decide +kernel, rfl, rfl⟩
theorem zd_14_3_40 : zz_D zy_refuse_14_3 40 (.iconst 0) 1 41 := ⟨by decide +kernel, rfl⟩
theorem zd_14_3_41 : zz_D zy_refuse_14_3 41 (.ireturn) 1 42 := ⟨by decide +kernel, rfl⟩
theorem zd_14_3_21 : zz_D zy_refuse_14_3 21 (.iconst 3) 1 22 := ⟨by decide +kernel, rfl⟩
theorem zd_14_3_22 : zz_B zy_refuse_14_3 22 Instr.goto 26 25 := ⟨4, by decide +kernel, rfl, rfl⟩
theorem zd_14_3_36 : zz_D zy_refuse_14_3 36 (.iconst 1) 1 37 := ⟨by decide +kernel, rfl⟩
theorem zd_14_3_37 : zz_B zy_refuse_14_3 37 Instr.goto 41 40 := ⟨4, by decide +kernel, rfl, rfl⟩
theorem zd_14_3_13 : zz_D zy_refuse_14_3 13 (.iconst 2) 1 14 := ⟨by decide +kernel, rfl⟩
theorem zd_14_3_14 : zz_B zy_refuse_14_3 14 Instr.goto 26 17 := ⟨12, by decide +kernel, rfl, rfl⟩
theorem zd_14_3_5 : zz_D zy_refuse_14_3 5 (.iconst 1) 1 6 := ⟨by decide +kernel, rfl⟩
theorem zd_14_3_6 : zz_B zy_refuse_14_3 6 Instr.goto 26 9 := ⟨20, by decide +kernel, rfl, rfl⟩
-- TensorForgeModel refuse (ZZZ)Z
abbrev zr_refuse_14_3 : Room := { frames := 0, cells := 0, slots := 0, locals := 0 }
def zp_refuse_14_3 (p0 : Int) (p1 : Int) (p2 : Int) (S0 : zz_S) : Int → zz_S → Prop := fun r S => zz_G S ∧ zz_fr [(1079, 0)] [] (fun _ _ => False) S0 S ∧ (0 ≤ r ∧ r ≤ 1) ∧ ((p0 = 1 ∧ S 1079 0 = 1 ∧ r = 1) ∨ (p0 = 0 ∧ p1 = 1 ∧ S 1079 0 = 2 ∧ r = 1) ∨ (p0 = 0 ∧ p1 = 0 ∧ p2 = 1 ∧ S 1079 0 = 3 ∧ r = 1) ∨ (p0 = 0 ∧ p1 = 0 ∧ p2 = 0 ∧ S 1079 0 = 0 ∧ r = 0))
theorem zc_refuse_14_3 {g : mm_G} {l : Launch} (p0 : Int) (p1 : Int) (p2 : Int) (S0 : zz_S) (n : Nat) (hn : zz_end ≤ n) (G_S0 : zz_G S0) (hp0 : 0 ≤ p0 ∧ p0 ≤ 1) (hp1 : 0 ≤ p1 ∧ p1 ≤ 1) (hp2 : 0 ≤ p2 ∧ p2 ≤ 1) : mm_Met g l zy_refuse_14_3 zr_refuse_14_3 [.ref 1079, zi p0, zi p1, zi p2] (zz_M S0 n) n (zz_QI n (zp_refuse_14_3 p0 p1 p2 S0)) := by
  refine zz_enter (by decide) (Nat.le_of_ble_eq_true rfl) (zz_less (ls1 := [some (.ref 1079), some (zi p0), some (zi p1), some (zi p2)]) ⟨rfl, ⟨rfl, ⟨rfl, ⟨rfl, trivial⟩⟩⟩⟩ ?_)
  have F_S0 : zz_fr [(1079, 0)] [] (fun _ _ => False) S0 S0 := zz_fr.refl
  refine zz_aload_n (x := 1079) rfl zd_14_3_0 ?_
  refine zz_iload_n (x := p0) rfl zd_14_3_1 ?_
  refine zz_if_eq (by omega) zd_14_3_2 (fun c1 => ?_) (fun c1 => ?_)
  · refine zz_iload_n (x := p1) rfl zd_14_3_9 ?_
    refine zz_if_eq (by omega) zd_14_3_10 (fun c2 => ?_) (fun c2 => ?_)
    · refine zz_iload_n (x := p2) rfl zd_14_3_17 ?_
      refine zz_if_eq (by omega) zd_14_3_18 (fun c3 => ?_) (fun c3 => ?_)
      · refine zz_iconst zd_14_3_25 ?_
        refine zz_puti zd_14_3_26 zf_Md_187 zT_1079 rfl (zz_ltn hn rfl) (fun S4 qS4 => ?_)
        have G_S4 := zz_G.put G_S0 qS4 0 3 rfl (by omega)
        have F_S4 := zz_fr.puts F_S0 qS4 rfl
        refine zz_aload_n (x := 1079) rfl zd_14_3_29 ?_
        refine zz_geti (z := 0) zd_14_3_30 zf_Md_187 zT_1079 rfl (zz_ltn hn rfl) (zz_rs qS4) ?_
        refine zz_if_le (by omega) zd_14_3_33 (fun c5 => ?_) (fun c5 => ?_)
        · refine zz_iconst zd_14_3_40 ?_
          have e6 : S4 1079 0 = 0 := (zz_rs qS4)
          exact zz_zret zd_14_3_41 rfl (by omega) (Nat.zero_le _) (Nat.zero_le _) ⟨_, _, rfl, G_S4, F_S4, by omega, by omega⟩
        · exfalso; omega
      · refine zz_iconst zd_14_3_21 ?_
        refine zz_goto zd_14_3_22 ?_
        refine zz_puti zd_14_3_26 zf_Md_187 zT_1079 rfl (zz_ltn hn rfl) (fun S7 qS7 => ?_)
        have G_S7 := zz_G.put G_S0 qS7 0 3 rfl (by omega)
        have F_S7 := zz_fr.puts F_S0 qS7 rfl
        refine zz_aload_n (x := 1079) rfl zd_14_3_29 ?_
        refine zz_geti (z := 3) zd_14_3_30 zf_Md_187 zT_1079 rfl (zz_ltn hn rfl) (zz_rs qS7) ?_
        refine zz_if_le (by omega) zd_14_3_33 (fun c8 => ?_) (fun c8 => ?_)
        · exfalso; omega
        · refine zz_iconst zd_14_3_36 ?_
          refine zz_goto zd_14_3_37 ?_
          have e9 : S7 1079 0 = 3 := (zz_rs qS7)
          exact zz_zret zd_14_3_41 rfl (by omega) (Nat.zero_le _) (Nat.zero_le _) ⟨_, _, rfl, G_S7, F_S7, by omega, by omega⟩
    · refine zz_iconst zd_14_3_13 ?_
      refine zz_goto zd_14_3_14 ?_
      refine zz_puti zd_14_3_26 zf_Md_187 zT_1079 rfl (zz_ltn hn rfl) (fun S10 qS10 => ?_)
      have G_S10 := zz_G.put G_S0 qS10 0 3 rfl (by omega)
      have F_S10 := zz_fr.puts F_S0 qS10 rfl
      refine zz_aload_n (x := 1079) rfl zd_14_3_29 ?_
      refine zz_geti (z := 2) zd_14_3_30 zf_Md_187 zT_1079 rfl (zz_ltn hn rfl) (zz_rs qS10) ?_
      refine zz_if_le (by omega) zd_14_3_33 (fun c11 => ?_) (fun c11 => ?_)
      · exfalso; omega
      · refine zz_iconst zd_14_3_36 ?_
        refine zz_goto zd_14_3_37 ?_
        have e12 : S10 1079 0 = 2 := (zz_rs qS10)
        exact zz_zret zd_14_3_41 rfl (by omega) (Nat.zero_le _) (Nat.zero_le _) ⟨_, _, rfl, G_S10, F_S10, by omega, by omega⟩
  · refine zz_iconst zd_14_3_5 ?_
    refine zz_goto zd_14_3_6 ?_
    refine zz_puti zd_14_3_26 zf_Md_187 zT_1079 rfl (zz_ltn hn rfl) (fun S13 qS13 => ?_)
    have G_S13 := zz_G.put G_S0 qS13 0 3 rfl (by omega)
    have F_S13 := zz_fr.puts F_S0 qS13 rfl
    refine zz_aload_n (x := 1079) rfl zd_14_3_29 ?_
    refine zz_geti (z := 1) zd_14_3_30 zf_Md_187 zT_1079 rfl (zz_ltn hn rfl) (zz_rs qS13) ?_
    refine zz_if_le (by omega) zd_14_3_33 (fun c14 => ?_) (fun c14 => ?_)
    · exfalso; omega
    · refine zz_iconst zd_14_3_36 ?_
      refine zz_goto zd_14_3_37 ?_
      have e15 : S13 1079 0 = 1 := (zz_rs qS13)
      exact zz_zret zd_14_3_41 rfl (by omega) (Nat.zero_le _) (Nat.zero_le _) ⟨_, _, rfl, G_S13, F_S13, by omega, by omega⟩
abbrev zy_in_14_4 : mm_Y := (⟨"TensorForgeModel", "in", "(JJJ)Z"⟩, prog_14_method_4_code, 6, (some .boolean))
theorem zyw_in_14_4 : mm_Yw zy_in_14_4 3 := ⟨mm_tb_1 1831 (by decide +kernel) rfl, mm_tb_1 12 (by decide +kernel) rfl, ⟨by decide, by decide⟩, by decide +kernel⟩
theorem zd_14_4_0 : zz_D zy_in_14_4 0 (.lload_n 0) 1 1 := ⟨by decide +kernel, rfl⟩
theorem zd_14_4_1 : zz_D zy_in_14_4 1 (.lload_n 2) 1 2 := ⟨by decide +kernel, rfl⟩
theorem zd_14_4_2 : zz_D zy_in_14_4 2 (.lcmp) 1 3 := ⟨by decide +kernel, rfl⟩
theorem zd_14_4_3 : zz_B zy_in_14_4 3 (Instr.ifCond .lt) 17 6 := ⟨14, by decide +kernel, rfl, rfl⟩
theorem zd_14_4_17 : zz_D zy_in_14_4 17 (.iconst 0) 1 18 := ⟨by decide +kernel, rfl⟩
theorem zd_14_4_18 : zz_D zy_in_14_4 18 (.ireturn) 1 19 := ⟨by decide +kernel, rfl⟩
theorem zd_14_4_6 : zz_D zy_in_14_4 6 (.lload_n 0) 1 7 := ⟨by decide +kernel, rfl⟩
theorem zd_14_4_7 : zz_D zy_in_14_4 7 (.lload 4) 2 9 := ⟨by decide +kernel, rfl⟩
theorem zd_14_4_9 : zz_D zy_in_14_4 9 (.lcmp) 1 10 := ⟨by decide +kernel, rfl⟩
theorem zd_14_4_10 : zz_B zy_in_14_4 10 (Instr.ifCond .gt) 17 13 := ⟨7, by decide +kernel, rfl, rfl⟩
theorem zd_14_4_13 : zz_D zy_in_14_4 13 (.iconst 1) 1 14 := ⟨by decide +kernel, rfl⟩
theorem zd_14_4_14 : zz_B zy_in_14_4 14 Instr.goto 18 17 := ⟨4, by decide +kernel, rfl, rfl⟩
-- TensorForgeModel in (JJJ)Z
abbrev zr_in_14_4 : Room := { frames := 0, cells := 0, slots := 0, locals := 0 }
def zp_in_14_4 (p0 : Int) (p1 : Int) (p2 : Int) (S0 : zz_S) : Int → zz_S → Prop := fun r S => S0 = S ∧ (0 ≤ r ∧ r ≤ 1) ∧ ((r = 1 ∧ p1 ≤ p0 ∧ p0 ≤ p2) ∨ (r = 0 ∧ (p0 < p1 ∨ p2 < p0)))
theorem zc_in_14_4 {g : mm_G} {l : Launch} (p0 : Int) (p1 : Int) (p2 : Int) (S0 : zz_S) (n : Nat) (hn : zz_end ≤ n) (G_S0 : zz_G S0) (hp0 : (-9223372036854775808) ≤ p0 ∧ p0 ≤ 9223372036854775807) (hp1 : (-9223372036854775808) ≤ p1 ∧ p1 ≤ 9223372036854775807) (hp2 : (-9223372036854775808) ≤ p2 ∧ p2 ≤ 9223372036854775807) : mm_Met g l zy_in_14_4 zr_in_14_4 [zl p0, zl p1, zl p2] (zz_M S0 n) n (zz_QI n (zp_in_14_4 p0 p1 p2 S0)) := by
  refine zz_enter (by decide) (Nat.le_of_ble_eq_true rfl) (zz_less (ls1 := [some (zl p0), none, some (zl p1), none, some (zl p2), none]) ⟨rfl, ⟨rfl, ⟨rfl, trivial⟩⟩⟩ ?_)
  refine zz_lload_n (x := p0) rfl zd_14_4_0 ?_
  refine zz_lload_n (x := p1) rfl zd_14_4_1 ?_
  refine zz_lcmp (by omega) (by omega) zd_14_4_2 (fun v1 hv1 => ?_)
  refine zz_if_lt (by omega) zd_14_4_3 (fun c2 => ?_) (fun c2 => ?_)
  · refine zz_iconst zd_14_4_17 ?_
    exact zz_zret zd_14_4_18 rfl (by omega) (Nat.zero_le _) (Nat.zero_le _) ⟨_, _, rfl, rfl, by omega, by omega⟩
  · refine zz_lload_n (x := p0) rfl zd_14_4_6 ?_
    refine zz_lload (x := p2) rfl zd_14_4_7 ?_
    refine zz_lcmp (by omega) (by omega) zd_14_4_9 (fun v3 hv3 => ?_)
    refine zz_if_gt (by omega) zd_14_4_10 (fun c4 => ?_) (fun c4 => ?_)
    · refine zz_iconst zd_14_4_17 ?_
      exact zz_zret zd_14_4_18 rfl (by omega) (Nat.zero_le _) (Nat.zero_le _) ⟨_, _, rfl, rfl, by omega, by omega⟩
    · refine zz_iconst zd_14_4_13 ?_
      refine zz_goto zd_14_4_14 ?_
      exact zz_zret zd_14_4_18 rfl (by omega) (Nat.zero_le _) (Nat.zero_le _) ⟨_, _, rfl, rfl, by omega, by omega⟩
abbrev zy_form_14_5 : mm_Y := (⟨"TensorForgeModel", "form", "(III)V"⟩, prog_14_method_5_code, 4, none)
theorem zyw_form_14_5 : mm_Yw zy_form_14_5 3 := ⟨mm_tb_1 1610 (by decide +kernel) rfl, mm_tb_1 12 (by decide +kernel) rfl, ⟨by decide, by decide⟩, by decide +kernel⟩
theorem zd_14_5_0 : zz_D zy_form_14_5 0 (.aload_n 0) 1 1 := ⟨by decide +kernel, rfl⟩
theorem zd_14_5_1 : zz_D zy_form_14_5 1 (.getfield 88) 3 4 := ⟨by decide +kernel, rfl⟩
theorem zf_Md_88 : mm_Fl "TensorForgeModel" 88 11 37 (.array .int) true := ⟨R_Md, F_Md, 69, t_Md, rfl, i_Md, by decide, mm_tb_1 1648 (by decide +kernel) rfl, rfl, t_Md_ok, n_Md, rfl, by decide +kernel⟩
theorem zd_14_5_4 : zz_D zy_form_14_5 4 (.iconst 0) 1 5 := ⟨by decide +kernel, rfl⟩
theorem zd_14_5_5 : zz_D zy_form_14_5 5 (.iload_n 1) 1 6 := ⟨by decide +kernel, rfl⟩
theorem zd_14_5_6 : zz_D zy_form_14_5 6 (.iastore) 1 7 := ⟨by decide +kernel, rfl⟩
theorem zd_14_5_7 : zz_D zy_form_14_5 7 (.aload_n 0) 1 8 := ⟨by decide +kernel, rfl⟩
theorem zd_14_5_8 : zz_D zy_form_14_5 8 (.getfield 91) 3 11 := ⟨by decide +kernel, rfl⟩
theorem zf_Md_91 : mm_Fl "TensorForgeModel" 91 11 38 (.array .int) true := ⟨R_Md, F_Md, 69, t_Md, rfl, i_Md, by decide, mm_tb_1 1649 (by decide +kernel) rfl, rfl, t_Md_ok, n_Md, rfl, by decide +kernel⟩
theorem zd_14_5_11 : zz_D zy_form_14_5 11 (.iconst 0) 1 12 := ⟨by decide +kernel, rfl⟩
theorem zd_14_5_12 : zz_D zy_form_14_5 12 (.iload_n 2) 1 13 := ⟨by decide +kernel, rfl⟩
theorem zd_14_5_13 : zz_D zy_form_14_5 13 (.iastore) 1 14 := ⟨by decide +kernel, rfl⟩
theorem zd_14_5_14 : zz_D zy_form_14_5 14 (.aload_n 0) 1 15 := ⟨by decide +kernel, rfl⟩
theorem zd_14_5_15 : zz_D zy_form_14_5 15 (.getfield 94) 3 18 := ⟨by decide +kernel, rfl⟩
theorem zf_Md_94 : mm_Fl "TensorForgeModel" 94 11 39 (.array .int) true := ⟨R_Md, F_Md, 69, t_Md, rfl, i_Md, by decide, mm_tb_1 1650 (by decide +kernel) rfl, rfl, t_Md_ok, n_Md, rfl, by decide +kernel⟩
theorem zd_14_5_18 : zz_D zy_form_14_5 18 (.iconst 0) 1 19 := ⟨by decide +kernel, rfl⟩
theorem zd_14_5_19 : zz_D zy_form_14_5 19 (.iload_n 3) 1 20 := ⟨by decide +kernel, rfl⟩
theorem zd_14_5_20 : zz_D zy_form_14_5 20 (.iastore) 1 21 := ⟨by decide +kernel, rfl⟩
theorem zd_14_5_21 : zz_D zy_form_14_5 21 (.aload_n 0) 1 22 := ⟨by decide +kernel, rfl⟩
theorem zd_14_5_22 : zz_D zy_form_14_5 22 (.getfield 97) 3 25 := ⟨by decide +kernel, rfl⟩
theorem zf_Md_97 : mm_Fl "TensorForgeModel" 97 11 40 (.array .int) true := ⟨R_Md, F_Md, 69, t_Md, rfl, i_Md, by decide, mm_tb_1 1651 (by decide +kernel) rfl, rfl, t_Md_ok, n_Md, rfl, by decide +kernel⟩
theorem zd_14_5_25 : zz_D zy_form_14_5 25 (.iconst 0) 1 26 := ⟨by decide +kernel, rfl⟩
theorem zd_14_5_26 : zz_D zy_form_14_5 26 (.iconst 0) 1 27 := ⟨by decide +kernel, rfl⟩
theorem zd_14_5_27 : zz_D zy_form_14_5 27 (.iastore) 1 28 := ⟨by decide +kernel, rfl⟩
theorem zd_14_5_28 : zz_D zy_form_14_5 28 (.aload_n 0) 1 29 := ⟨by decide +kernel, rfl⟩
theorem zd_14_5_29 : zz_D zy_form_14_5 29 (.getfield 97) 3 32 := ⟨by decide +kernel, rfl⟩
theorem zd_14_5_32 : zz_D zy_form_14_5 32 (.iconst 1) 1 33 := ⟨by decide +kernel, rfl⟩
theorem zd_14_5_33 : zz_D zy_form_14_5 33 (.iload_n 1) 1 34 := ⟨by decide +kernel, rfl⟩
theorem zd_14_5_34 : zz_D zy_form_14_5 34 (.iload_n 2) 1 35 := ⟨by decide +kernel, rfl⟩
theorem zd_14_5_35 : zz_D zy_form_14_5 35 (.imul) 1 36 := ⟨by decide +kernel, rfl⟩
theorem zd_14_5_36 : zz_D zy_form_14_5 36 (.iload_n 3) 1 37 := ⟨by decide +kernel, rfl⟩
theorem zd_14_5_37 : zz_D zy_form_14_5 37 (.imul) 1 38 := ⟨by decide +kernel, rfl⟩
theorem zd_14_5_38 : zz_D zy_form_14_5 38 (.iastore) 1 39 := ⟨by decide +kernel, rfl⟩
theorem zd_14_5_39 : zz_D zy_form_14_5 39 (.aload_n 0) 1 40 := ⟨by decide +kernel, rfl⟩
theorem zd_14_5_40 : zz_D zy_form_14_5 40 (.iconst 1) 1 41 := ⟨by decide +kernel, rfl⟩
theorem zd_14_5_41 : zz_D zy_form_14_5 41 (.putfield 85) 3 44 := ⟨by decide +kernel, rfl⟩
theorem zf_Md_85 : mm_Fl "TensorForgeModel" 85 11 36 .int false := ⟨R_Md, F_Md, 69, t_Md, rfl, i_Md, by decide, mm_tb_1 1647 (by decide +kernel) rfl, rfl, t_Md_ok, n_Md, rfl, by decide +kernel⟩
theorem zd_14_5_44 : zz_D zy_form_14_5 44 (.return_) 1 45 := ⟨by decide +kernel, rfl⟩
-- TensorForgeModel form (III)V
abbrev zr_form_14_5 : Room := { frames := 0, cells := 0, slots := 0, locals := 0 }
def zp_form_14_5 (p0 : Int) (p1 : Int) (p2 : Int) (S0 : zz_S) : zz_S → Prop := fun S => zz_G S ∧ zz_fr [(1079, 36)] [1102, 1103, 1104, 1105] (fun _ _ => False) S0 S
theorem zc_form_14_5 {g : mm_G} {l : Launch} (p0 : Int) (p1 : Int) (p2 : Int) (S0 : zz_S) (n : Nat) (hn : zz_end ≤ n) (G_S0 : zz_G S0) (hp0 : 1 ≤ p0 ∧ p0 ≤ 63) (hp1 : 1 ≤ p1 ∧ p1 ≤ 63) (hp2 : 1 ≤ p2 ∧ p2 ≤ 63) : mm_Met g l zy_form_14_5 zr_form_14_5 [.ref 1079, zi p0, zi p1, zi p2] (zz_M S0 n) n (zz_QV n (zp_form_14_5 p0 p1 p2 S0)) := by
  refine zz_enter (by decide) (Nat.le_of_ble_eq_true rfl) (zz_less (ls1 := [some (.ref 1079), some (zi p0), some (zi p1), some (zi p2)]) ⟨rfl, ⟨rfl, ⟨rfl, ⟨rfl, trivial⟩⟩⟩⟩ ?_)
  have F_S0 : zz_fr [(1079, 36)] [1102, 1103, 1104, 1105] (fun _ _ => False) S0 S0 := zz_fr.refl
  refine zz_aload_n (x := 1079) rfl zd_14_5_0 ?_
  refine zz_getr (kd := 0) (z := 1102) zd_14_5_1 zf_Md_88 zT_1079 rfl (zz_ltn hn rfl) (zz_G.eq G_S0 1079 37 1102 rfl rfl) (by decide) 1102 rfl ?_
  refine zz_iconst zd_14_5_4 ?_
  refine zz_iload_n (x := p0) rfl zd_14_5_5 ?_
  refine zz_iast zd_14_5_6 zT_1102 rfl (zz_ltn hn rfl) (by decide) (by decide) (fun S1 qS1 => ?_)
  have G_S1 := zz_G.put G_S0 qS1 0 63 rfl (by omega)
  have F_S1 := zz_fr.putc F_S0 qS1 rfl
  refine zz_aload_n (x := 1079) rfl zd_14_5_7 ?_
  refine zz_getr (kd := 0) (z := 1103) zd_14_5_8 zf_Md_91 zT_1079 rfl (zz_ltn hn rfl) (zz_G.eq G_S1 1079 38 1103 rfl rfl) (by decide) 1103 rfl ?_
  refine zz_iconst zd_14_5_11 ?_
  refine zz_iload_n (x := p1) rfl zd_14_5_12 ?_
  refine zz_iast zd_14_5_13 zT_1103 rfl (zz_ltn hn rfl) (by decide) (by decide) (fun S2 qS2 => ?_)
  have G_S2 := zz_G.put G_S1 qS2 0 63 rfl (by omega)
  have F_S2 := zz_fr.putc F_S1 qS2 rfl
  refine zz_aload_n (x := 1079) rfl zd_14_5_14 ?_
  refine zz_getr (kd := 0) (z := 1104) zd_14_5_15 zf_Md_94 zT_1079 rfl (zz_ltn hn rfl) (zz_G.eq G_S2 1079 39 1104 rfl rfl) (by decide) 1104 rfl ?_
  refine zz_iconst zd_14_5_18 ?_
  refine zz_iload_n (x := p2) rfl zd_14_5_19 ?_
  refine zz_iast zd_14_5_20 zT_1104 rfl (zz_ltn hn rfl) (by decide) (by decide) (fun S3 qS3 => ?_)
  have G_S3 := zz_G.put G_S2 qS3 0 63 rfl (by omega)
  have F_S3 := zz_fr.putc F_S2 qS3 rfl
  refine zz_aload_n (x := 1079) rfl zd_14_5_21 ?_
  refine zz_getr (kd := 0) (z := 1105) zd_14_5_22 zf_Md_97 zT_1079 rfl (zz_ltn hn rfl) (zz_G.eq G_S3 1079 40 1105 rfl rfl) (by decide) 1105 rfl ?_
  refine zz_iconst zd_14_5_25 ?_
  refine zz_iconst zd_14_5_26 ?_
  refine zz_iast zd_14_5_27 zT_1105 rfl (zz_ltn hn rfl) (by decide) (by decide) (fun S4 qS4 => ?_)
  have G_S4 := zz_G.put G_S3 qS4 0 0 rfl (by omega)
  have F_S4 := zz_fr.putc F_S3 qS4 rfl
  refine zz_aload_n (x := 1079) rfl zd_14_5_28 ?_
  refine zz_getr (kd := 0) (z := 1105) zd_14_5_29 zf_Md_97 zT_1079 rfl (zz_ltn hn rfl) (zz_G.eq G_S4 1079 40 1105 rfl rfl) (by decide) 1105 rfl ?_
  refine zz_iconst zd_14_5_32 ?_
  refine zz_iload_n (x := p0) rfl zd_14_5_33 ?_
  refine zz_iload_n (x := p1) rfl zd_14_5_34 ?_
  refine zz_imul zd_14_5_35 ?_
  have m5 := zz_mulb (a := p0) (b := p1) 63 63 3969 (by omega) (by omega) (by decide)
  refine zz_iload_n (x := p2) rfl zd_14_5_36 ?_
  refine zz_imul zd_14_5_37 ?_
  have m6 := zz_mulb (a := p0 * p1) (b := p2) 3969 63 250047 (by omega) (by omega) (by decide)
  refine zz_iast zd_14_5_38 zT_1105 rfl (zz_ltn hn rfl) (by decide) (by decide) (fun S7 qS7 => ?_)
  have G_S7 := zz_G.put G_S4 qS7 0 10000000 rfl (by omega)
  have F_S7 := zz_fr.putc F_S4 qS7 rfl
  refine zz_aload_n (x := 1079) rfl zd_14_5_39 ?_
  refine zz_iconst zd_14_5_40 ?_
  refine zz_puti zd_14_5_41 zf_Md_85 zT_1079 rfl (zz_ltn hn rfl) (fun S8 qS8 => ?_)
  have G_S8 := zz_G.put G_S7 qS8 0 11 rfl (by omega)
  have F_S8 := zz_fr.puts F_S7 qS8 rfl
  exact zz_vret zd_14_5_44 rfl (Nat.zero_le _) (Nat.zero_le _) ⟨_, rfl, G_S8, F_S8⟩
abbrev zy_side_14_6 : mm_Y := (⟨"TensorForgeModel", "side", "(I)V"⟩, prog_14_method_6_code, 3, none)
theorem zyw_side_14_6 : mm_Yw zy_side_14_6 1 := ⟨mm_tb_1 1827 (by decide +kernel) rfl, mm_tb_1 12 (by decide +kernel) rfl, ⟨by decide, by decide⟩, by decide +kernel⟩
theorem zd_14_6_0 : zz_D zy_side_14_6 0 (.aload_n 0) 1 1 := ⟨by decide +kernel, rfl⟩
theorem zd_14_6_1 : zz_D zy_side_14_6 1 (.iload_n 1) 1 2 := ⟨by decide +kernel, rfl⟩
theorem zd_14_6_2 : zz_D zy_side_14_6 2 (.i2l) 1 3 := ⟨by decide +kernel, rfl⟩
theorem zd_14_6_3 : zz_D zy_side_14_6 3 (.ldc2_w 169) 3 6 := ⟨by decide +kernel, rfl⟩
theorem zq_Md_169 : Cond.constantLong "TensorForgeModel" 169 (2 : Int64) ∈ mm_tb := mm_tb_1 1600 (by decide +kernel) rfl
theorem zd_14_6_6 : zz_D zy_side_14_6 6 (.ldc2_w 190) 3 9 := ⟨by decide +kernel, rfl⟩
theorem zq_Md_190 : Cond.constantLong "TensorForgeModel" 190 (8 : Int64) ∈ mm_tb := mm_tb_1 1828 (by decide +kernel) rfl
theorem zd_14_6_9 : zz_D zy_side_14_6 9 (.invokestatic 192) 3 12 := ⟨by decide +kernel, rfl⟩
theorem zk_Md_192 : mm_Sl "TensorForgeModel" 192 3 zy_in_14_4 := ⟨zyw_in_14_4, mm_tb_1 1829 (by decide +kernel) rfl, mm_tb_1 1830 (by decide +kernel) rfl⟩
theorem zd_14_6_12 : zz_B zy_side_14_6 12 (Instr.ifCond .ne) 19 15 := ⟨7, by decide +kernel, rfl, rfl⟩
theorem zd_14_6_15 : zz_D zy_side_14_6 15 (.iconst 1) 1 16 := ⟨by decide +kernel, rfl⟩
theorem zd_14_6_16 : zz_B zy_side_14_6 16 Instr.goto 20 19 := ⟨4, by decide +kernel, rfl, rfl⟩
theorem zd_14_6_20 : zz_D zy_side_14_6 20 (.iconst 0) 1 21 := ⟨by decide +kernel, rfl⟩
theorem zd_14_6_21 : zz_D zy_side_14_6 21 (.iconst 0) 1 22 := ⟨by decide +kernel, rfl⟩
theorem zd_14_6_22 : zz_D zy_side_14_6 22 (.invokevirtual 196) 3 25 := ⟨by decide +kernel, rfl⟩
theorem zk_Md_196 : mm_Vl "TensorForgeModel" 196 11 3 zy_refuse_14_3 := ⟨zyw_refuse_14_3, (R_Md, F_Md, 69), rfl, mm_tb_1 1832 (by decide +kernel) rfl, mm_tb_1 1834 (by decide +kernel) rfl, mm_tb_s 86 (by decide +kernel) rfl⟩
theorem zd_14_6_25 : zz_B zy_side_14_6 25 (Instr.ifCond .eq) 29 28 := ⟨4, by decide +kernel, rfl, rfl⟩
theorem zd_14_6_28 : zz_D zy_side_14_6 28 (.return_) 1 29 := ⟨by decide +kernel, rfl⟩
theorem zd_14_6_19 : zz_D zy_side_14_6 19 (.iconst 0) 1 20 := ⟨by decide +kernel, rfl⟩
theorem zd_14_6_29 : zz_D zy_side_14_6 29 (.aload_n 0) 1 30 := ⟨by decide +kernel, rfl⟩
theorem zd_14_6_30 : zz_D zy_side_14_6 30 (.iload_n 1) 1 31 := ⟨by decide +kernel, rfl⟩
theorem zd_14_6_31 : zz_D zy_side_14_6 31 (.putfield 7) 3 34 := ⟨by decide +kernel, rfl⟩
theorem zf_Md_7 : mm_Fl "TensorForgeModel" 7 11 1 .int false := ⟨R_Md, F_Md, 69, t_Md, rfl, i_Md, by decide, mm_tb_1 1612 (by decide +kernel) rfl, rfl, t_Md_ok, n_Md, rfl, by decide +kernel⟩
theorem zd_14_6_34 : zz_D zy_side_14_6 34 (.aload_n 0) 1 35 := ⟨by decide +kernel, rfl⟩
theorem zd_14_6_35 : zz_D zy_side_14_6 35 (.iconst 1) 1 36 := ⟨by decide +kernel, rfl⟩
theorem zd_14_6_36 : zz_D zy_side_14_6 36 (.putfield 85) 3 39 := ⟨by decide +kernel, rfl⟩
theorem zd_14_6_39 : zz_D zy_side_14_6 39 (.aload_n 0) 1 40 := ⟨by decide +kernel, rfl⟩
theorem zd_14_6_40 : zz_D zy_side_14_6 40 (.getfield 97) 3 43 := ⟨by decide +kernel, rfl⟩
theorem zd_14_6_43 : zz_D zy_side_14_6 43 (.iconst 1) 1 44 := ⟨by decide +kernel, rfl⟩
theorem zd_14_6_44 : zz_D zy_side_14_6 44 (.aload_n 0) 1 45 := ⟨by decide +kernel, rfl⟩
theorem zd_14_6_45 : zz_D zy_side_14_6 45 (.iconst 0) 1 46 := ⟨by decide +kernel, rfl⟩
theorem zd_14_6_46 : zz_D zy_side_14_6 46 (.invokevirtual 200) 3 49 := ⟨by decide +kernel, rfl⟩
abbrev zy_sizeOf_14_90 : mm_Y := (⟨"TensorForgeModel", "sizeOf", "(I)I"⟩, prog_14_method_90_code, 2, (some .int))
theorem zyw_sizeOf_14_90 : mm_Yw zy_sizeOf_14_90 1 := ⟨mm_tb_1 1839 (by decide +kernel) rfl, mm_tb_1 12 (by decide +kernel) rfl, ⟨by decide, by decide⟩, by decide +kernel⟩
theorem zd_14_90_0 : zz_D zy_sizeOf_14_90 0 (.aload_n 0) 1 1 := ⟨by decide +kernel, rfl⟩
theorem zd_14_90_1 : zz_D zy_sizeOf_14_90 1 (.getfield 88) 3 4 := ⟨by decide +kernel, rfl⟩
theorem zd_14_90_4 : zz_D zy_sizeOf_14_90 4 (.iload_n 1) 1 5 := ⟨by decide +kernel, rfl⟩
theorem zd_14_90_5 : zz_D zy_sizeOf_14_90 5 (.iaload) 1 6 := ⟨by decide +kernel, rfl⟩
theorem zd_14_90_6 : zz_D zy_sizeOf_14_90 6 (.aload_n 0) 1 7 := ⟨by decide +kernel, rfl⟩
theorem zd_14_90_7 : zz_D zy_sizeOf_14_90 7 (.getfield 91) 3 10 := ⟨by decide +kernel, rfl⟩
theorem zd_14_90_10 : zz_D zy_sizeOf_14_90 10 (.iload_n 1) 1 11 := ⟨by decide +kernel, rfl⟩
theorem zd_14_90_11 : zz_D zy_sizeOf_14_90 11 (.iaload) 1 12 := ⟨by decide +kernel, rfl⟩
theorem zd_14_90_12 : zz_D zy_sizeOf_14_90 12 (.imul) 1 13 := ⟨by decide +kernel, rfl⟩
theorem zd_14_90_13 : zz_D zy_sizeOf_14_90 13 (.aload_n 0) 1 14 := ⟨by decide +kernel, rfl⟩
theorem zd_14_90_14 : zz_D zy_sizeOf_14_90 14 (.getfield 94) 3 17 := ⟨by decide +kernel, rfl⟩
theorem zd_14_90_17 : zz_D zy_sizeOf_14_90 17 (.iload_n 1) 1 18 := ⟨by decide +kernel, rfl⟩
theorem zd_14_90_18 : zz_D zy_sizeOf_14_90 18 (.iaload) 1 19 := ⟨by decide +kernel, rfl⟩
theorem zd_14_90_19 : zz_D zy_sizeOf_14_90 19 (.imul) 1 20 := ⟨by decide +kernel, rfl⟩
theorem zd_14_90_20 : zz_D zy_sizeOf_14_90 20 (.ireturn) 1 21 := ⟨by decide +kernel, rfl⟩
-- TensorForgeModel sizeOf (I)I
abbrev zr_sizeOf_14_90 : Room := { frames := 0, cells := 0, slots := 0, locals := 0 }
def zp_sizeOf_14_90 (p0 : Int) (S0 : zz_S) : Int → zz_S → Prop := fun r S => S0 = S ∧ (0 ≤ r ∧ r ≤ 250047) ∧ (r = (S0 1102 p0.toNat * S0 1103 p0.toNat) * S0 1104 p0.toNat)
theorem zc_sizeOf_14_90 {g : mm_G} {l : Launch} (p0 : Int) (S0 : zz_S) (n : Nat) (hn : zz_end ≤ n) (G_S0 : zz_G S0) (hp0 : 0 ≤ p0 ∧ p0 ≤ 10) : mm_Met g l zy_sizeOf_14_90 zr_sizeOf_14_90 [.ref 1079, zi p0] (zz_M S0 n) n (zz_QI n (zp_sizeOf_14_90 p0 S0)) := by
  refine zz_enter (by decide) (Nat.le_of_ble_eq_true rfl) (zz_less (ls1 := [some (.ref 1079), some (zi p0)]) ⟨rfl, ⟨rfl, trivial⟩⟩ ?_)
  refine zz_aload_n (x := 1079) rfl zd_14_90_0 ?_
  refine zz_getr (kd := 0) (z := 1102) zd_14_90_1 zf_Md_88 zT_1079 rfl (zz_ltn hn rfl) (zz_G.eq G_S0 1079 37 1102 rfl rfl) (by decide) 1102 rfl ?_
  refine zz_iload_n (x := p0) rfl zd_14_90_4 ?_
  have g1 := zz_G.r G_S0 1102 p0.toNat 0 63 rfl rfl
  refine zz_iald (z := S0 1102 p0.toNat) zd_14_90_5 zT_1102 rfl (zz_ltn hn rfl) (by decide) (by omega) rfl ?_
  refine zz_aload_n (x := 1079) rfl zd_14_90_6 ?_
  refine zz_getr (kd := 0) (z := 1103) zd_14_90_7 zf_Md_91 zT_1079 rfl (zz_ltn hn rfl) (zz_G.eq G_S0 1079 38 1103 rfl rfl) (by decide) 1103 rfl ?_
  refine zz_iload_n (x := p0) rfl zd_14_90_10 ?_
  have g2 := zz_G.r G_S0 1103 p0.toNat 0 63 rfl rfl
  refine zz_iald (z := S0 1103 p0.toNat) zd_14_90_11 zT_1103 rfl (zz_ltn hn rfl) (by decide) (by omega) rfl ?_
  refine zz_imul zd_14_90_12 ?_
  have m3 := zz_mulb (a := S0 1102 p0.toNat) (b := S0 1103 p0.toNat) 63 63 3969 (by omega) (by omega) (by decide)
  refine zz_aload_n (x := 1079) rfl zd_14_90_13 ?_
  refine zz_getr (kd := 0) (z := 1104) zd_14_90_14 zf_Md_94 zT_1079 rfl (zz_ltn hn rfl) (zz_G.eq G_S0 1079 39 1104 rfl rfl) (by decide) 1104 rfl ?_
  refine zz_iload_n (x := p0) rfl zd_14_90_17 ?_
  have g4 := zz_G.r G_S0 1104 p0.toNat 0 63 rfl rfl
  refine zz_iald (z := S0 1104 p0.toNat) zd_14_90_18 zT_1104 rfl (zz_ltn hn rfl) (by decide) (by omega) rfl ?_
  refine zz_imul zd_14_90_19 ?_
  have m5 := zz_mulb (a := (S0 1102 p0.toNat) * (S0 1103 p0.toNat)) (b := S0 1104 p0.toNat) 3969 63 250047 (by omega) (by omega) (by decide)
  refine zz_nme (fun v6 ev6 => ?_)
  exact zz_iret zd_14_90_20 rfl (Nat.zero_le _) (Nat.zero_le _) ⟨_, _, rfl, rfl, by omega, by omega⟩
theorem zk_Md_200 : mm_Vl "TensorForgeModel" 200 11 1 zy_sizeOf_14_90 := ⟨zyw_sizeOf_14_90, (R_Md, F_Md, 69), rfl, mm_tb_1 1836 (by decide +kernel) rfl, mm_tb_1 1838 (by decide +kernel) rfl, mm_tb_s 87 (by decide +kernel) rfl⟩
theorem zd_14_6_49 : zz_D zy_side_14_6 49 (.iastore) 1 50 := ⟨by decide +kernel, rfl⟩
theorem zd_14_6_50 : zz_D zy_side_14_6 50 (.iconst 0) 1 51 := ⟨by decide +kernel, rfl⟩
theorem zd_14_6_51 : zz_D zy_side_14_6 51 (.istore_n 2) 1 52 := ⟨by decide +kernel, rfl⟩
theorem zd_14_6_52 : zz_D zy_side_14_6 52 (.iload_n 2) 1 53 := ⟨by decide +kernel, rfl⟩
theorem zd_14_6_53 : zz_D zy_side_14_6 53 (.sipush 512) 3 56 := ⟨by decide +kernel, rfl⟩
theorem zd_14_6_56 : zz_B zy_side_14_6 56 (Instr.if_icmp .ge) 100 59 := ⟨44, by decide +kernel, rfl, rfl⟩
theorem zd_14_6_100 : zz_D zy_side_14_6 100 (.return_) 1 101 := ⟨by decide +kernel, rfl⟩
theorem zd_14_6_59 : zz_D zy_side_14_6 59 (.aload_n 0) 1 60 := ⟨by decide +kernel, rfl⟩
theorem zd_14_6_60 : zz_D zy_side_14_6 60 (.getfield 17) 3 63 := ⟨by decide +kernel, rfl⟩
theorem zf_Md_17 : mm_Fl "TensorForgeModel" 17 11 3 (.array .int) true := ⟨R_Md, F_Md, 69, t_Md, rfl, i_Md, by decide, mm_tb_1 1614 (by decide +kernel) rfl, rfl, t_Md_ok, n_Md, rfl, by decide +kernel⟩
theorem zd_14_6_63 : zz_D zy_side_14_6 63 (.iload_n 2) 1 64 := ⟨by decide +kernel, rfl⟩
theorem zd_14_6_64 : zz_D zy_side_14_6 64 (.iconst 0) 1 65 := ⟨by decide +kernel, rfl⟩
theorem zd_14_6_65 : zz_D zy_side_14_6 65 (.iastore) 1 66 := ⟨by decide +kernel, rfl⟩
theorem zd_14_6_66 : zz_D zy_side_14_6 66 (.aload_n 0) 1 67 := ⟨by decide +kernel, rfl⟩
theorem zd_14_6_67 : zz_D zy_side_14_6 67 (.getfield 20) 3 70 := ⟨by decide +kernel, rfl⟩
theorem zf_Md_20 : mm_Fl "TensorForgeModel" 20 11 4 (.array .int) true := ⟨R_Md, F_Md, 69, t_Md, rfl, i_Md, by decide, mm_tb_1 1615 (by decide +kernel) rfl, rfl, t_Md_ok, n_Md, rfl, by decide +kernel⟩
theorem zd_14_6_70 : zz_D zy_side_14_6 70 (.iload_n 2) 1 71 := ⟨by decide +kernel, rfl⟩
theorem zd_14_6_71 : zz_D zy_side_14_6 71 (.iconst 0) 1 72 := ⟨by decide +kernel, rfl⟩
theorem zd_14_6_72 : zz_D zy_side_14_6 72 (.iastore) 1 73 := ⟨by decide +kernel, rfl⟩
theorem zd_14_6_73 : zz_D zy_side_14_6 73 (.iload_n 2) 1 74 := ⟨by decide +kernel, rfl⟩
theorem zd_14_6_74 : zz_D zy_side_14_6 74 (.sipush 256) 3 77 := ⟨by decide +kernel, rfl⟩
theorem zd_14_6_77 : zz_B zy_side_14_6 77 (Instr.if_icmp .ge) 94 80 := ⟨17, by decide +kernel, rfl, rfl⟩
theorem zd_14_6_94 : zz_D zy_side_14_6 94 (.iinc 2 1) 3 97 := ⟨by decide +kernel, rfl⟩
theorem zd_14_6_97 : zz_B zy_side_14_6 97 Instr.goto 52 100 := ⟨(-45), by decide +kernel, rfl, rfl⟩
theorem zd_14_6_80 : zz_D zy_side_14_6 80 (.aload_n 0) 1 81 := ⟨by decide +kernel, rfl⟩
theorem zd_14_6_81 : zz_D zy_side_14_6 81 (.getfield 23) 3 84 := ⟨by decide +kernel, rfl⟩
theorem zf_Md_23 : mm_Fl "TensorForgeModel" 23 11 5 (.array .int) true := ⟨R_Md, F_Md, 69, t_Md, rfl, i_Md, by decide, mm_tb_1 1616 (by decide +kernel) rfl, rfl, t_Md_ok, n_Md, rfl, by decide +kernel⟩
theorem zd_14_6_84 : zz_D zy_side_14_6 84 (.iload_n 2) 1 85 := ⟨by decide +kernel, rfl⟩
theorem zd_14_6_85 : zz_D zy_side_14_6 85 (.iconst 0) 1 86 := ⟨by decide +kernel, rfl⟩
theorem zd_14_6_86 : zz_D zy_side_14_6 86 (.iastore) 1 87 := ⟨by decide +kernel, rfl⟩
theorem zd_14_6_87 : zz_D zy_side_14_6 87 (.aload_n 0) 1 88 := ⟨by decide +kernel, rfl⟩
theorem zd_14_6_88 : zz_D zy_side_14_6 88 (.getfield 26) 3 91 := ⟨by decide +kernel, rfl⟩
theorem zf_Md_26 : mm_Fl "TensorForgeModel" 26 11 6 (.array .int) true := ⟨R_Md, F_Md, 69, t_Md, rfl, i_Md, by decide, mm_tb_1 1617 (by decide +kernel) rfl, rfl, t_Md_ok, n_Md, rfl, by decide +kernel⟩
theorem zd_14_6_91 : zz_D zy_side_14_6 91 (.iload_n 2) 1 92 := ⟨by decide +kernel, rfl⟩
theorem zd_14_6_92 : zz_D zy_side_14_6 92 (.iconst 0) 1 93 := ⟨by decide +kernel, rfl⟩
theorem zd_14_6_93 : zz_D zy_side_14_6 93 (.iastore) 1 94 := ⟨by decide +kernel, rfl⟩
-- TensorForgeModel side (I)V
abbrev zr_side_14_6 : Room := { frames := 1, cells := 0, slots := 0, locals := 18 }
def zp_side_14_6 (p0 : Int) (S0 : zz_S) : zz_S → Prop := fun S => zz_G S ∧ zz_fr [(1079, 0), (1079, 1), (1079, 36)] [1081, 1082, 1083, 1084, 1105] (fun _ _ => False) S0 S
theorem zb_side_14_6_52 {g : mm_G} {l : Launch} (p0 : Int) (S0 : zz_S) (n : Nat) (hn : zz_end ≤ n) (G_S0 : zz_G S0) (hp0 : (-2147483648) ≤ p0 ∧ p0 ≤ 2147483647) (x2 : Int) (S : zz_S) (G_S : zz_G S) (F_S : zz_fr [(1079, 0), (1079, 1), (1079, 36)] [1081, 1082, 1083, 1084, 1105] (fun _ _ => False) S0 S) (i52_0 : 0 ≤ x2 ∧ x2 ≤ 2147483647) (i52_1 : (1 = 1 ∧ 2 ≤ p0 ∧ p0 ≤ 8) ∨ (1 = 0 ∧ (p0 < 2 ∨ 8 < p0))) (i52_2 : 2 ≤ p0 ∧ p0 ≤ 8) (R : Nat) (hR : (512 - x2).toNat = R) (k52 : ∀ (x2 : Int) (S : zz_S), zz_G S → zz_fr [(1079, 0), (1079, 1), (1079, 36)] [1081, 1082, 1083, 1084, 1105] (fun _ _ => False) S0 S → (0 ≤ x2 ∧ x2 ≤ 2147483647) → ((1 = 1 ∧ 2 ≤ p0 ∧ p0 ≤ 8) ∨ (1 = 0 ∧ (p0 < 2 ∨ 8 < p0))) → (2 ≤ p0 ∧ p0 ≤ 8) → (512 - x2).toNat < R → zz_E g l zy_side_14_6 zr_side_14_6 (zz_QV n (zp_side_14_6 p0 S0)) S n 52 [some (.ref 1079), none, some (zi x2)] [] 0 0) : zz_E g l zy_side_14_6 zr_side_14_6 (zz_QV n (zp_side_14_6 p0 S0)) S n 52 [some (.ref 1079), none, some (zi x2)] [] 0 0 := by
  refine zz_iload_n (x := x2) rfl zd_14_6_52 ?_
  refine zz_sipush (by decide) zd_14_6_53 ?_
  refine zz_icmp_ge (by omega) (by omega) zd_14_6_56 (fun c29 => ?_) (fun c29 => ?_)
  · exact zz_vret zd_14_6_100 rfl (Nat.zero_le _) (Nat.zero_le _) ⟨_, rfl, G_S, F_S⟩
  · refine zz_aload_n (x := 1079) rfl zd_14_6_59 ?_
    refine zz_getr (kd := 0) (z := 1081) zd_14_6_60 zf_Md_17 zT_1079 rfl (zz_ltn hn rfl) (zz_G.eq G_S 1079 3 1081 rfl rfl) (by decide) 1081 rfl ?_
    refine zz_iload_n (x := x2) rfl zd_14_6_63 ?_
    refine zz_iconst zd_14_6_64 ?_
    refine zz_iast zd_14_6_65 zT_1081 rfl (zz_ltn hn rfl) (by decide) (by omega) (fun S30 qS30 => ?_)
    have G_S30 := zz_G.put G_S qS30 (-2147483648) 2147483647 rfl (by omega)
    have F_S30 := zz_fr.putc F_S qS30 rfl
    refine zz_aload_n (x := 1079) rfl zd_14_6_66 ?_
    refine zz_getr (kd := 0) (z := 1082) zd_14_6_67 zf_Md_20 zT_1079 rfl (zz_ltn hn rfl) (zz_G.eq G_S30 1079 4 1082 rfl rfl) (by decide) 1082 rfl ?_
    refine zz_iload_n (x := x2) rfl zd_14_6_70 ?_
    refine zz_iconst zd_14_6_71 ?_
    refine zz_iast zd_14_6_72 zT_1082 rfl (zz_ltn hn rfl) (by decide) (by omega) (fun S31 qS31 => ?_)
    have G_S31 := zz_G.put G_S30 qS31 (-2147483648) 2147483647 rfl (by omega)
    have F_S31 := zz_fr.putc F_S30 qS31 rfl
    refine zz_iload_n (x := x2) rfl zd_14_6_73 ?_
    refine zz_sipush (by decide) zd_14_6_74 ?_
    refine zz_icmp_ge (by omega) (by omega) zd_14_6_77 (fun c32 => ?_) (fun c32 => ?_)
    · refine zz_iinc [some (.ref 1079), none, some (zi (x2 + 1))] zd_14_6_94 rfl rfl ?_
      refine zz_goto zd_14_6_97 ?_
      refine zz_less (ls1 := [some (.ref 1079), none, some (zi (x2 + 1))]) ⟨rfl, ⟨rfl, trivial⟩⟩ ?_
      exact k52 (x2 + 1) S31 G_S31 F_S31 (by omega) (by omega) (by omega) (by omega)
    · refine zz_aload_n (x := 1079) rfl zd_14_6_80 ?_
      refine zz_getr (kd := 0) (z := 1083) zd_14_6_81 zf_Md_23 zT_1079 rfl (zz_ltn hn rfl) (zz_G.eq G_S31 1079 5 1083 rfl rfl) (by decide) 1083 rfl ?_
      refine zz_iload_n (x := x2) rfl zd_14_6_84 ?_
      refine zz_iconst zd_14_6_85 ?_
      refine zz_iast zd_14_6_86 zT_1083 rfl (zz_ltn hn rfl) (by decide) (by omega) (fun S33 qS33 => ?_)
      have G_S33 := zz_G.put G_S31 qS33 (-2147483648) 2147483647 rfl (by omega)
      have F_S33 := zz_fr.putc F_S31 qS33 rfl
      refine zz_aload_n (x := 1079) rfl zd_14_6_87 ?_
      refine zz_getr (kd := 0) (z := 1084) zd_14_6_88 zf_Md_26 zT_1079 rfl (zz_ltn hn rfl) (zz_G.eq G_S33 1079 6 1084 rfl rfl) (by decide) 1084 rfl ?_
      refine zz_iload_n (x := x2) rfl zd_14_6_91 ?_
      refine zz_iconst zd_14_6_92 ?_
      refine zz_iast zd_14_6_93 zT_1084 rfl (zz_ltn hn rfl) (by decide) (by omega) (fun S34 qS34 => ?_)
      have G_S34 := zz_G.put G_S33 qS34 (-2147483648) 2147483647 rfl (by omega)
      have F_S34 := zz_fr.putc F_S33 qS34 rfl
      refine zz_iinc [some (.ref 1079), none, some (zi (x2 + 1))] zd_14_6_94 rfl rfl ?_
      refine zz_goto zd_14_6_97 ?_
      refine zz_less (ls1 := [some (.ref 1079), none, some (zi (x2 + 1))]) ⟨rfl, ⟨rfl, trivial⟩⟩ ?_
      exact k52 (x2 + 1) S34 G_S34 F_S34 (by omega) (by omega) (by omega) (by omega)
theorem zi_side_14_6 {g : mm_G} {l : Launch} (p0 : Int) (S0 : zz_S) (n : Nat) (hn : zz_end ≤ n) (G_S0 : zz_G S0) (hp0 : (-2147483648) ≤ p0 ∧ p0 ≤ 2147483647) : ∀ N : Nat, (∀ (x2 : Int) (S : zz_S), zz_G S → zz_fr [(1079, 0), (1079, 1), (1079, 36)] [1081, 1082, 1083, 1084, 1105] (fun _ _ => False) S0 S → (0 ≤ x2 ∧ x2 ≤ 2147483647) → ((1 = 1 ∧ 2 ≤ p0 ∧ p0 ≤ 8) ∨ (1 = 0 ∧ (p0 < 2 ∨ 8 < p0))) → (2 ≤ p0 ∧ p0 ≤ 8) → (512 - x2).toNat < N → zz_E g l zy_side_14_6 zr_side_14_6 (zz_QV n (zp_side_14_6 p0 S0)) S n 52 [some (.ref 1079), none, some (zi x2)] [] 0 0) := by
  intro N
  induction N with
  | zero => exact fun x2 S _ _ _ _ _ h => absurd h (Nat.not_lt_zero _)
  | succ N ih =>
    exact fun x2 S a b j0 j1 j2 hR => zb_side_14_6_52 p0 S0 n hn G_S0 hp0 x2 S a b j0 j1 j2 _ rfl (fun x2 S a b j0 j1 j2 h => ih x2 S a b j0 j1 j2 (Nat.lt_of_lt_of_le h (Nat.le_of_lt_succ hR)))
theorem zc_side_14_6 {g : mm_G} {l : Launch} (p0 : Int) (S0 : zz_S) (n : Nat) (hn : zz_end ≤ n) (G_S0 : zz_G S0) (hp0 : (-2147483648) ≤ p0 ∧ p0 ≤ 2147483647) : mm_Met g l zy_side_14_6 zr_side_14_6 [.ref 1079, zi p0] (zz_M S0 n) n (zz_QV n (zp_side_14_6 p0 S0)) := by
  refine zz_enter (by decide) (Nat.le_of_ble_eq_true rfl) (zz_less (ls1 := [some (.ref 1079), some (zi p0)]) ⟨rfl, ⟨rfl, trivial⟩⟩ ?_)
  have F_S0 : zz_fr [(1079, 0), (1079, 1), (1079, 36)] [1081, 1082, 1083, 1084, 1105] (fun _ _ => False) S0 S0 := zz_fr.refl
  have k52 : ∀ (x2 : Int) (S : zz_S), zz_G S → zz_fr [(1079, 0), (1079, 1), (1079, 36)] [1081, 1082, 1083, 1084, 1105] (fun _ _ => False) S0 S → (0 ≤ x2 ∧ x2 ≤ 2147483647) → ((1 = 1 ∧ 2 ≤ p0 ∧ p0 ≤ 8) ∨ (1 = 0 ∧ (p0 < 2 ∨ 8 < p0))) → (2 ≤ p0 ∧ p0 ≤ 8) → zz_E g l zy_side_14_6 zr_side_14_6 (zz_QV n (zp_side_14_6 p0 S0)) S n 52 [some (.ref 1079), none, some (zi x2)] [] 0 0 := fun x2 S a b j0 j1 j2 => (zi_side_14_6 (g := g) (l := l) p0 S0 n hn G_S0 hp0 _) x2 S a b j0 j1 j2 (Nat.lt_succ_self _)
  refine zz_aload_n (x := 1079) rfl zd_14_6_0 ?_
  refine zz_iload_n (x := p0) rfl zd_14_6_1 ?_
  refine zz_i2l (by omega) zd_14_6_2 ?_
  refine zz_ldc2 (z := 2) zq_Md_169 (by decide) zd_14_6_3 ?_
  refine zz_ldc2 (z := 8) zq_Md_190 (by decide) zd_14_6_6 ?_
  refine zz_callSI [zl p0, zl 2, zl 8] zd_14_6_9 zk_Md_192 rfl rfl ⟨Nat.le_of_ble_eq_true rfl, Nat.le_of_ble_eq_true rfl⟩ ⟨rfl, rfl⟩ (Nat.zero_le _) (Nat.zero_le _) (zc_in_14_4 p0 2 8 S0 n hn G_S0 (by omega) (by omega) (by omega)) (fun v2 S1 hP => ?_)
  obtain ⟨rfl, o3, o4⟩ := hP
  rcases (by omega : v2 = 0 ∨ v2 = 1) with rfl | rfl
  · refine zz_if_ne (by omega) zd_14_6_12 (fun c5 => ?_) (fun c5 => ?_)
    · exfalso; omega
    · refine zz_iconst zd_14_6_15 ?_
      refine zz_goto zd_14_6_16 ?_
      refine zz_iconst zd_14_6_20 ?_
      refine zz_iconst zd_14_6_21 ?_
      refine zz_callVI [zi 1, zi 0, zi 0] zd_14_6_22 zk_Md_196 zT_1079 (zz_ltn hn rfl) rfl rfl ⟨Nat.le_of_ble_eq_true rfl, Nat.le_of_ble_eq_true rfl⟩ ⟨rfl, rfl⟩ (Nat.zero_le _) (Nat.zero_le _) (zc_refuse_14_3 1 0 0 S0 n hn G_S0 (by omega) (by omega) (by omega)) (fun v7 S6 hP => ?_)
      obtain ⟨G_S6, fS6, o8, o9⟩ := hP
      have F_S6 := zz_fr.trans F_S0 fS6 rfl zz_nv
      rcases (by omega : v7 = 0 ∨ v7 = 1) with rfl | rfl
      · exfalso; omega
      · have e10 : S6 1079 0 = 1 := by omega
        refine zz_if_eq (by omega) zd_14_6_25 (fun c11 => ?_) (fun c11 => ?_)
        · exfalso; omega
        · exact zz_vret zd_14_6_28 rfl (Nat.zero_le _) (Nat.zero_le _) ⟨_, rfl, G_S6, F_S6⟩
  · refine zz_if_ne (by omega) zd_14_6_12 (fun c12 => ?_) (fun c12 => ?_)
    · refine zz_iconst zd_14_6_19 ?_
      refine zz_iconst zd_14_6_20 ?_
      refine zz_iconst zd_14_6_21 ?_
      refine zz_callVI [zi 0, zi 0, zi 0] zd_14_6_22 zk_Md_196 zT_1079 (zz_ltn hn rfl) rfl rfl ⟨Nat.le_of_ble_eq_true rfl, Nat.le_of_ble_eq_true rfl⟩ ⟨rfl, rfl⟩ (Nat.zero_le _) (Nat.zero_le _) (zc_refuse_14_3 0 0 0 S0 n hn G_S0 (by omega) (by omega) (by omega)) (fun v14 S13 hP => ?_)
      obtain ⟨G_S13, fS13, o15, o16⟩ := hP
      have F_S13 := zz_fr.trans F_S0 fS13 rfl zz_nv
      rcases (by omega : v14 = 0 ∨ v14 = 1) with rfl | rfl
      · have e17 : S13 1079 0 = 0 := by omega
        refine zz_if_eq (by omega) zd_14_6_25 (fun c18 => ?_) (fun c18 => ?_)
        · refine zz_aload_n (x := 1079) rfl zd_14_6_29 ?_
          refine zz_iload_n (x := p0) rfl zd_14_6_30 ?_
          refine zz_puti zd_14_6_31 zf_Md_7 zT_1079 rfl (zz_ltn hn rfl) (fun S19 qS19 => ?_)
          have G_S19 := zz_G.put G_S13 qS19 2 8 rfl (by omega)
          have F_S19 := zz_fr.puts F_S13 qS19 rfl
          refine zz_aload_n (x := 1079) rfl zd_14_6_34 ?_
          refine zz_iconst zd_14_6_35 ?_
          refine zz_puti zd_14_6_36 zf_Md_85 zT_1079 rfl (zz_ltn hn rfl) (fun S20 qS20 => ?_)
          have G_S20 := zz_G.put G_S19 qS20 0 11 rfl (by omega)
          have F_S20 := zz_fr.puts F_S19 qS20 rfl
          refine zz_aload_n (x := 1079) rfl zd_14_6_39 ?_
          refine zz_getr (kd := 0) (z := 1105) zd_14_6_40 zf_Md_97 zT_1079 rfl (zz_ltn hn rfl) (zz_G.eq G_S20 1079 40 1105 rfl rfl) (by decide) 1105 rfl ?_
          refine zz_iconst zd_14_6_43 ?_
          refine zz_aload_n (x := 1079) rfl zd_14_6_44 ?_
          refine zz_iconst zd_14_6_45 ?_
          have e21 : S20 1102 p0.toNat = S0 1102 p0.toNat := (zz_ro qS20 (fun h => absurd h.1 (by decide)) (zz_ro qS19 (fun h => absurd h.1 (by decide)) (zz_rc fS13 (zz_nc1 rfl) rfl (fun h => h) rfl)))
          have e22 : S20 1103 p0.toNat = S0 1103 p0.toNat := (zz_ro qS20 (fun h => absurd h.1 (by decide)) (zz_ro qS19 (fun h => absurd h.1 (by decide)) (zz_rc fS13 (zz_nc1 rfl) rfl (fun h => h) rfl)))
          have e23 : S20 1104 p0.toNat = S0 1104 p0.toNat := (zz_ro qS20 (fun h => absurd h.1 (by decide)) (zz_ro qS19 (fun h => absurd h.1 (by decide)) (zz_rc fS13 (zz_nc1 rfl) rfl (fun h => h) rfl)))
          refine zz_callVI [zi 0] zd_14_6_46 zk_Md_200 zT_1079 (zz_ltn hn rfl) rfl rfl ⟨Nat.le_of_ble_eq_true rfl, Nat.le_of_ble_eq_true rfl⟩ ⟨rfl, rfl⟩ (Nat.zero_le _) (Nat.zero_le _) (zc_sizeOf_14_90 0 S20 n hn G_S20 (by omega)) (fun v25 S24 hP => ?_)
          obtain ⟨rfl, o26, o27⟩ := hP
          refine zz_iast zd_14_6_49 zT_1105 rfl (zz_ltn hn rfl) (by decide) (by decide) (fun S28 qS28 => ?_)
          have G_S28 := zz_G.put G_S20 qS28 0 10000000 rfl (by omega)
          have F_S28 := zz_fr.putc F_S20 qS28 rfl
          refine zz_iconst zd_14_6_50 ?_
          refine zz_istore_n [some (.ref 1079), some (zi p0), some (zi 0)] zd_14_6_51 (by decide) rfl ?_
          refine zz_less (ls1 := [some (.ref 1079), none, some (zi 0)]) ⟨rfl, ⟨rfl, trivial⟩⟩ ?_
          exact k52 0 S28 G_S28 F_S28 (by omega) (by omega) (by omega)
        · exfalso; omega
      · exfalso; omega
    · exfalso; omega
abbrev zy_byteOf_14_7 : mm_Y := (⟨"TensorForgeModel", "byteOf", "(II)I"⟩, prog_14_method_7_code, 3, (some .int))
theorem zyw_byteOf_14_7 : mm_Yw zy_byteOf_14_7 2 := ⟨mm_tb_1 1847 (by decide +kernel) rfl, mm_tb_1 12 (by decide +kernel) rfl, ⟨by decide, by decide⟩, by decide +kernel⟩
theorem zd_14_7_0 : zz_D zy_byteOf_14_7 0 (.iload_n 0) 1 1 := ⟨by decide +kernel, rfl⟩
theorem zd_14_7_1 : zz_D zy_byteOf_14_7 1 (.bipush 8) 2 3 := ⟨by decide +kernel, rfl⟩
theorem zd_14_7_3 : zz_D zy_byteOf_14_7 3 (.iload_n 1) 1 4 := ⟨by decide +kernel, rfl⟩
theorem zd_14_7_4 : zz_D zy_byteOf_14_7 4 (.imul) 1 5 := ⟨by decide +kernel, rfl⟩
theorem zd_14_7_5 : zz_D zy_byteOf_14_7 5 (.ishr) 1 6 := ⟨by decide +kernel, rfl⟩
theorem zd_14_7_6 : zz_D zy_byteOf_14_7 6 (.sipush 255) 3 9 := ⟨by decide +kernel, rfl⟩
theorem zd_14_7_9 : zz_D zy_byteOf_14_7 9 (.iand) 1 10 := ⟨by decide +kernel, rfl⟩
theorem zd_14_7_10 : zz_D zy_byteOf_14_7 10 (.istore_n 2) 1 11 := ⟨by decide +kernel, rfl⟩
theorem zd_14_7_11 : zz_D zy_byteOf_14_7 11 (.iload_n 2) 1 12 := ⟨by decide +kernel, rfl⟩
theorem zd_14_7_12 : zz_D zy_byteOf_14_7 12 (.bipush 127) 2 14 := ⟨by decide +kernel, rfl⟩
theorem zd_14_7_14 : zz_B zy_byteOf_14_7 14 (Instr.if_icmp .le) 25 17 := ⟨11, by decide +kernel, rfl, rfl⟩
theorem zd_14_7_25 : zz_D zy_byteOf_14_7 25 (.iload_n 2) 1 26 := ⟨by decide +kernel, rfl⟩
theorem zd_14_7_26 : zz_D zy_byteOf_14_7 26 (.ireturn) 1 27 := ⟨by decide +kernel, rfl⟩
theorem zd_14_7_17 : zz_D zy_byteOf_14_7 17 (.iload_n 2) 1 18 := ⟨by decide +kernel, rfl⟩
theorem zd_14_7_18 : zz_D zy_byteOf_14_7 18 (.sipush 256) 3 21 := ⟨by decide +kernel, rfl⟩
theorem zd_14_7_21 : zz_D zy_byteOf_14_7 21 (.isub) 1 22 := ⟨by decide +kernel, rfl⟩
theorem zd_14_7_22 : zz_B zy_byteOf_14_7 22 Instr.goto 26 25 := ⟨4, by decide +kernel, rfl, rfl⟩
-- TensorForgeModel byteOf (II)I
abbrev zr_byteOf_14_7 : Room := { frames := 0, cells := 0, slots := 0, locals := 0 }
def zp_byteOf_14_7 (p0 : Int) (p1 : Int) (S0 : zz_S) : Int → zz_S → Prop := fun r S => S0 = S ∧ ((-128) ≤ r ∧ r ≤ 127)
theorem zc_byteOf_14_7 {g : mm_G} {l : Launch} (p0 : Int) (p1 : Int) (S0 : zz_S) (n : Nat) (hn : zz_end ≤ n) (G_S0 : zz_G S0) (hp0 : (-2147483648) ≤ p0 ∧ p0 ≤ 2147483647) (hp1 : (-2147483648) ≤ p1 ∧ p1 ≤ 2147483647) : mm_Met g l zy_byteOf_14_7 zr_byteOf_14_7 [zi p0, zi p1] (zz_M S0 n) n (zz_QI n (zp_byteOf_14_7 p0 p1 S0)) := by
  refine zz_enter (by decide) (Nat.le_of_ble_eq_true rfl) (zz_less (ls1 := [some (zi p0), some (zi p1)]) ⟨rfl, ⟨rfl, trivial⟩⟩ ?_)
  refine zz_iload_n (x := p0) rfl zd_14_7_0 ?_
  refine zz_bipush (by decide) zd_14_7_1 ?_
  refine zz_iload_n (x := p1) rfl zd_14_7_3 ?_
  refine zz_imul zd_14_7_4 ?_
  refine zz_nrm (fun v1 hv1 ev1 => ?_)
  refine zz_ishr zd_14_7_5 (fun v2 hv2 ev2 => ?_)
  refine zz_sipush (by decide) zd_14_7_6 ?_
  refine zz_iand (by omega) (by omega) zd_14_7_9 (fun v3 hv3 av3 bv3 ev3 => ?_)
  refine zz_istore_n [some (zi p0), some (zi p1), some (zi v3)] zd_14_7_10 (by decide) rfl ?_
  refine zz_iload_n (x := v3) rfl zd_14_7_11 ?_
  refine zz_bipush (by decide) zd_14_7_12 ?_
  refine zz_icmp_le (by omega) (by omega) zd_14_7_14 (fun c4 => ?_) (fun c4 => ?_)
  · refine zz_iload_n (x := v3) rfl zd_14_7_25 ?_
    exact zz_iret zd_14_7_26 rfl (Nat.zero_le _) (Nat.zero_le _) ⟨_, _, rfl, rfl, by omega⟩
  · refine zz_iload_n (x := v3) rfl zd_14_7_17 ?_
    refine zz_sipush (by decide) zd_14_7_18 ?_
    refine zz_isub zd_14_7_21 ?_
    refine zz_goto zd_14_7_22 ?_
    exact zz_iret zd_14_7_26 rfl (Nat.zero_le _) (Nat.zero_le _) ⟨_, _, rfl, rfl, by omega⟩
abbrev zy_memory_14_8 : mm_Y := (⟨"TensorForgeModel", "memory", "(II)V"⟩, prog_14_method_8_code, 4, none)
theorem zyw_memory_14_8 : mm_Yw zy_memory_14_8 2 := ⟨mm_tb_1 1843 (by decide +kernel) rfl, mm_tb_1 12 (by decide +kernel) rfl, ⟨by decide, by decide⟩, by decide +kernel⟩
theorem zd_14_8_0 : zz_D zy_memory_14_8 0 (.aload_n 0) 1 1 := ⟨by decide +kernel, rfl⟩
theorem zd_14_8_1 : zz_D zy_memory_14_8 1 (.iload_n 1) 1 2 := ⟨by decide +kernel, rfl⟩
theorem zd_14_8_2 : zz_D zy_memory_14_8 2 (.i2l) 1 3 := ⟨by decide +kernel, rfl⟩
theorem zd_14_8_3 : zz_D zy_memory_14_8 3 (.lconst 0) 1 4 := ⟨by decide +kernel, rfl⟩
theorem zd_14_8_4 : zz_D zy_memory_14_8 4 (.ldc2_w 204) 3 7 := ⟨by decide +kernel, rfl⟩
theorem zq_Md_204 : Cond.constantLong "TensorForgeModel" 204 (4092 : Int64) ∈ mm_tb := mm_tb_1 1844 (by decide +kernel) rfl
theorem zd_14_8_7 : zz_D zy_memory_14_8 7 (.invokestatic 192) 3 10 := ⟨by decide +kernel, rfl⟩
theorem zd_14_8_10 : zz_B zy_memory_14_8 10 (Instr.ifCond .ne) 17 13 := ⟨7, by decide +kernel, rfl, rfl⟩
theorem zd_14_8_13 : zz_D zy_memory_14_8 13 (.iconst 1) 1 14 := ⟨by decide +kernel, rfl⟩
theorem zd_14_8_14 : zz_B zy_memory_14_8 14 Instr.goto 18 17 := ⟨4, by decide +kernel, rfl, rfl⟩
theorem zd_14_8_18 : zz_D zy_memory_14_8 18 (.iconst 0) 1 19 := ⟨by decide +kernel, rfl⟩
theorem zd_14_8_19 : zz_D zy_memory_14_8 19 (.iconst 0) 1 20 := ⟨by decide +kernel, rfl⟩
theorem zd_14_8_20 : zz_D zy_memory_14_8 20 (.invokevirtual 196) 3 23 := ⟨by decide +kernel, rfl⟩
theorem zd_14_8_23 : zz_B zy_memory_14_8 23 (Instr.ifCond .ne) 52 26 := ⟨29, by decide +kernel, rfl, rfl⟩
theorem zd_14_8_52 : zz_D zy_memory_14_8 52 (.return_) 1 53 := ⟨by decide +kernel, rfl⟩
theorem zd_14_8_17 : zz_D zy_memory_14_8 17 (.iconst 0) 1 18 := ⟨by decide +kernel, rfl⟩
theorem zd_14_8_26 : zz_D zy_memory_14_8 26 (.iconst 0) 1 27 := ⟨by decide +kernel, rfl⟩
theorem zd_14_8_27 : zz_D zy_memory_14_8 27 (.istore_n 3) 1 28 := ⟨by decide +kernel, rfl⟩
theorem zd_14_8_28 : zz_D zy_memory_14_8 28 (.iload_n 3) 1 29 := ⟨by decide +kernel, rfl⟩
theorem zd_14_8_29 : zz_D zy_memory_14_8 29 (.iconst 4) 1 30 := ⟨by decide +kernel, rfl⟩
theorem zd_14_8_30 : zz_B zy_memory_14_8 30 (Instr.if_icmp .ge) 52 33 := ⟨22, by decide +kernel, rfl, rfl⟩
theorem zd_14_8_33 : zz_D zy_memory_14_8 33 (.aload_n 0) 1 34 := ⟨by decide +kernel, rfl⟩
theorem zd_14_8_34 : zz_D zy_memory_14_8 34 (.getfield 13) 3 37 := ⟨by decide +kernel, rfl⟩
theorem zf_Md_13 : mm_Fl "TensorForgeModel" 13 11 2 (.array .int) true := ⟨R_Md, F_Md, 69, t_Md, rfl, i_Md, by decide, mm_tb_1 1613 (by decide +kernel) rfl, rfl, t_Md_ok, n_Md, rfl, by decide +kernel⟩
theorem zd_14_8_37 : zz_D zy_memory_14_8 37 (.iload_n 1) 1 38 := ⟨by decide +kernel, rfl⟩
theorem zd_14_8_38 : zz_D zy_memory_14_8 38 (.iload_n 3) 1 39 := ⟨by decide +kernel, rfl⟩
theorem zd_14_8_39 : zz_D zy_memory_14_8 39 (.iadd) 1 40 := ⟨by decide +kernel, rfl⟩
theorem zd_14_8_40 : zz_D zy_memory_14_8 40 (.iload_n 2) 1 41 := ⟨by decide +kernel, rfl⟩
theorem zd_14_8_41 : zz_D zy_memory_14_8 41 (.iload_n 3) 1 42 := ⟨by decide +kernel, rfl⟩
theorem zd_14_8_42 : zz_D zy_memory_14_8 42 (.invokestatic 206) 3 45 := ⟨by decide +kernel, rfl⟩
theorem zk_Md_206 : mm_Sl "TensorForgeModel" 206 2 zy_byteOf_14_7 := ⟨zyw_byteOf_14_7, mm_tb_1 1845 (by decide +kernel) rfl, mm_tb_1 1846 (by decide +kernel) rfl⟩
theorem zd_14_8_45 : zz_D zy_memory_14_8 45 (.iastore) 1 46 := ⟨by decide +kernel, rfl⟩
theorem zd_14_8_46 : zz_D zy_memory_14_8 46 (.iinc 3 1) 3 49 := ⟨by decide +kernel, rfl⟩
theorem zd_14_8_49 : zz_B zy_memory_14_8 49 Instr.goto 28 52 := ⟨(-21), by decide +kernel, rfl, rfl⟩
-- TensorForgeModel memory (II)V
abbrev zr_memory_14_8 : Room := { frames := 1, cells := 0, slots := 0, locals := 18 }
def zp_memory_14_8 (p0 : Int) (p1 : Int) (S0 : zz_S) : zz_S → Prop := fun S => zz_G S ∧ zz_fr [(1079, 0)] [1080] (fun _ _ => False) S0 S
theorem zb_memory_14_8_28 {g : mm_G} {l : Launch} (p0 : Int) (p1 : Int) (S0 : zz_S) (n : Nat) (hn : zz_end ≤ n) (G_S0 : zz_G S0) (hp0 : (-2147483648) ≤ p0 ∧ p0 ≤ 2147483647) (hp1 : (-2147483648) ≤ p1 ∧ p1 ≤ 2147483647) (x3 : Int) (S : zz_S) (G_S : zz_G S) (F_S : zz_fr [(1079, 0)] [1080] (fun _ _ => False) S0 S) (i28_0 : 0 ≤ x3 ∧ x3 ≤ 2147483647) (i28_1 : (1 = 1 ∧ 0 ≤ p0 ∧ p0 ≤ 4092) ∨ (1 = 0 ∧ (p0 < 0 ∨ 4092 < p0))) (i28_2 : 0 ≤ p0 ∧ p0 ≤ 4092) (R : Nat) (hR : (4 - x3).toNat = R) (k28 : ∀ (x3 : Int) (S : zz_S), zz_G S → zz_fr [(1079, 0)] [1080] (fun _ _ => False) S0 S → (0 ≤ x3 ∧ x3 ≤ 2147483647) → ((1 = 1 ∧ 0 ≤ p0 ∧ p0 ≤ 4092) ∨ (1 = 0 ∧ (p0 < 0 ∨ 4092 < p0))) → (0 ≤ p0 ∧ p0 ≤ 4092) → (4 - x3).toNat < R → zz_E g l zy_memory_14_8 zr_memory_14_8 (zz_QV n (zp_memory_14_8 p0 p1 S0)) S n 28 [some (.ref 1079), some (zi p0), some (zi p1), some (zi x3)] [] 0 0) : zz_E g l zy_memory_14_8 zr_memory_14_8 (zz_QV n (zp_memory_14_8 p0 p1 S0)) S n 28 [some (.ref 1079), some (zi p0), some (zi p1), some (zi x3)] [] 0 0 := by
  refine zz_iload_n (x := x3) rfl zd_14_8_28 ?_
  refine zz_iconst zd_14_8_29 ?_
  refine zz_icmp_ge (by omega) (by omega) zd_14_8_30 (fun c19 => ?_) (fun c19 => ?_)
  · exact zz_vret zd_14_8_52 rfl (Nat.zero_le _) (Nat.zero_le _) ⟨_, rfl, G_S, F_S⟩
  · refine zz_aload_n (x := 1079) rfl zd_14_8_33 ?_
    refine zz_getr (kd := 0) (z := 1080) zd_14_8_34 zf_Md_13 zT_1079 rfl (zz_ltn hn rfl) (zz_G.eq G_S 1079 2 1080 rfl rfl) (by decide) 1080 rfl ?_
    refine zz_iload_n (x := p0) rfl zd_14_8_37 ?_
    refine zz_iload_n (x := x3) rfl zd_14_8_38 ?_
    refine zz_iadd zd_14_8_39 ?_
    refine zz_iload_n (x := p1) rfl zd_14_8_40 ?_
    refine zz_iload_n (x := x3) rfl zd_14_8_41 ?_
    refine zz_callSI [zi p1, zi x3] zd_14_8_42 zk_Md_206 rfl rfl ⟨Nat.le_of_ble_eq_true rfl, Nat.le_of_ble_eq_true rfl⟩ ⟨rfl, rfl⟩ (Nat.zero_le _) (Nat.zero_le _) (zc_byteOf_14_7 p1 x3 S n hn G_S (by omega) (by omega)) (fun v21 S20 hP => ?_)
    obtain ⟨rfl, o22⟩ := hP
    refine zz_iast zd_14_8_45 zT_1080 rfl (zz_ltn hn rfl) (by decide) (by omega) (fun S23 qS23 => ?_)
    have G_S23 := zz_G.put G_S qS23 (-2147483648) 2147483647 rfl (by omega)
    have F_S23 := zz_fr.putc F_S qS23 rfl
    refine zz_iinc [some (.ref 1079), some (zi p0), some (zi p1), some (zi (x3 + 1))] zd_14_8_46 rfl rfl ?_
    refine zz_goto zd_14_8_49 ?_
    refine zz_less (ls1 := [some (.ref 1079), some (zi p0), some (zi p1), some (zi (x3 + 1))]) ⟨rfl, ⟨rfl, ⟨rfl, ⟨rfl, trivial⟩⟩⟩⟩ ?_
    exact k28 (x3 + 1) S23 G_S23 F_S23 (by omega) (by omega) (by omega) (by omega)
theorem zi_memory_14_8 {g : mm_G} {l : Launch} (p0 : Int) (p1 : Int) (S0 : zz_S) (n : Nat) (hn : zz_end ≤ n) (G_S0 : zz_G S0) (hp0 : (-2147483648) ≤ p0 ∧ p0 ≤ 2147483647) (hp1 : (-2147483648) ≤ p1 ∧ p1 ≤ 2147483647) : ∀ N : Nat, (∀ (x3 : Int) (S : zz_S), zz_G S → zz_fr [(1079, 0)] [1080] (fun _ _ => False) S0 S → (0 ≤ x3 ∧ x3 ≤ 2147483647) → ((1 = 1 ∧ 0 ≤ p0 ∧ p0 ≤ 4092) ∨ (1 = 0 ∧ (p0 < 0 ∨ 4092 < p0))) → (0 ≤ p0 ∧ p0 ≤ 4092) → (4 - x3).toNat < N → zz_E g l zy_memory_14_8 zr_memory_14_8 (zz_QV n (zp_memory_14_8 p0 p1 S0)) S n 28 [some (.ref 1079), some (zi p0), some (zi p1), some (zi x3)] [] 0 0) := by
  intro N
  induction N with
  | zero => exact fun x3 S _ _ _ _ _ h => absurd h (Nat.not_lt_zero _)
  | succ N ih =>
    exact fun x3 S a b j0 j1 j2 hR => zb_memory_14_8_28 p0 p1 S0 n hn G_S0 hp0 hp1 x3 S a b j0 j1 j2 _ rfl (fun x3 S a b j0 j1 j2 h => ih x3 S a b j0 j1 j2 (Nat.lt_of_lt_of_le h (Nat.le_of_lt_succ hR)))
theorem zc_memory_14_8 {g : mm_G} {l : Launch} (p0 : Int) (p1 : Int) (S0 : zz_S) (n : Nat) (hn : zz_end ≤ n) (G_S0 : zz_G S0) (hp0 : (-2147483648) ≤ p0 ∧ p0 ≤ 2147483647) (hp1 : (-2147483648) ≤ p1 ∧ p1 ≤ 2147483647) : mm_Met g l zy_memory_14_8 zr_memory_14_8 [.ref 1079, zi p0, zi p1] (zz_M S0 n) n (zz_QV n (zp_memory_14_8 p0 p1 S0)) := by
  refine zz_enter (by decide) (Nat.le_of_ble_eq_true rfl) (zz_less (ls1 := [some (.ref 1079), some (zi p0), some (zi p1)]) ⟨rfl, ⟨rfl, ⟨rfl, trivial⟩⟩⟩ ?_)
  have F_S0 : zz_fr [(1079, 0)] [1080] (fun _ _ => False) S0 S0 := zz_fr.refl
  have k28 : ∀ (x3 : Int) (S : zz_S), zz_G S → zz_fr [(1079, 0)] [1080] (fun _ _ => False) S0 S → (0 ≤ x3 ∧ x3 ≤ 2147483647) → ((1 = 1 ∧ 0 ≤ p0 ∧ p0 ≤ 4092) ∨ (1 = 0 ∧ (p0 < 0 ∨ 4092 < p0))) → (0 ≤ p0 ∧ p0 ≤ 4092) → zz_E g l zy_memory_14_8 zr_memory_14_8 (zz_QV n (zp_memory_14_8 p0 p1 S0)) S n 28 [some (.ref 1079), some (zi p0), some (zi p1), some (zi x3)] [] 0 0 := fun x3 S a b j0 j1 j2 => (zi_memory_14_8 (g := g) (l := l) p0 p1 S0 n hn G_S0 hp0 hp1 _) x3 S a b j0 j1 j2 (Nat.lt_succ_self _)
  refine zz_aload_n (x := 1079) rfl zd_14_8_0 ?_
  refine zz_iload_n (x := p0) rfl zd_14_8_1 ?_
  refine zz_i2l (by omega) zd_14_8_2 ?_
  refine zz_lconst (z := 0) (by decide) zd_14_8_3 ?_
  refine zz_ldc2 (z := 4092) zq_Md_204 (by decide) zd_14_8_4 ?_
  refine zz_callSI [zl p0, zl 0, zl 4092] zd_14_8_7 zk_Md_192 rfl rfl ⟨Nat.le_of_ble_eq_true rfl, Nat.le_of_ble_eq_true rfl⟩ ⟨rfl, rfl⟩ (Nat.zero_le _) (Nat.zero_le _) (zc_in_14_4 p0 0 4092 S0 n hn G_S0 (by omega) (by omega) (by omega)) (fun v2 S1 hP => ?_)
  obtain ⟨rfl, o3, o4⟩ := hP
  rcases (by omega : v2 = 0 ∨ v2 = 1) with rfl | rfl
  · refine zz_if_ne (by omega) zd_14_8_10 (fun c5 => ?_) (fun c5 => ?_)
    · exfalso; omega
    · refine zz_iconst zd_14_8_13 ?_
      refine zz_goto zd_14_8_14 ?_
      refine zz_iconst zd_14_8_18 ?_
      refine zz_iconst zd_14_8_19 ?_
      refine zz_callVI [zi 1, zi 0, zi 0] zd_14_8_20 zk_Md_196 zT_1079 (zz_ltn hn rfl) rfl rfl ⟨Nat.le_of_ble_eq_true rfl, Nat.le_of_ble_eq_true rfl⟩ ⟨rfl, rfl⟩ (Nat.zero_le _) (Nat.zero_le _) (zc_refuse_14_3 1 0 0 S0 n hn G_S0 (by omega) (by omega) (by omega)) (fun v7 S6 hP => ?_)
      obtain ⟨G_S6, fS6, o8, o9⟩ := hP
      have F_S6 := zz_fr.trans F_S0 fS6 rfl zz_nv
      rcases (by omega : v7 = 0 ∨ v7 = 1) with rfl | rfl
      · exfalso; omega
      · have e10 : S6 1079 0 = 1 := by omega
        refine zz_if_ne (by omega) zd_14_8_23 (fun c11 => ?_) (fun c11 => ?_)
        · exact zz_vret zd_14_8_52 rfl (Nat.zero_le _) (Nat.zero_le _) ⟨_, rfl, G_S6, F_S6⟩
        · exfalso; omega
  · refine zz_if_ne (by omega) zd_14_8_10 (fun c12 => ?_) (fun c12 => ?_)
    · refine zz_iconst zd_14_8_17 ?_
      refine zz_iconst zd_14_8_18 ?_
      refine zz_iconst zd_14_8_19 ?_
      refine zz_callVI [zi 0, zi 0, zi 0] zd_14_8_20 zk_Md_196 zT_1079 (zz_ltn hn rfl) rfl rfl ⟨Nat.le_of_ble_eq_true rfl, Nat.le_of_ble_eq_true rfl⟩ ⟨rfl, rfl⟩ (Nat.zero_le _) (Nat.zero_le _) (zc_refuse_14_3 0 0 0 S0 n hn G_S0 (by omega) (by omega) (by omega)) (fun v14 S13 hP => ?_)
      obtain ⟨G_S13, fS13, o15, o16⟩ := hP
      have F_S13 := zz_fr.trans F_S0 fS13 rfl zz_nv
      rcases (by omega : v14 = 0 ∨ v14 = 1) with rfl | rfl
      · have e17 : S13 1079 0 = 0 := by omega
        refine zz_if_ne (by omega) zd_14_8_23 (fun c18 => ?_) (fun c18 => ?_)
        · exfalso; omega
        · refine zz_iconst zd_14_8_26 ?_
          refine zz_istore_n [some (.ref 1079), some (zi p0), some (zi p1), some (zi 0)] zd_14_8_27 (by decide) rfl ?_
          refine zz_less (ls1 := [some (.ref 1079), some (zi p0), some (zi p1), some (zi 0)]) ⟨rfl, ⟨rfl, ⟨rfl, ⟨rfl, trivial⟩⟩⟩⟩ ?_
          exact k28 0 S13 G_S13 F_S13 (by omega) (by omega) (by omega)
      · exfalso; omega
    · exfalso; omega
abbrev zy_roomOf_14_9 : mm_Y := (⟨"TensorForgeModel", "roomOf", "(I)I"⟩, prog_14_method_9_code, 1, (some .int))
theorem zyw_roomOf_14_9 : mm_Yw zy_roomOf_14_9 1 := ⟨mm_tb_1 1855 (by decide +kernel) rfl, mm_tb_1 12 (by decide +kernel) rfl, ⟨by decide, by decide⟩, by decide +kernel⟩
theorem zd_14_9_0 : zz_D zy_roomOf_14_9 0 (.iload_n 0) 1 1 := ⟨by decide +kernel, rfl⟩
theorem zd_14_9_1 : zz_B zy_roomOf_14_9 1 (Instr.ifCond .ne) 10 4 := ⟨9, by decide +kernel, rfl, rfl⟩
theorem zd_14_9_10 : zz_D zy_roomOf_14_9 10 (.iload_n 0) 1 11 := ⟨by decide +kernel, rfl⟩
theorem zd_14_9_11 : zz_D zy_roomOf_14_9 11 (.iconst 1) 1 12 := ⟨by decide +kernel, rfl⟩
theorem zd_14_9_12 : zz_B zy_roomOf_14_9 12 (Instr.if_icmp .ne) 21 15 := ⟨9, by decide +kernel, rfl, rfl⟩
theorem zd_14_9_21 : zz_D zy_roomOf_14_9 21 (.iload_n 0) 1 22 := ⟨by decide +kernel, rfl⟩
theorem zd_14_9_22 : zz_D zy_roomOf_14_9 22 (.iconst 2) 1 23 := ⟨by decide +kernel, rfl⟩
theorem zd_14_9_23 : zz_B zy_roomOf_14_9 23 (Instr.if_icmp .ne) 32 26 := ⟨9, by decide +kernel, rfl, rfl⟩
theorem zd_14_9_32 : zz_D zy_roomOf_14_9 32 (.iload_n 0) 1 33 := ⟨by decide +kernel, rfl⟩
theorem zd_14_9_33 : zz_D zy_roomOf_14_9 33 (.iconst 3) 1 34 := ⟨by decide +kernel, rfl⟩
theorem zd_14_9_34 : zz_B zy_roomOf_14_9 34 (Instr.if_icmp .ne) 43 37 := ⟨9, by decide +kernel, rfl, rfl⟩
theorem zd_14_9_43 : zz_D zy_roomOf_14_9 43 (.sipush 256) 3 46 := ⟨by decide +kernel, rfl⟩
theorem zd_14_9_46 : zz_D zy_roomOf_14_9 46 (.ireturn) 1 47 := ⟨by decide +kernel, rfl⟩
theorem zd_14_9_37 : zz_D zy_roomOf_14_9 37 (.sipush 256) 3 40 := ⟨by decide +kernel, rfl⟩
theorem zd_14_9_40 : zz_B zy_roomOf_14_9 40 Instr.goto 46 43 := ⟨6, by decide +kernel, rfl, rfl⟩
theorem zd_14_9_26 : zz_D zy_roomOf_14_9 26 (.sipush 512) 3 29 := ⟨by decide +kernel, rfl⟩
theorem zd_14_9_29 : zz_B zy_roomOf_14_9 29 Instr.goto 46 32 := ⟨17, by decide +kernel, rfl, rfl⟩
theorem zd_14_9_15 : zz_D zy_roomOf_14_9 15 (.sipush 512) 3 18 := ⟨by decide +kernel, rfl⟩
theorem zd_14_9_18 : zz_B zy_roomOf_14_9 18 Instr.goto 46 21 := ⟨28, by decide +kernel, rfl, rfl⟩
theorem zd_14_9_4 : zz_D zy_roomOf_14_9 4 (.sipush 4096) 3 7 := ⟨by decide +kernel, rfl⟩
theorem zd_14_9_7 : zz_B zy_roomOf_14_9 7 Instr.goto 46 10 := ⟨39, by decide +kernel, rfl, rfl⟩
-- TensorForgeModel roomOf (I)I
abbrev zr_roomOf_14_9 : Room := { frames := 0, cells := 0, slots := 0, locals := 0 }
def zp_roomOf_14_9 (p0 : Int) (S0 : zz_S) : Int → zz_S → Prop := fun r S => S0 = S ∧ (256 ≤ r ∧ r ≤ 4096) ∧ ((p0 = 0 ∧ r = 4096) ∨ (p0 = 1 ∧ r = 512) ∨ (p0 = 2 ∧ r = 512) ∨ (p0 = 3 ∧ r = 256) ∨ (p0 ≠ 0 ∧ p0 ≠ 1 ∧ p0 ≠ 2 ∧ p0 ≠ 3 ∧ r = 256))
theorem zc_roomOf_14_9 {g : mm_G} {l : Launch} (p0 : Int) (S0 : zz_S) (n : Nat) (hn : zz_end ≤ n) (G_S0 : zz_G S0) (hp0 : (-2147483648) ≤ p0 ∧ p0 ≤ 2147483647) : mm_Met g l zy_roomOf_14_9 zr_roomOf_14_9 [zi p0] (zz_M S0 n) n (zz_QI n (zp_roomOf_14_9 p0 S0)) := by
  refine zz_enter (by decide) (Nat.le_of_ble_eq_true rfl) (zz_less (ls1 := [some (zi p0)]) ⟨rfl, trivial⟩ ?_)
  refine zz_iload_n (x := p0) rfl zd_14_9_0 ?_
  refine zz_if_ne (by omega) zd_14_9_1 (fun c1 => ?_) (fun c1 => ?_)
  · refine zz_iload_n (x := p0) rfl zd_14_9_10 ?_
    refine zz_iconst zd_14_9_11 ?_
    refine zz_icmp_ne (by omega) (by omega) zd_14_9_12 (fun c2 => ?_) (fun c2 => ?_)
    · refine zz_iload_n (x := p0) rfl zd_14_9_21 ?_
      refine zz_iconst zd_14_9_22 ?_
      refine zz_icmp_ne (by omega) (by omega) zd_14_9_23 (fun c3 => ?_) (fun c3 => ?_)
      · refine zz_iload_n (x := p0) rfl zd_14_9_32 ?_
        refine zz_iconst zd_14_9_33 ?_
        refine zz_icmp_ne (by omega) (by omega) zd_14_9_34 (fun c4 => ?_) (fun c4 => ?_)
        · refine zz_sipush (by decide) zd_14_9_43 ?_
          exact zz_iret zd_14_9_46 rfl (Nat.zero_le _) (Nat.zero_le _) ⟨_, _, rfl, rfl, by omega, by omega⟩
        · refine zz_sipush (by decide) zd_14_9_37 ?_
          refine zz_goto zd_14_9_40 ?_
          exact zz_iret zd_14_9_46 rfl (Nat.zero_le _) (Nat.zero_le _) ⟨_, _, rfl, rfl, by omega, by omega⟩
      · refine zz_sipush (by decide) zd_14_9_26 ?_
        refine zz_goto zd_14_9_29 ?_
        exact zz_iret zd_14_9_46 rfl (Nat.zero_le _) (Nat.zero_le _) ⟨_, _, rfl, rfl, by omega, by omega⟩
    · refine zz_sipush (by decide) zd_14_9_15 ?_
      refine zz_goto zd_14_9_18 ?_
      exact zz_iret zd_14_9_46 rfl (Nat.zero_le _) (Nat.zero_le _) ⟨_, _, rfl, rfl, by omega, by omega⟩
  · refine zz_sipush (by decide) zd_14_9_4 ?_
    refine zz_goto zd_14_9_7 ?_
    exact zz_iret zd_14_9_46 rfl (Nat.zero_le _) (Nat.zero_le _) ⟨_, _, rfl, rfl, by omega, by omega⟩
abbrev zy_look_14_10 : mm_Y := (⟨"TensorForgeModel", "look", "(II)I"⟩, prog_14_method_10_code, 4, (some .int))
theorem zyw_look_14_10 : mm_Yw zy_look_14_10 2 := ⟨mm_tb_1 1851 (by decide +kernel) rfl, mm_tb_1 12 (by decide +kernel) rfl, ⟨by decide, by decide⟩, by decide +kernel⟩
theorem zd_14_10_0 : zz_D zy_look_14_10 0 (.iload_n 1) 1 1 := ⟨by decide +kernel, rfl⟩
theorem zd_14_10_1 : zz_D zy_look_14_10 1 (.i2l) 1 2 := ⟨by decide +kernel, rfl⟩
theorem zd_14_10_2 : zz_D zy_look_14_10 2 (.lconst 0) 1 3 := ⟨by decide +kernel, rfl⟩
theorem zd_14_10_3 : zz_D zy_look_14_10 3 (.ldc2_w 210) 3 6 := ⟨by decide +kernel, rfl⟩
theorem zq_Md_210 : Cond.constantLong "TensorForgeModel" 210 (4 : Int64) ∈ mm_tb := mm_tb_1 1852 (by decide +kernel) rfl
theorem zd_14_10_6 : zz_D zy_look_14_10 6 (.invokestatic 192) 3 9 := ⟨by decide +kernel, rfl⟩
theorem zd_14_10_9 : zz_D zy_look_14_10 9 (.istore_n 3) 1 10 := ⟨by decide +kernel, rfl⟩
theorem zd_14_10_10 : zz_D zy_look_14_10 10 (.aload_n 0) 1 11 := ⟨by decide +kernel, rfl⟩
theorem zd_14_10_11 : zz_D zy_look_14_10 11 (.iload_n 3) 1 12 := ⟨by decide +kernel, rfl⟩
theorem zd_14_10_12 : zz_B zy_look_14_10 12 (Instr.ifCond .ne) 19 15 := ⟨7, by decide +kernel, rfl, rfl⟩
theorem zd_14_10_15 : zz_D zy_look_14_10 15 (.iconst 1) 1 16 := ⟨by decide +kernel, rfl⟩
theorem zd_14_10_16 : zz_B zy_look_14_10 16 Instr.goto 20 19 := ⟨4, by decide +kernel, rfl, rfl⟩
theorem zd_14_10_20 : zz_D zy_look_14_10 20 (.iload_n 3) 1 21 := ⟨by decide +kernel, rfl⟩
theorem zd_14_10_21 : zz_B zy_look_14_10 21 (Instr.ifCond .eq) 44 24 := ⟨23, by decide +kernel, rfl, rfl⟩
theorem zd_14_10_44 : zz_D zy_look_14_10 44 (.iconst 0) 1 45 := ⟨by decide +kernel, rfl⟩
theorem zd_14_10_45 : zz_D zy_look_14_10 45 (.iconst 0) 1 46 := ⟨by decide +kernel, rfl⟩
theorem zd_14_10_46 : zz_D zy_look_14_10 46 (.invokevirtual 196) 3 49 := ⟨by decide +kernel, rfl⟩
theorem zd_14_10_49 : zz_B zy_look_14_10 49 (Instr.ifCond .eq) 54 52 := ⟨5, by decide +kernel, rfl, rfl⟩
theorem zd_14_10_52 : zz_D zy_look_14_10 52 (.iconst 0) 1 53 := ⟨by decide +kernel, rfl⟩
theorem zd_14_10_53 : zz_D zy_look_14_10 53 (.ireturn) 1 54 := ⟨by decide +kernel, rfl⟩
theorem zd_14_10_19 : zz_D zy_look_14_10 19 (.iconst 0) 1 20 := ⟨by decide +kernel, rfl⟩
theorem zd_14_10_24 : zz_D zy_look_14_10 24 (.iload_n 2) 1 25 := ⟨by decide +kernel, rfl⟩
theorem zd_14_10_25 : zz_D zy_look_14_10 25 (.i2l) 1 26 := ⟨by decide +kernel, rfl⟩
theorem zd_14_10_26 : zz_D zy_look_14_10 26 (.lconst 0) 1 27 := ⟨by decide +kernel, rfl⟩
theorem zd_14_10_27 : zz_D zy_look_14_10 27 (.iload_n 1) 1 28 := ⟨by decide +kernel, rfl⟩
theorem zd_14_10_28 : zz_D zy_look_14_10 28 (.invokestatic 212) 3 31 := ⟨by decide +kernel, rfl⟩
theorem zk_Md_212 : mm_Sl "TensorForgeModel" 212 1 zy_roomOf_14_9 := ⟨zyw_roomOf_14_9, mm_tb_1 1853 (by decide +kernel) rfl, mm_tb_1 1854 (by decide +kernel) rfl⟩
theorem zd_14_10_31 : zz_D zy_look_14_10 31 (.iconst 1) 1 32 := ⟨by decide +kernel, rfl⟩
theorem zd_14_10_32 : zz_D zy_look_14_10 32 (.isub) 1 33 := ⟨by decide +kernel, rfl⟩
theorem zd_14_10_33 : zz_D zy_look_14_10 33 (.i2l) 1 34 := ⟨by decide +kernel, rfl⟩
theorem zd_14_10_34 : zz_D zy_look_14_10 34 (.invokestatic 192) 3 37 := ⟨by decide +kernel, rfl⟩
theorem zd_14_10_37 : zz_B zy_look_14_10 37 (Instr.ifCond .ne) 44 40 := ⟨7, by decide +kernel, rfl, rfl⟩
theorem zd_14_10_40 : zz_D zy_look_14_10 40 (.iconst 1) 1 41 := ⟨by decide +kernel, rfl⟩
theorem zd_14_10_41 : zz_B zy_look_14_10 41 Instr.goto 45 44 := ⟨4, by decide +kernel, rfl, rfl⟩
theorem zd_14_10_54 : zz_D zy_look_14_10 54 (.iload_n 1) 1 55 := ⟨by decide +kernel, rfl⟩
theorem zd_14_10_55 : zz_B zy_look_14_10 55 (Instr.ifCond .ne) 67 58 := ⟨12, by decide +kernel, rfl, rfl⟩
theorem zd_14_10_67 : zz_D zy_look_14_10 67 (.iload_n 1) 1 68 := ⟨by decide +kernel, rfl⟩
theorem zd_14_10_68 : zz_D zy_look_14_10 68 (.iconst 1) 1 69 := ⟨by decide +kernel, rfl⟩
theorem zd_14_10_69 : zz_B zy_look_14_10 69 (Instr.if_icmp .ne) 81 72 := ⟨12, by decide +kernel, rfl, rfl⟩
theorem zd_14_10_81 : zz_D zy_look_14_10 81 (.iload_n 1) 1 82 := ⟨by decide +kernel, rfl⟩
theorem zd_14_10_82 : zz_D zy_look_14_10 82 (.iconst 2) 1 83 := ⟨by decide +kernel, rfl⟩
theorem zd_14_10_83 : zz_B zy_look_14_10 83 (Instr.if_icmp .ne) 95 86 := ⟨12, by decide +kernel, rfl, rfl⟩
theorem zd_14_10_95 : zz_D zy_look_14_10 95 (.iload_n 1) 1 96 := ⟨by decide +kernel, rfl⟩
theorem zd_14_10_96 : zz_D zy_look_14_10 96 (.iconst 3) 1 97 := ⟨by decide +kernel, rfl⟩
theorem zd_14_10_97 : zz_B zy_look_14_10 97 (Instr.if_icmp .ne) 109 100 := ⟨12, by decide +kernel, rfl, rfl⟩
theorem zd_14_10_109 : zz_D zy_look_14_10 109 (.aload_n 0) 1 110 := ⟨by decide +kernel, rfl⟩
theorem zd_14_10_110 : zz_D zy_look_14_10 110 (.getfield 26) 3 113 := ⟨by decide +kernel, rfl⟩
theorem zd_14_10_113 : zz_D zy_look_14_10 113 (.iload_n 2) 1 114 := ⟨by decide +kernel, rfl⟩
theorem zd_14_10_114 : zz_D zy_look_14_10 114 (.iaload) 1 115 := ⟨by decide +kernel, rfl⟩
theorem zd_14_10_115 : zz_D zy_look_14_10 115 (.ireturn) 1 116 := ⟨by decide +kernel, rfl⟩
theorem zd_14_10_100 : zz_D zy_look_14_10 100 (.aload_n 0) 1 101 := ⟨by decide +kernel, rfl⟩
theorem zd_14_10_101 : zz_D zy_look_14_10 101 (.getfield 23) 3 104 := ⟨by decide +kernel, rfl⟩
theorem zd_14_10_104 : zz_D zy_look_14_10 104 (.iload_n 2) 1 105 := ⟨by decide +kernel, rfl⟩
theorem zd_14_10_105 : zz_D zy_look_14_10 105 (.iaload) 1 106 := ⟨by decide +kernel, rfl⟩
theorem zd_14_10_106 : zz_B zy_look_14_10 106 Instr.goto 115 109 := ⟨9, by decide +kernel, rfl, rfl⟩
theorem zd_14_10_86 : zz_D zy_look_14_10 86 (.aload_n 0) 1 87 := ⟨by decide +kernel, rfl⟩
theorem zd_14_10_87 : zz_D zy_look_14_10 87 (.getfield 20) 3 90 := ⟨by decide +kernel, rfl⟩
theorem zd_14_10_90 : zz_D zy_look_14_10 90 (.iload_n 2) 1 91 := ⟨by decide +kernel, rfl⟩
theorem zd_14_10_91 : zz_D zy_look_14_10 91 (.iaload) 1 92 := ⟨by decide +kernel, rfl⟩
theorem zd_14_10_92 : zz_B zy_look_14_10 92 Instr.goto 115 95 := ⟨23, by decide +kernel, rfl, rfl⟩
theorem zd_14_10_72 : zz_D zy_look_14_10 72 (.aload_n 0) 1 73 := ⟨by decide +kernel, rfl⟩
theorem zd_14_10_73 : zz_D zy_look_14_10 73 (.getfield 17) 3 76 := ⟨by decide +kernel, rfl⟩
theorem zd_14_10_76 : zz_D zy_look_14_10 76 (.iload_n 2) 1 77 := ⟨by decide +kernel, rfl⟩
theorem zd_14_10_77 : zz_D zy_look_14_10 77 (.iaload) 1 78 := ⟨by decide +kernel, rfl⟩
theorem zd_14_10_78 : zz_B zy_look_14_10 78 Instr.goto 115 81 := ⟨37, by decide +kernel, rfl, rfl⟩
theorem zd_14_10_58 : zz_D zy_look_14_10 58 (.aload_n 0) 1 59 := ⟨by decide +kernel, rfl⟩
theorem zd_14_10_59 : zz_D zy_look_14_10 59 (.getfield 13) 3 62 := ⟨by decide +kernel, rfl⟩
theorem zd_14_10_62 : zz_D zy_look_14_10 62 (.iload_n 2) 1 63 := ⟨by decide +kernel, rfl⟩
theorem zd_14_10_63 : zz_D zy_look_14_10 63 (.iaload) 1 64 := ⟨by decide +kernel, rfl⟩
theorem zd_14_10_64 : zz_B zy_look_14_10 64 Instr.goto 115 67 := ⟨51, by decide +kernel, rfl, rfl⟩
-- TensorForgeModel look (II)I
abbrev zr_look_14_10 : Room := { frames := 1, cells := 0, slots := 0, locals := 19 }
def zp_look_14_10 (p0 : Int) (p1 : Int) (S0 : zz_S) : Int → zz_S → Prop := fun r S => zz_G S ∧ zz_fr [(1079, 0)] [] (fun _ _ => False) S0 S ∧ ((-2147483648) ≤ r ∧ r ≤ 2147483647)
theorem zc_look_14_10 {g : mm_G} {l : Launch} (p0 : Int) (p1 : Int) (S0 : zz_S) (n : Nat) (hn : zz_end ≤ n) (G_S0 : zz_G S0) (hp0 : (-2147483648) ≤ p0 ∧ p0 ≤ 2147483647) (hp1 : (-2147483648) ≤ p1 ∧ p1 ≤ 2147483647) : mm_Met g l zy_look_14_10 zr_look_14_10 [.ref 1079, zi p0, zi p1] (zz_M S0 n) n (zz_QI n (zp_look_14_10 p0 p1 S0)) := by
  refine zz_enter (by decide) (Nat.le_of_ble_eq_true rfl) (zz_less (ls1 := [some (.ref 1079), some (zi p0), some (zi p1)]) ⟨rfl, ⟨rfl, ⟨rfl, trivial⟩⟩⟩ ?_)
  have F_S0 : zz_fr [(1079, 0)] [] (fun _ _ => False) S0 S0 := zz_fr.refl
  refine zz_iload_n (x := p0) rfl zd_14_10_0 ?_
  refine zz_i2l (by omega) zd_14_10_1 ?_
  refine zz_lconst (z := 0) (by decide) zd_14_10_2 ?_
  refine zz_ldc2 (z := 4) zq_Md_210 (by decide) zd_14_10_3 ?_
  refine zz_callSI [zl p0, zl 0, zl 4] zd_14_10_6 zk_Md_192 rfl rfl ⟨Nat.le_of_ble_eq_true rfl, Nat.le_of_ble_eq_true rfl⟩ ⟨rfl, rfl⟩ (Nat.zero_le _) (Nat.zero_le _) (zc_in_14_4 p0 0 4 S0 n hn G_S0 (by omega) (by omega) (by omega)) (fun v2 S1 hP => ?_)
  obtain ⟨rfl, o3, o4⟩ := hP
  rcases (by omega : v2 = 0 ∨ v2 = 1) with rfl | rfl
  · refine zz_istore_n [some (.ref 1079), some (zi p0), some (zi p1), some (zi 0)] zd_14_10_9 (by decide) rfl ?_
    refine zz_aload_n (x := 1079) rfl zd_14_10_10 ?_
    refine zz_iload_n (x := 0) rfl zd_14_10_11 ?_
    refine zz_if_ne (by omega) zd_14_10_12 (fun c5 => ?_) (fun c5 => ?_)
    · exfalso; omega
    · refine zz_iconst zd_14_10_15 ?_
      refine zz_goto zd_14_10_16 ?_
      refine zz_iload_n (x := 0) rfl zd_14_10_20 ?_
      refine zz_if_eq (by omega) zd_14_10_21 (fun c6 => ?_) (fun c6 => ?_)
      · refine zz_iconst zd_14_10_44 ?_
        refine zz_iconst zd_14_10_45 ?_
        refine zz_callVI [zi 1, zi 0, zi 0] zd_14_10_46 zk_Md_196 zT_1079 (zz_ltn hn rfl) rfl rfl ⟨Nat.le_of_ble_eq_true rfl, Nat.le_of_ble_eq_true rfl⟩ ⟨rfl, rfl⟩ (Nat.zero_le _) (Nat.zero_le _) (zc_refuse_14_3 1 0 0 S0 n hn G_S0 (by omega) (by omega) (by omega)) (fun v8 S7 hP => ?_)
        obtain ⟨G_S7, fS7, o9, o10⟩ := hP
        have F_S7 := zz_fr.trans F_S0 fS7 rfl zz_nv
        rcases (by omega : v8 = 0 ∨ v8 = 1) with rfl | rfl
        · exfalso; omega
        · have e11 : S7 1079 0 = 1 := by omega
          refine zz_if_eq (by omega) zd_14_10_49 (fun c12 => ?_) (fun c12 => ?_)
          · exfalso; omega
          · refine zz_iconst zd_14_10_52 ?_
            exact zz_iret zd_14_10_53 rfl (Nat.zero_le _) (Nat.zero_le _) ⟨_, _, rfl, G_S7, F_S7, by omega⟩
      · exfalso; omega
  · refine zz_istore_n [some (.ref 1079), some (zi p0), some (zi p1), some (zi 1)] zd_14_10_9 (by decide) rfl ?_
    refine zz_aload_n (x := 1079) rfl zd_14_10_10 ?_
    refine zz_iload_n (x := 1) rfl zd_14_10_11 ?_
    refine zz_if_ne (by omega) zd_14_10_12 (fun c13 => ?_) (fun c13 => ?_)
    · refine zz_iconst zd_14_10_19 ?_
      refine zz_iload_n (x := 1) rfl zd_14_10_20 ?_
      refine zz_if_eq (by omega) zd_14_10_21 (fun c14 => ?_) (fun c14 => ?_)
      · exfalso; omega
      · refine zz_iload_n (x := p1) rfl zd_14_10_24 ?_
        refine zz_i2l (by omega) zd_14_10_25 ?_
        refine zz_lconst (z := 0) (by decide) zd_14_10_26 ?_
        refine zz_iload_n (x := p0) rfl zd_14_10_27 ?_
        refine zz_callSI [zi p0] zd_14_10_28 zk_Md_212 rfl rfl ⟨Nat.le_of_ble_eq_true rfl, Nat.le_of_ble_eq_true rfl⟩ ⟨rfl, rfl⟩ (Nat.zero_le _) (Nat.zero_le _) (zc_roomOf_14_9 p0 S0 n hn G_S0 (by omega)) (fun v16 S15 hP => ?_)
        obtain ⟨rfl, o17, o18⟩ := hP
        refine zz_iconst zd_14_10_31 ?_
        refine zz_isub zd_14_10_32 ?_
        refine zz_i2l (by omega) zd_14_10_33 ?_
        refine zz_callSI [zl p1, zl 0, zl (v16 - 1)] zd_14_10_34 zk_Md_192 rfl rfl ⟨Nat.le_of_ble_eq_true rfl, Nat.le_of_ble_eq_true rfl⟩ ⟨rfl, rfl⟩ (Nat.zero_le _) (Nat.zero_le _) (zc_in_14_4 p1 0 (v16 - 1) S0 n hn G_S0 (by omega) (by omega) (by omega)) (fun v20 S19 hP => ?_)
        obtain ⟨rfl, o21, o22⟩ := hP
        rcases (by omega : v20 = 0 ∨ v20 = 1) with rfl | rfl
        · refine zz_if_ne (by omega) zd_14_10_37 (fun c23 => ?_) (fun c23 => ?_)
          · exfalso; omega
          · refine zz_iconst zd_14_10_40 ?_
            refine zz_goto zd_14_10_41 ?_
            refine zz_iconst zd_14_10_45 ?_
            refine zz_callVI [zi 0, zi 1, zi 0] zd_14_10_46 zk_Md_196 zT_1079 (zz_ltn hn rfl) rfl rfl ⟨Nat.le_of_ble_eq_true rfl, Nat.le_of_ble_eq_true rfl⟩ ⟨rfl, rfl⟩ (Nat.zero_le _) (Nat.zero_le _) (zc_refuse_14_3 0 1 0 S0 n hn G_S0 (by omega) (by omega) (by omega)) (fun v25 S24 hP => ?_)
            obtain ⟨G_S24, fS24, o26, o27⟩ := hP
            have F_S24 := zz_fr.trans F_S0 fS24 rfl zz_nv
            rcases (by omega : v25 = 0 ∨ v25 = 1) with rfl | rfl
            · exfalso; omega
            · have e28 : S24 1079 0 = 2 := by omega
              refine zz_if_eq (by omega) zd_14_10_49 (fun c29 => ?_) (fun c29 => ?_)
              · exfalso; omega
              · refine zz_iconst zd_14_10_52 ?_
                exact zz_iret zd_14_10_53 rfl (Nat.zero_le _) (Nat.zero_le _) ⟨_, _, rfl, G_S24, F_S24, by omega⟩
        · refine zz_if_ne (by omega) zd_14_10_37 (fun c30 => ?_) (fun c30 => ?_)
          · refine zz_iconst zd_14_10_44 ?_
            refine zz_iconst zd_14_10_45 ?_
            refine zz_callVI [zi 0, zi 0, zi 0] zd_14_10_46 zk_Md_196 zT_1079 (zz_ltn hn rfl) rfl rfl ⟨Nat.le_of_ble_eq_true rfl, Nat.le_of_ble_eq_true rfl⟩ ⟨rfl, rfl⟩ (Nat.zero_le _) (Nat.zero_le _) (zc_refuse_14_3 0 0 0 S0 n hn G_S0 (by omega) (by omega) (by omega)) (fun v32 S31 hP => ?_)
            obtain ⟨G_S31, fS31, o33, o34⟩ := hP
            have F_S31 := zz_fr.trans F_S0 fS31 rfl zz_nv
            rcases (by omega : v32 = 0 ∨ v32 = 1) with rfl | rfl
            · have e35 : S31 1079 0 = 0 := by omega
              refine zz_if_eq (by omega) zd_14_10_49 (fun c36 => ?_) (fun c36 => ?_)
              · refine zz_iload_n (x := p0) rfl zd_14_10_54 ?_
                refine zz_if_ne (by omega) zd_14_10_55 (fun c37 => ?_) (fun c37 => ?_)
                · refine zz_iload_n (x := p0) rfl zd_14_10_67 ?_
                  refine zz_iconst zd_14_10_68 ?_
                  refine zz_icmp_ne (by omega) (by omega) zd_14_10_69 (fun c38 => ?_) (fun c38 => ?_)
                  · refine zz_iload_n (x := p0) rfl zd_14_10_81 ?_
                    refine zz_iconst zd_14_10_82 ?_
                    refine zz_icmp_ne (by omega) (by omega) zd_14_10_83 (fun c39 => ?_) (fun c39 => ?_)
                    · refine zz_iload_n (x := p0) rfl zd_14_10_95 ?_
                      refine zz_iconst zd_14_10_96 ?_
                      refine zz_icmp_ne (by omega) (by omega) zd_14_10_97 (fun c40 => ?_) (fun c40 => ?_)
                      · refine zz_aload_n (x := 1079) rfl zd_14_10_109 ?_
                        refine zz_getr (kd := 0) (z := 1084) zd_14_10_110 zf_Md_26 zT_1079 rfl (zz_ltn hn rfl) (zz_G.eq G_S31 1079 6 1084 rfl rfl) (by decide) 1084 rfl ?_
                        refine zz_iload_n (x := p1) rfl zd_14_10_113 ?_
                        have g41 := zz_G.r G_S0 1084 p1.toNat (-2147483648) 2147483647 rfl rfl
                        refine zz_iald (z := S0 1084 p1.toNat) zd_14_10_114 zT_1084 rfl (zz_ltn hn rfl) (by decide) (by omega) (zz_rc fS31 (zz_nc1 rfl) rfl (fun h => h) rfl) ?_
                        exact zz_iret zd_14_10_115 rfl (Nat.zero_le _) (Nat.zero_le _) ⟨_, _, rfl, G_S31, F_S31, by omega⟩
                      · refine zz_aload_n (x := 1079) rfl zd_14_10_100 ?_
                        refine zz_getr (kd := 0) (z := 1083) zd_14_10_101 zf_Md_23 zT_1079 rfl (zz_ltn hn rfl) (zz_G.eq G_S31 1079 5 1083 rfl rfl) (by decide) 1083 rfl ?_
                        refine zz_iload_n (x := p1) rfl zd_14_10_104 ?_
                        have g42 := zz_G.r G_S0 1083 p1.toNat (-2147483648) 2147483647 rfl rfl
                        refine zz_iald (z := S0 1083 p1.toNat) zd_14_10_105 zT_1083 rfl (zz_ltn hn rfl) (by decide) (by omega) (zz_rc fS31 (zz_nc1 rfl) rfl (fun h => h) rfl) ?_
                        refine zz_goto zd_14_10_106 ?_
                        exact zz_iret zd_14_10_115 rfl (Nat.zero_le _) (Nat.zero_le _) ⟨_, _, rfl, G_S31, F_S31, by omega⟩
                    · refine zz_aload_n (x := 1079) rfl zd_14_10_86 ?_
                      refine zz_getr (kd := 0) (z := 1082) zd_14_10_87 zf_Md_20 zT_1079 rfl (zz_ltn hn rfl) (zz_G.eq G_S31 1079 4 1082 rfl rfl) (by decide) 1082 rfl ?_
                      refine zz_iload_n (x := p1) rfl zd_14_10_90 ?_
                      have g43 := zz_G.r G_S0 1082 p1.toNat (-2147483648) 2147483647 rfl rfl
                      refine zz_iald (z := S0 1082 p1.toNat) zd_14_10_91 zT_1082 rfl (zz_ltn hn rfl) (by decide) (by omega) (zz_rc fS31 (zz_nc1 rfl) rfl (fun h => h) rfl) ?_
                      refine zz_goto zd_14_10_92 ?_
                      exact zz_iret zd_14_10_115 rfl (Nat.zero_le _) (Nat.zero_le _) ⟨_, _, rfl, G_S31, F_S31, by omega⟩
                  · refine zz_aload_n (x := 1079) rfl zd_14_10_72 ?_
                    refine zz_getr (kd := 0) (z := 1081) zd_14_10_73 zf_Md_17 zT_1079 rfl (zz_ltn hn rfl) (zz_G.eq G_S31 1079 3 1081 rfl rfl) (by decide) 1081 rfl ?_
                    refine zz_iload_n (x := p1) rfl zd_14_10_76 ?_
                    have g44 := zz_G.r G_S0 1081 p1.toNat (-2147483648) 2147483647 rfl rfl
                    refine zz_iald (z := S0 1081 p1.toNat) zd_14_10_77 zT_1081 rfl (zz_ltn hn rfl) (by decide) (by omega) (zz_rc fS31 (zz_nc1 rfl) rfl (fun h => h) rfl) ?_
                    refine zz_goto zd_14_10_78 ?_
                    exact zz_iret zd_14_10_115 rfl (Nat.zero_le _) (Nat.zero_le _) ⟨_, _, rfl, G_S31, F_S31, by omega⟩
                · refine zz_aload_n (x := 1079) rfl zd_14_10_58 ?_
                  refine zz_getr (kd := 0) (z := 1080) zd_14_10_59 zf_Md_13 zT_1079 rfl (zz_ltn hn rfl) (zz_G.eq G_S31 1079 2 1080 rfl rfl) (by decide) 1080 rfl ?_
                  refine zz_iload_n (x := p1) rfl zd_14_10_62 ?_
                  have g45 := zz_G.r G_S0 1080 p1.toNat (-2147483648) 2147483647 rfl rfl
                  refine zz_iald (z := S0 1080 p1.toNat) zd_14_10_63 zT_1080 rfl (zz_ltn hn rfl) (by decide) (by omega) (zz_rc fS31 (zz_nc1 rfl) rfl (fun h => h) rfl) ?_
                  refine zz_goto zd_14_10_64 ?_
                  exact zz_iret zd_14_10_115 rfl (Nat.zero_le _) (Nat.zero_le _) ⟨_, _, rfl, G_S31, F_S31, by omega⟩
              · exfalso; omega
            · exfalso; omega
          · exfalso; omega
    · exfalso; omega
abbrev zy_bitsOf_14_11 : mm_Y := (⟨"TensorForgeModel", "bitsOf", "(I)I"⟩, prog_14_method_11_code, 1, (some .int))
theorem zyw_bitsOf_14_11 : mm_Yw zy_bitsOf_14_11 1 := ⟨mm_tb_1 1866 (by decide +kernel) rfl, mm_tb_1 12 (by decide +kernel) rfl, ⟨by decide, by decide⟩, by decide +kernel⟩
theorem zd_14_11_0 : zz_D zy_bitsOf_14_11 0 (.iload_n 0) 1 1 := ⟨by decide +kernel, rfl⟩
theorem zd_14_11_1 : zz_W zy_bitsOf_14_11 1 79 0 11 #[63, 79, 79, 79, 79, 65, 68, 71, 73, 73, 76, 71] := ⟨63, by decide +kernel⟩
theorem zd_14_11_64 : zz_D zy_bitsOf_14_11 64 (.iconst 4) 1 65 := ⟨by decide +kernel, rfl⟩
theorem zd_14_11_65 : zz_D zy_bitsOf_14_11 65 (.ireturn) 1 66 := ⟨by decide +kernel, rfl⟩
theorem zd_14_11_80 : zz_D zy_bitsOf_14_11 80 (.iconst 1) 1 81 := ⟨by decide +kernel, rfl⟩
theorem zd_14_11_81 : zz_D zy_bitsOf_14_11 81 (.ireturn) 1 82 := ⟨by decide +kernel, rfl⟩
theorem zd_14_11_66 : zz_D zy_bitsOf_14_11 66 (.bipush 12) 2 68 := ⟨by decide +kernel, rfl⟩
theorem zd_14_11_68 : zz_D zy_bitsOf_14_11 68 (.ireturn) 1 69 := ⟨by decide +kernel, rfl⟩
theorem zd_14_11_69 : zz_D zy_bitsOf_14_11 69 (.bipush 6) 2 71 := ⟨by decide +kernel, rfl⟩
theorem zd_14_11_71 : zz_D zy_bitsOf_14_11 71 (.ireturn) 1 72 := ⟨by decide +kernel, rfl⟩
theorem zd_14_11_72 : zz_D zy_bitsOf_14_11 72 (.iconst 5) 1 73 := ⟨by decide +kernel, rfl⟩
theorem zd_14_11_73 : zz_D zy_bitsOf_14_11 73 (.ireturn) 1 74 := ⟨by decide +kernel, rfl⟩
theorem zd_14_11_74 : zz_D zy_bitsOf_14_11 74 (.bipush 9) 2 76 := ⟨by decide +kernel, rfl⟩
theorem zd_14_11_76 : zz_D zy_bitsOf_14_11 76 (.ireturn) 1 77 := ⟨by decide +kernel, rfl⟩
theorem zd_14_11_77 : zz_D zy_bitsOf_14_11 77 (.bipush 10) 2 79 := ⟨by decide +kernel, rfl⟩
theorem zd_14_11_79 : zz_D zy_bitsOf_14_11 79 (.ireturn) 1 80 := ⟨by decide +kernel, rfl⟩
-- TensorForgeModel bitsOf (I)I
abbrev zr_bitsOf_14_11 : Room := { frames := 0, cells := 0, slots := 0, locals := 0 }
def zp_bitsOf_14_11 (p0 : Int) (S0 : zz_S) : Int → zz_S → Prop := fun r S => S0 = S ∧ (1 ≤ r ∧ r ≤ 12)
theorem zc_bitsOf_14_11 {g : mm_G} {l : Launch} (p0 : Int) (S0 : zz_S) (n : Nat) (hn : zz_end ≤ n) (G_S0 : zz_G S0) (hp0 : (-2147483648) ≤ p0 ∧ p0 ≤ 2147483647) : mm_Met g l zy_bitsOf_14_11 zr_bitsOf_14_11 [zi p0] (zz_M S0 n) n (zz_QI n (zp_bitsOf_14_11 p0 S0)) := by
  refine zz_enter (by decide) (Nat.le_of_ble_eq_true rfl) (zz_less (ls1 := [some (zi p0)]) ⟨rfl, trivial⟩ ?_)
  refine zz_iload_n (x := p0) rfl zd_14_11_0 ?_
  by_cases c1 : p0 = 0
  · refine zz_swIn 0 63 c1 (by decide) zd_14_11_1 rfl rfl ?_
    refine zz_iconst zd_14_11_64 ?_
    exact zz_iret zd_14_11_65 rfl (Nat.zero_le _) (Nat.zero_le _) ⟨_, _, rfl, rfl, by omega⟩
  by_cases c2 : p0 = 1
  · refine zz_swIn 1 79 c2 (by decide) zd_14_11_1 rfl rfl ?_
    refine zz_iconst zd_14_11_80 ?_
    exact zz_iret zd_14_11_81 rfl (Nat.zero_le _) (Nat.zero_le _) ⟨_, _, rfl, rfl, by omega⟩
  by_cases c3 : p0 = 2
  · refine zz_swIn 2 79 c3 (by decide) zd_14_11_1 rfl rfl ?_
    refine zz_iconst zd_14_11_80 ?_
    exact zz_iret zd_14_11_81 rfl (Nat.zero_le _) (Nat.zero_le _) ⟨_, _, rfl, rfl, by omega⟩
  by_cases c4 : p0 = 3
  · refine zz_swIn 3 79 c4 (by decide) zd_14_11_1 rfl rfl ?_
    refine zz_iconst zd_14_11_80 ?_
    exact zz_iret zd_14_11_81 rfl (Nat.zero_le _) (Nat.zero_le _) ⟨_, _, rfl, rfl, by omega⟩
  by_cases c5 : p0 = 4
  · refine zz_swIn 4 79 c5 (by decide) zd_14_11_1 rfl rfl ?_
    refine zz_iconst zd_14_11_80 ?_
    exact zz_iret zd_14_11_81 rfl (Nat.zero_le _) (Nat.zero_le _) ⟨_, _, rfl, rfl, by omega⟩
  by_cases c6 : p0 = 5
  · refine zz_swIn 5 65 c6 (by decide) zd_14_11_1 rfl rfl ?_
    refine zz_bipush (by decide) zd_14_11_66 ?_
    exact zz_iret zd_14_11_68 rfl (Nat.zero_le _) (Nat.zero_le _) ⟨_, _, rfl, rfl, by omega⟩
  by_cases c7 : p0 = 6
  · refine zz_swIn 6 68 c7 (by decide) zd_14_11_1 rfl rfl ?_
    refine zz_bipush (by decide) zd_14_11_69 ?_
    exact zz_iret zd_14_11_71 rfl (Nat.zero_le _) (Nat.zero_le _) ⟨_, _, rfl, rfl, by omega⟩
  by_cases c8 : p0 = 7
  · refine zz_swIn 7 71 c8 (by decide) zd_14_11_1 rfl rfl ?_
    refine zz_iconst zd_14_11_72 ?_
    exact zz_iret zd_14_11_73 rfl (Nat.zero_le _) (Nat.zero_le _) ⟨_, _, rfl, rfl, by omega⟩
  by_cases c9 : p0 = 8
  · refine zz_swIn 8 73 c9 (by decide) zd_14_11_1 rfl rfl ?_
    refine zz_bipush (by decide) zd_14_11_74 ?_
    exact zz_iret zd_14_11_76 rfl (Nat.zero_le _) (Nat.zero_le _) ⟨_, _, rfl, rfl, by omega⟩
  by_cases c10 : p0 = 9
  · refine zz_swIn 9 73 c10 (by decide) zd_14_11_1 rfl rfl ?_
    refine zz_bipush (by decide) zd_14_11_74 ?_
    exact zz_iret zd_14_11_76 rfl (Nat.zero_le _) (Nat.zero_le _) ⟨_, _, rfl, rfl, by omega⟩
  by_cases c11 : p0 = 10
  · refine zz_swIn 10 76 c11 (by decide) zd_14_11_1 rfl rfl ?_
    refine zz_bipush (by decide) zd_14_11_77 ?_
    exact zz_iret zd_14_11_79 rfl (Nat.zero_le _) (Nat.zero_le _) ⟨_, _, rfl, rfl, by omega⟩
  by_cases c12 : p0 = 11
  · refine zz_swIn 11 71 c12 (by decide) zd_14_11_1 rfl rfl ?_
    refine zz_iconst zd_14_11_72 ?_
    exact zz_iret zd_14_11_73 rfl (Nat.zero_le _) (Nat.zero_le _) ⟨_, _, rfl, rfl, by omega⟩
  refine zz_swOut (by omega) (by omega) zd_14_11_1 rfl ?_
  refine zz_iconst zd_14_11_80 ?_
  exact zz_iret zd_14_11_81 rfl (Nat.zero_le _) (Nat.zero_le _) ⟨_, _, rfl, rfl, by omega⟩
abbrev zy_fieldOf_14_12 : mm_Y := (⟨"TensorForgeModel", "fieldOf", "(JI)I"⟩, prog_14_method_12_code, 5, (some .int))
theorem zyw_fieldOf_14_12 : mm_Yw zy_fieldOf_14_12 2 := ⟨mm_tb_1 1863 (by decide +kernel) rfl, mm_tb_1 12 (by decide +kernel) rfl, ⟨by decide, by decide⟩, by decide +kernel⟩
theorem zd_14_12_0 : zz_D zy_fieldOf_14_12 0 (.iconst 0) 1 1 := ⟨by decide +kernel, rfl⟩
theorem zd_14_12_1 : zz_D zy_fieldOf_14_12 1 (.istore_n 3) 1 2 := ⟨by decide +kernel, rfl⟩
theorem zd_14_12_2 : zz_D zy_fieldOf_14_12 2 (.iconst 0) 1 3 := ⟨by decide +kernel, rfl⟩
theorem zd_14_12_3 : zz_D zy_fieldOf_14_12 3 (.istore 4) 2 5 := ⟨by decide +kernel, rfl⟩
theorem zd_14_12_5 : zz_D zy_fieldOf_14_12 5 (.iload 4) 2 7 := ⟨by decide +kernel, rfl⟩
theorem zd_14_12_7 : zz_D zy_fieldOf_14_12 7 (.iload_n 2) 1 8 := ⟨by decide +kernel, rfl⟩
theorem zd_14_12_8 : zz_B zy_fieldOf_14_12 8 (Instr.if_icmp .ge) 25 11 := ⟨17, by decide +kernel, rfl, rfl⟩
theorem zd_14_12_25 : zz_D zy_fieldOf_14_12 25 (.lload_n 0) 1 26 := ⟨by decide +kernel, rfl⟩
theorem zd_14_12_26 : zz_D zy_fieldOf_14_12 26 (.iload_n 3) 1 27 := ⟨by decide +kernel, rfl⟩
theorem zd_14_12_27 : zz_D zy_fieldOf_14_12 27 (.lushr) 1 28 := ⟨by decide +kernel, rfl⟩
theorem zd_14_12_28 : zz_D zy_fieldOf_14_12 28 (.lconst 1) 1 29 := ⟨by decide +kernel, rfl⟩
theorem zd_14_12_29 : zz_D zy_fieldOf_14_12 29 (.iload_n 2) 1 30 := ⟨by decide +kernel, rfl⟩
theorem zd_14_12_30 : zz_D zy_fieldOf_14_12 30 (.invokestatic 215) 3 33 := ⟨by decide +kernel, rfl⟩
theorem zk_Md_215 : mm_Sl "TensorForgeModel" 215 1 zy_bitsOf_14_11 := ⟨zyw_bitsOf_14_11, mm_tb_1 1864 (by decide +kernel) rfl, mm_tb_1 1865 (by decide +kernel) rfl⟩
theorem zd_14_12_33 : zz_D zy_fieldOf_14_12 33 (.lshl) 1 34 := ⟨by decide +kernel, rfl⟩
theorem zd_14_12_34 : zz_D zy_fieldOf_14_12 34 (.lconst 1) 1 35 := ⟨by decide +kernel, rfl⟩
theorem zd_14_12_35 : zz_D zy_fieldOf_14_12 35 (.lsub) 1 36 := ⟨by decide +kernel, rfl⟩
theorem zd_14_12_36 : zz_D zy_fieldOf_14_12 36 (.land) 1 37 := ⟨by decide +kernel, rfl⟩
theorem zd_14_12_37 : zz_D zy_fieldOf_14_12 37 (.l2i) 1 38 := ⟨by decide +kernel, rfl⟩
theorem zd_14_12_38 : zz_D zy_fieldOf_14_12 38 (.ireturn) 1 39 := ⟨by decide +kernel, rfl⟩
theorem zd_14_12_11 : zz_D zy_fieldOf_14_12 11 (.iload_n 3) 1 12 := ⟨by decide +kernel, rfl⟩
theorem zd_14_12_12 : zz_D zy_fieldOf_14_12 12 (.iload 4) 2 14 := ⟨by decide +kernel, rfl⟩
theorem zd_14_12_14 : zz_D zy_fieldOf_14_12 14 (.invokestatic 215) 3 17 := ⟨by decide +kernel, rfl⟩
theorem zd_14_12_17 : zz_D zy_fieldOf_14_12 17 (.iadd) 1 18 := ⟨by decide +kernel, rfl⟩
theorem zd_14_12_18 : zz_D zy_fieldOf_14_12 18 (.istore_n 3) 1 19 := ⟨by decide +kernel, rfl⟩
theorem zd_14_12_19 : zz_D zy_fieldOf_14_12 19 (.iinc 4 1) 3 22 := ⟨by decide +kernel, rfl⟩
theorem zd_14_12_22 : zz_B zy_fieldOf_14_12 22 Instr.goto 5 25 := ⟨(-17), by decide +kernel, rfl, rfl⟩
-- TensorForgeModel fieldOf (JI)I
abbrev zr_fieldOf_14_12 : Room := { frames := 1, cells := 0, slots := 0, locals := 16 }
def zp_fieldOf_14_12 (p0 : Int) (p1 : Int) (S0 : zz_S) : Int → zz_S → Prop := fun r S => S0 = S ∧ (0 ≤ r ∧ r ≤ 4095)
theorem zb_fieldOf_14_12_5 {g : mm_G} {l : Launch} (p0 : Int) (p1 : Int) (S0 : zz_S) (n : Nat) (hn : zz_end ≤ n) (G_S0 : zz_G S0) (hp0 : (-9223372036854775808) ≤ p0 ∧ p0 ≤ 9223372036854775807) (hp1 : 0 ≤ p1 ∧ p1 ≤ 11) (x3 : Int) (x4 : Int) (S : zz_S) (G_S : zz_G S) (F_S : zz_fr [] [] (fun _ _ => False) S0 S) (i5_0 : 0 ≤ x3 ∧ x3 ≤ 200) (i5_1 : 0 ≤ x4 ∧ x4 ≤ 2147483647) (i5_2 : x3 ≤ 12 * x4) (R : Nat) (hR : (p1 - x4).toNat = R) (k5 : ∀ (x3 : Int) (x4 : Int) (S : zz_S), zz_G S → zz_fr [] [] (fun _ _ => False) S0 S → (0 ≤ x3 ∧ x3 ≤ 200) → (0 ≤ x4 ∧ x4 ≤ 2147483647) → (x3 ≤ 12 * x4) → (p1 - x4).toNat < R → zz_E g l zy_fieldOf_14_12 zr_fieldOf_14_12 (zz_QI n (zp_fieldOf_14_12 p0 p1 S0)) S n 5 [some (zl p0), none, some (zi p1), some (zi x3), some (zi x4)] [] 0 0) : zz_E g l zy_fieldOf_14_12 zr_fieldOf_14_12 (zz_QI n (zp_fieldOf_14_12 p0 p1 S0)) S n 5 [some (zl p0), none, some (zi p1), some (zi x3), some (zi x4)] [] 0 0 := by
  refine zz_iload (x := x4) rfl zd_14_12_5 ?_
  refine zz_iload_n (x := p1) rfl zd_14_12_7 ?_
  refine zz_icmp_ge (by omega) (by omega) zd_14_12_8 (fun c1 => ?_) (fun c1 => ?_)
  · refine zz_lload_n (x := p0) rfl zd_14_12_25 ?_
    refine zz_iload_n (x := x3) rfl zd_14_12_26 ?_
    refine zz_lushr zd_14_12_27 (fun v2 hv2 ev2 => ?_)
    refine zz_lconst (z := 1) (by decide) zd_14_12_28 ?_
    refine zz_iload_n (x := p1) rfl zd_14_12_29 ?_
    refine zz_callSI [zi p1] zd_14_12_30 zk_Md_215 rfl rfl ⟨Nat.le_of_ble_eq_true rfl, Nat.le_of_ble_eq_true rfl⟩ ⟨rfl, rfl⟩ (Nat.zero_le _) (Nat.zero_le _) (zc_bitsOf_14_11 p1 S n hn G_S (by omega)) (fun v4 S3 hP => ?_)
    obtain ⟨rfl, o5⟩ := hP
    refine zz_lshl zd_14_12_33 (fun v6 hv6 ev6 => ?_)
    have av6 := zz_sl1 (by omega) ev6
    refine zz_lconst (z := 1) (by decide) zd_14_12_34 ?_
    refine zz_lsub zd_14_12_35 ?_
    refine zz_land zd_14_12_36 (fun v7 hv7 ev7 => ?_)
    have av7 := zz_band64 (by omega) (by omega) ev7
    refine zz_l2i (by omega) zd_14_12_37 (fun v8 hv8 av8 ev8 => ?_)
    exact zz_iret zd_14_12_38 rfl (Nat.zero_le _) (Nat.zero_le _) ⟨_, _, rfl, zz_fr.eq F_S, by omega⟩
  · refine zz_iload_n (x := x3) rfl zd_14_12_11 ?_
    refine zz_iload (x := x4) rfl zd_14_12_12 ?_
    refine zz_callSI [zi x4] zd_14_12_14 zk_Md_215 rfl rfl ⟨Nat.le_of_ble_eq_true rfl, Nat.le_of_ble_eq_true rfl⟩ ⟨rfl, rfl⟩ (Nat.zero_le _) (Nat.zero_le _) (zc_bitsOf_14_11 x4 S n hn G_S (by omega)) (fun v10 S9 hP => ?_)
    obtain ⟨rfl, o11⟩ := hP
    refine zz_iadd zd_14_12_17 ?_
    refine zz_istore_n [some (zl p0), none, some (zi p1), some (zi (x3 + v10)), some (zi x4)] zd_14_12_18 (by decide) rfl ?_
    refine zz_iinc [some (zl p0), none, some (zi p1), some (zi (x3 + v10)), some (zi (x4 + 1))] zd_14_12_19 rfl rfl ?_
    refine zz_goto zd_14_12_22 ?_
    refine zz_less (ls1 := [some (zl p0), none, some (zi p1), some (zi (x3 + v10)), some (zi (x4 + 1))]) ⟨rfl, ⟨rfl, ⟨rfl, ⟨rfl, trivial⟩⟩⟩⟩ ?_
    exact k5 (x3 + v10) (x4 + 1) S G_S F_S (by omega) (by omega) (by omega) (by omega)
theorem zi_fieldOf_14_12 {g : mm_G} {l : Launch} (p0 : Int) (p1 : Int) (S0 : zz_S) (n : Nat) (hn : zz_end ≤ n) (G_S0 : zz_G S0) (hp0 : (-9223372036854775808) ≤ p0 ∧ p0 ≤ 9223372036854775807) (hp1 : 0 ≤ p1 ∧ p1 ≤ 11) : ∀ N : Nat, (∀ (x3 : Int) (x4 : Int) (S : zz_S), zz_G S → zz_fr [] [] (fun _ _ => False) S0 S → (0 ≤ x3 ∧ x3 ≤ 200) → (0 ≤ x4 ∧ x4 ≤ 2147483647) → (x3 ≤ 12 * x4) → (p1 - x4).toNat < N → zz_E g l zy_fieldOf_14_12 zr_fieldOf_14_12 (zz_QI n (zp_fieldOf_14_12 p0 p1 S0)) S n 5 [some (zl p0), none, some (zi p1), some (zi x3), some (zi x4)] [] 0 0) := by
  intro N
  induction N with
  | zero => exact fun x3 x4 S _ _ _ _ _ h => absurd h (Nat.not_lt_zero _)
  | succ N ih =>
    exact fun x3 x4 S a b j0 j1 j2 hR => zb_fieldOf_14_12_5 p0 p1 S0 n hn G_S0 hp0 hp1 x3 x4 S a b j0 j1 j2 _ rfl (fun x3 x4 S a b j0 j1 j2 h => ih x3 x4 S a b j0 j1 j2 (Nat.lt_of_lt_of_le h (Nat.le_of_lt_succ hR)))
theorem zc_fieldOf_14_12 {g : mm_G} {l : Launch} (p0 : Int) (p1 : Int) (S0 : zz_S) (n : Nat) (hn : zz_end ≤ n) (G_S0 : zz_G S0) (hp0 : (-9223372036854775808) ≤ p0 ∧ p0 ≤ 9223372036854775807) (hp1 : 0 ≤ p1 ∧ p1 ≤ 11) : mm_Met g l zy_fieldOf_14_12 zr_fieldOf_14_12 [zl p0, zi p1] (zz_M S0 n) n (zz_QI n (zp_fieldOf_14_12 p0 p1 S0)) := by
  refine zz_enter (by decide) (Nat.le_of_ble_eq_true rfl) (zz_less (ls1 := [some (zl p0), none, some (zi p1)]) ⟨rfl, ⟨rfl, trivial⟩⟩ ?_)
  have F_S0 : zz_fr [] [] (fun _ _ => False) S0 S0 := zz_fr.refl
  have k5 : ∀ (x3 : Int) (x4 : Int) (S : zz_S), zz_G S → zz_fr [] [] (fun _ _ => False) S0 S → (0 ≤ x3 ∧ x3 ≤ 200) → (0 ≤ x4 ∧ x4 ≤ 2147483647) → (x3 ≤ 12 * x4) → zz_E g l zy_fieldOf_14_12 zr_fieldOf_14_12 (zz_QI n (zp_fieldOf_14_12 p0 p1 S0)) S n 5 [some (zl p0), none, some (zi p1), some (zi x3), some (zi x4)] [] 0 0 := fun x3 x4 S a b j0 j1 j2 => (zi_fieldOf_14_12 (g := g) (l := l) p0 p1 S0 n hn G_S0 hp0 hp1 _) x3 x4 S a b j0 j1 j2 (Nat.lt_succ_self _)
  refine zz_iconst zd_14_12_0 ?_
  refine zz_istore_n [some (zl p0), none, some (zi p1), some (zi 0)] zd_14_12_1 (by decide) rfl ?_
  refine zz_iconst zd_14_12_2 ?_
  refine zz_istore [some (zl p0), none, some (zi p1), some (zi 0), some (zi 0)] zd_14_12_3 (by decide) rfl ?_
  refine zz_less (ls1 := [some (zl p0), none, some (zi p1), some (zi 0), some (zi 0)]) ⟨rfl, ⟨rfl, ⟨rfl, ⟨rfl, trivial⟩⟩⟩⟩ ?_
  exact k5 0 0 S0 G_S0 F_S0 (by omega) (by omega) (by omega)
abbrev zy_field_14_13 : mm_Y := (⟨"TensorForgeModel", "field", "(JI)I"⟩, prog_14_method_13_code, 4, (some .int))
theorem zyw_field_14_13 : mm_Yw zy_field_14_13 2 := ⟨mm_tb_1 1859 (by decide +kernel) rfl, mm_tb_1 12 (by decide +kernel) rfl, ⟨by decide, by decide⟩, by decide +kernel⟩
theorem zd_14_13_0 : zz_D zy_field_14_13 0 (.aload_n 0) 1 1 := ⟨by decide +kernel, rfl⟩
theorem zd_14_13_1 : zz_D zy_field_14_13 1 (.iload_n 3) 1 2 := ⟨by decide +kernel, rfl⟩
theorem zd_14_13_2 : zz_D zy_field_14_13 2 (.i2l) 1 3 := ⟨by decide +kernel, rfl⟩
theorem zd_14_13_3 : zz_D zy_field_14_13 3 (.lconst 0) 1 4 := ⟨by decide +kernel, rfl⟩
theorem zd_14_13_4 : zz_D zy_field_14_13 4 (.ldc2_w 218) 3 7 := ⟨by decide +kernel, rfl⟩
theorem zq_Md_218 : Cond.constantLong "TensorForgeModel" 218 (11 : Int64) ∈ mm_tb := mm_tb_1 1860 (by decide +kernel) rfl
theorem zd_14_13_7 : zz_D zy_field_14_13 7 (.invokestatic 192) 3 10 := ⟨by decide +kernel, rfl⟩
theorem zd_14_13_10 : zz_B zy_field_14_13 10 (Instr.ifCond .ne) 17 13 := ⟨7, by decide +kernel, rfl, rfl⟩
theorem zd_14_13_13 : zz_D zy_field_14_13 13 (.iconst 1) 1 14 := ⟨by decide +kernel, rfl⟩
theorem zd_14_13_14 : zz_B zy_field_14_13 14 Instr.goto 18 17 := ⟨4, by decide +kernel, rfl, rfl⟩
theorem zd_14_13_18 : zz_D zy_field_14_13 18 (.iconst 0) 1 19 := ⟨by decide +kernel, rfl⟩
theorem zd_14_13_19 : zz_D zy_field_14_13 19 (.iconst 0) 1 20 := ⟨by decide +kernel, rfl⟩
theorem zd_14_13_20 : zz_D zy_field_14_13 20 (.invokevirtual 196) 3 23 := ⟨by decide +kernel, rfl⟩
theorem zd_14_13_23 : zz_B zy_field_14_13 23 (Instr.ifCond .eq) 30 26 := ⟨7, by decide +kernel, rfl, rfl⟩
theorem zd_14_13_26 : zz_D zy_field_14_13 26 (.iconst 0) 1 27 := ⟨by decide +kernel, rfl⟩
theorem zd_14_13_27 : zz_B zy_field_14_13 27 Instr.goto 35 30 := ⟨8, by decide +kernel, rfl, rfl⟩
theorem zd_14_13_35 : zz_D zy_field_14_13 35 (.ireturn) 1 36 := ⟨by decide +kernel, rfl⟩
theorem zd_14_13_17 : zz_D zy_field_14_13 17 (.iconst 0) 1 18 := ⟨by decide +kernel, rfl⟩
theorem zd_14_13_30 : zz_D zy_field_14_13 30 (.lload_n 1) 1 31 := ⟨by decide +kernel, rfl⟩
theorem zd_14_13_31 : zz_D zy_field_14_13 31 (.iload_n 3) 1 32 := ⟨by decide +kernel, rfl⟩
theorem zd_14_13_32 : zz_D zy_field_14_13 32 (.invokestatic 220) 3 35 := ⟨by decide +kernel, rfl⟩
theorem zk_Md_220 : mm_Sl "TensorForgeModel" 220 2 zy_fieldOf_14_12 := ⟨zyw_fieldOf_14_12, mm_tb_1 1861 (by decide +kernel) rfl, mm_tb_1 1862 (by decide +kernel) rfl⟩
-- TensorForgeModel field (JI)I
abbrev zr_field_14_13 : Room := { frames := 2, cells := 0, slots := 0, locals := 32 }
def zp_field_14_13 (p0 : Int) (p1 : Int) (S0 : zz_S) : Int → zz_S → Prop := fun r S => zz_G S ∧ zz_fr [(1079, 0)] [] (fun _ _ => False) S0 S ∧ ((-2147483648) ≤ r ∧ r ≤ 2147483647)
theorem zc_field_14_13 {g : mm_G} {l : Launch} (p0 : Int) (p1 : Int) (S0 : zz_S) (n : Nat) (hn : zz_end ≤ n) (G_S0 : zz_G S0) (hp0 : (-9223372036854775808) ≤ p0 ∧ p0 ≤ 9223372036854775807) (hp1 : (-2147483648) ≤ p1 ∧ p1 ≤ 2147483647) : mm_Met g l zy_field_14_13 zr_field_14_13 [.ref 1079, zl p0, zi p1] (zz_M S0 n) n (zz_QI n (zp_field_14_13 p0 p1 S0)) := by
  refine zz_enter (by decide) (Nat.le_of_ble_eq_true rfl) (zz_less (ls1 := [some (.ref 1079), some (zl p0), none, some (zi p1)]) ⟨rfl, ⟨rfl, ⟨rfl, trivial⟩⟩⟩ ?_)
  have F_S0 : zz_fr [(1079, 0)] [] (fun _ _ => False) S0 S0 := zz_fr.refl
  refine zz_aload_n (x := 1079) rfl zd_14_13_0 ?_
  refine zz_iload_n (x := p1) rfl zd_14_13_1 ?_
  refine zz_i2l (by omega) zd_14_13_2 ?_
  refine zz_lconst (z := 0) (by decide) zd_14_13_3 ?_
  refine zz_ldc2 (z := 11) zq_Md_218 (by decide) zd_14_13_4 ?_
  refine zz_callSI [zl p1, zl 0, zl 11] zd_14_13_7 zk_Md_192 rfl rfl ⟨Nat.le_of_ble_eq_true rfl, Nat.le_of_ble_eq_true rfl⟩ ⟨rfl, rfl⟩ (Nat.zero_le _) (Nat.zero_le _) (zc_in_14_4 p1 0 11 S0 n hn G_S0 (by omega) (by omega) (by omega)) (fun v2 S1 hP => ?_)
  obtain ⟨rfl, o3, o4⟩ := hP
  rcases (by omega : v2 = 0 ∨ v2 = 1) with rfl | rfl
  · refine zz_if_ne (by omega) zd_14_13_10 (fun c5 => ?_) (fun c5 => ?_)
    · exfalso; omega
    · refine zz_iconst zd_14_13_13 ?_
      refine zz_goto zd_14_13_14 ?_
      refine zz_iconst zd_14_13_18 ?_
      refine zz_iconst zd_14_13_19 ?_
      refine zz_callVI [zi 1, zi 0, zi 0] zd_14_13_20 zk_Md_196 zT_1079 (zz_ltn hn rfl) rfl rfl ⟨Nat.le_of_ble_eq_true rfl, Nat.le_of_ble_eq_true rfl⟩ ⟨rfl, rfl⟩ (Nat.zero_le _) (Nat.zero_le _) (zc_refuse_14_3 1 0 0 S0 n hn G_S0 (by omega) (by omega) (by omega)) (fun v7 S6 hP => ?_)
      obtain ⟨G_S6, fS6, o8, o9⟩ := hP
      have F_S6 := zz_fr.trans F_S0 fS6 rfl zz_nv
      rcases (by omega : v7 = 0 ∨ v7 = 1) with rfl | rfl
      · exfalso; omega
      · have e10 : S6 1079 0 = 1 := by omega
        refine zz_if_eq (by omega) zd_14_13_23 (fun c11 => ?_) (fun c11 => ?_)
        · exfalso; omega
        · refine zz_iconst zd_14_13_26 ?_
          refine zz_goto zd_14_13_27 ?_
          exact zz_iret zd_14_13_35 rfl (Nat.zero_le _) (Nat.zero_le _) ⟨_, _, rfl, G_S6, F_S6, by omega⟩
  · refine zz_if_ne (by omega) zd_14_13_10 (fun c12 => ?_) (fun c12 => ?_)
    · refine zz_iconst zd_14_13_17 ?_
      refine zz_iconst zd_14_13_18 ?_
      refine zz_iconst zd_14_13_19 ?_
      refine zz_callVI [zi 0, zi 0, zi 0] zd_14_13_20 zk_Md_196 zT_1079 (zz_ltn hn rfl) rfl rfl ⟨Nat.le_of_ble_eq_true rfl, Nat.le_of_ble_eq_true rfl⟩ ⟨rfl, rfl⟩ (Nat.zero_le _) (Nat.zero_le _) (zc_refuse_14_3 0 0 0 S0 n hn G_S0 (by omega) (by omega) (by omega)) (fun v14 S13 hP => ?_)
      obtain ⟨G_S13, fS13, o15, o16⟩ := hP
      have F_S13 := zz_fr.trans F_S0 fS13 rfl zz_nv
      rcases (by omega : v14 = 0 ∨ v14 = 1) with rfl | rfl
      · have e17 : S13 1079 0 = 0 := by omega
        refine zz_if_eq (by omega) zd_14_13_23 (fun c18 => ?_) (fun c18 => ?_)
        · refine zz_lload_n (x := p0) rfl zd_14_13_30 ?_
          refine zz_iload_n (x := p1) rfl zd_14_13_31 ?_
          refine zz_callSI [zl p0, zi p1] zd_14_13_32 zk_Md_220 rfl rfl ⟨Nat.le_of_ble_eq_true rfl, Nat.le_of_ble_eq_true rfl⟩ ⟨rfl, rfl⟩ (Nat.zero_le _) (Nat.zero_le _) (zc_fieldOf_14_12 p0 p1 S13 n hn G_S13 (by omega) (by omega)) (fun v20 S19 hP => ?_)
          obtain ⟨rfl, o21⟩ := hP
          exact zz_iret zd_14_13_35 rfl (Nat.zero_le _) (Nat.zero_le _) ⟨_, _, rfl, G_S13, F_S13, by omega⟩
        · exfalso; omega
      · exfalso; omega
    · exfalso; omega
abbrev zy_word_14_14 : mm_Y := (⟨"TensorForgeModel", "word", "(IJ)V"⟩, prog_14_method_14_code, 4, none)
theorem zyw_word_14_14 : mm_Yw zy_word_14_14 2 := ⟨mm_tb_1 1870 (by decide +kernel) rfl, mm_tb_1 12 (by decide +kernel) rfl, ⟨by decide, by decide⟩, by decide +kernel⟩
theorem zd_14_14_0 : zz_D zy_word_14_14 0 (.aload_n 0) 1 1 := ⟨by decide +kernel, rfl⟩
theorem zd_14_14_1 : zz_D zy_word_14_14 1 (.iload_n 1) 1 2 := ⟨by decide +kernel, rfl⟩
theorem zd_14_14_2 : zz_D zy_word_14_14 2 (.i2l) 1 3 := ⟨by decide +kernel, rfl⟩
theorem zd_14_14_3 : zz_D zy_word_14_14 3 (.lconst 0) 1 4 := ⟨by decide +kernel, rfl⟩
theorem zd_14_14_4 : zz_D zy_word_14_14 4 (.aload_n 0) 1 5 := ⟨by decide +kernel, rfl⟩
theorem zd_14_14_5 : zz_D zy_word_14_14 5 (.getfield 224) 3 8 := ⟨by decide +kernel, rfl⟩
theorem zf_Md_224 : mm_Fl "TensorForgeModel" 224 11 7 .int false := ⟨R_Md, F_Md, 69, t_Md, rfl, i_Md, by decide, mm_tb_1 1618 (by decide +kernel) rfl, rfl, t_Md_ok, n_Md, rfl, by decide +kernel⟩
theorem zd_14_14_8 : zz_D zy_word_14_14 8 (.i2l) 1 9 := ⟨by decide +kernel, rfl⟩
theorem zd_14_14_9 : zz_D zy_word_14_14 9 (.invokestatic 192) 3 12 := ⟨by decide +kernel, rfl⟩
theorem zd_14_14_12 : zz_B zy_word_14_14 12 (Instr.ifCond .ne) 19 15 := ⟨7, by decide +kernel, rfl, rfl⟩
theorem zd_14_14_15 : zz_D zy_word_14_14 15 (.iconst 1) 1 16 := ⟨by decide +kernel, rfl⟩
theorem zd_14_14_16 : zz_B zy_word_14_14 16 Instr.goto 20 19 := ⟨4, by decide +kernel, rfl, rfl⟩
theorem zd_14_14_20 : zz_D zy_word_14_14 20 (.iload_n 1) 1 21 := ⟨by decide +kernel, rfl⟩
theorem zd_14_14_21 : zz_D zy_word_14_14 21 (.aload_n 0) 1 22 := ⟨by decide +kernel, rfl⟩
theorem zd_14_14_22 : zz_D zy_word_14_14 22 (.getfield 224) 3 25 := ⟨by decide +kernel, rfl⟩
theorem zd_14_14_25 : zz_B zy_word_14_14 25 (Instr.if_icmp .ne) 42 28 := ⟨17, by decide +kernel, rfl, rfl⟩
theorem zd_14_14_42 : zz_D zy_word_14_14 42 (.iconst 0) 1 43 := ⟨by decide +kernel, rfl⟩
theorem zd_14_14_43 : zz_D zy_word_14_14 43 (.iconst 0) 1 44 := ⟨by decide +kernel, rfl⟩
theorem zd_14_14_44 : zz_D zy_word_14_14 44 (.invokevirtual 196) 3 47 := ⟨by decide +kernel, rfl⟩
theorem zd_14_14_47 : zz_B zy_word_14_14 47 (Instr.ifCond .eq) 51 50 := ⟨4, by decide +kernel, rfl, rfl⟩
theorem zd_14_14_50 : zz_D zy_word_14_14 50 (.return_) 1 51 := ⟨by decide +kernel, rfl⟩
theorem zd_14_14_28 : zz_D zy_word_14_14 28 (.aload_n 0) 1 29 := ⟨by decide +kernel, rfl⟩
theorem zd_14_14_29 : zz_D zy_word_14_14 29 (.getfield 224) 3 32 := ⟨by decide +kernel, rfl⟩
theorem zd_14_14_32 : zz_D zy_word_14_14 32 (.sipush 600) 3 35 := ⟨by decide +kernel, rfl⟩
theorem zd_14_14_35 : zz_B zy_word_14_14 35 (Instr.if_icmp .ne) 42 38 := ⟨7, by decide +kernel, rfl, rfl⟩
theorem zd_14_14_38 : zz_D zy_word_14_14 38 (.iconst 1) 1 39 := ⟨by decide +kernel, rfl⟩
theorem zd_14_14_39 : zz_B zy_word_14_14 39 Instr.goto 43 42 := ⟨4, by decide +kernel, rfl, rfl⟩
theorem zd_14_14_19 : zz_D zy_word_14_14 19 (.iconst 0) 1 20 := ⟨by decide +kernel, rfl⟩
theorem zd_14_14_51 : zz_D zy_word_14_14 51 (.aload_n 0) 1 52 := ⟨by decide +kernel, rfl⟩
theorem zd_14_14_52 : zz_D zy_word_14_14 52 (.getfield 29) 3 55 := ⟨by decide +kernel, rfl⟩
theorem zf_Md_29 : mm_Fl "TensorForgeModel" 29 11 8 (.array .long) true := ⟨R_Md, F_Md, 69, t_Md, rfl, i_Md, by decide, mm_tb_1 1619 (by decide +kernel) rfl, rfl, t_Md_ok, n_Md, rfl, by decide +kernel⟩
theorem zd_14_14_55 : zz_D zy_word_14_14 55 (.iload_n 1) 1 56 := ⟨by decide +kernel, rfl⟩
theorem zd_14_14_56 : zz_D zy_word_14_14 56 (.lload_n 2) 1 57 := ⟨by decide +kernel, rfl⟩
theorem zd_14_14_57 : zz_D zy_word_14_14 57 (.lastore) 1 58 := ⟨by decide +kernel, rfl⟩
theorem zd_14_14_58 : zz_D zy_word_14_14 58 (.aload_n 0) 1 59 := ⟨by decide +kernel, rfl⟩
theorem zd_14_14_59 : zz_D zy_word_14_14 59 (.iload_n 1) 1 60 := ⟨by decide +kernel, rfl⟩
theorem zd_14_14_60 : zz_D zy_word_14_14 60 (.aload_n 0) 1 61 := ⟨by decide +kernel, rfl⟩
theorem zd_14_14_61 : zz_D zy_word_14_14 61 (.getfield 224) 3 64 := ⟨by decide +kernel, rfl⟩
theorem zd_14_14_64 : zz_B zy_word_14_14 64 (Instr.if_icmp .ne) 76 67 := ⟨12, by decide +kernel, rfl, rfl⟩
theorem zd_14_14_76 : zz_D zy_word_14_14 76 (.aload_n 0) 1 77 := ⟨by decide +kernel, rfl⟩
theorem zd_14_14_77 : zz_D zy_word_14_14 77 (.getfield 224) 3 80 := ⟨by decide +kernel, rfl⟩
theorem zd_14_14_80 : zz_D zy_word_14_14 80 (.putfield 224) 3 83 := ⟨by decide +kernel, rfl⟩
theorem zd_14_14_83 : zz_D zy_word_14_14 83 (.return_) 1 84 := ⟨by decide +kernel, rfl⟩
theorem zd_14_14_67 : zz_D zy_word_14_14 67 (.aload_n 0) 1 68 := ⟨by decide +kernel, rfl⟩
theorem zd_14_14_68 : zz_D zy_word_14_14 68 (.getfield 224) 3 71 := ⟨by decide +kernel, rfl⟩
theorem zd_14_14_71 : zz_D zy_word_14_14 71 (.iconst 1) 1 72 := ⟨by decide +kernel, rfl⟩
theorem zd_14_14_72 : zz_D zy_word_14_14 72 (.iadd) 1 73 := ⟨by decide +kernel, rfl⟩
theorem zd_14_14_73 : zz_B zy_word_14_14 73 Instr.goto 80 76 := ⟨7, by decide +kernel, rfl, rfl⟩
-- TensorForgeModel word (IJ)V
abbrev zr_word_14_14 : Room := { frames := 1, cells := 0, slots := 0, locals := 18 }
def zp_word_14_14 (p0 : Int) (p1 : Int) (S0 : zz_S) : zz_S → Prop := fun S => zz_G S ∧ zz_fr [(1079, 0), (1079, 7)] [1085] (fun _ _ => False) S0 S
theorem zc_word_14_14 {g : mm_G} {l : Launch} (p0 : Int) (p1 : Int) (S0 : zz_S) (n : Nat) (hn : zz_end ≤ n) (G_S0 : zz_G S0) (hp0 : (-2147483648) ≤ p0 ∧ p0 ≤ 2147483647) (hp1 : (-9223372036854775808) ≤ p1 ∧ p1 ≤ 9223372036854775807) : mm_Met g l zy_word_14_14 zr_word_14_14 [.ref 1079, zi p0, zl p1] (zz_M S0 n) n (zz_QV n (zp_word_14_14 p0 p1 S0)) := by
  refine zz_enter (by decide) (Nat.le_of_ble_eq_true rfl) (zz_less (ls1 := [some (.ref 1079), some (zi p0), some (zl p1), none]) ⟨rfl, ⟨rfl, ⟨rfl, trivial⟩⟩⟩ ?_)
  have F_S0 : zz_fr [(1079, 0), (1079, 7)] [1085] (fun _ _ => False) S0 S0 := zz_fr.refl
  refine zz_aload_n (x := 1079) rfl zd_14_14_0 ?_
  refine zz_iload_n (x := p0) rfl zd_14_14_1 ?_
  refine zz_i2l (by omega) zd_14_14_2 ?_
  refine zz_lconst (z := 0) (by decide) zd_14_14_3 ?_
  refine zz_aload_n (x := 1079) rfl zd_14_14_4 ?_
  have g1 := zz_G.r G_S0 1079 7 0 600 rfl rfl
  refine zz_geti (z := S0 1079 7) zd_14_14_5 zf_Md_224 zT_1079 rfl (zz_ltn hn rfl) rfl ?_
  refine zz_i2l (by omega) zd_14_14_8 ?_
  refine zz_callSI [zl p0, zl 0, zl (S0 1079 7)] zd_14_14_9 zk_Md_192 rfl rfl ⟨Nat.le_of_ble_eq_true rfl, Nat.le_of_ble_eq_true rfl⟩ ⟨rfl, rfl⟩ (Nat.zero_le _) (Nat.zero_le _) (zc_in_14_4 p0 0 (S0 1079 7) S0 n hn G_S0 (by omega) (by omega) (by omega)) (fun v3 S2 hP => ?_)
  obtain ⟨rfl, o4, o5⟩ := hP
  rcases (by omega : v3 = 0 ∨ v3 = 1) with rfl | rfl
  · refine zz_if_ne (by omega) zd_14_14_12 (fun c6 => ?_) (fun c6 => ?_)
    · exfalso; omega
    · refine zz_iconst zd_14_14_15 ?_
      refine zz_goto zd_14_14_16 ?_
      refine zz_iload_n (x := p0) rfl zd_14_14_20 ?_
      refine zz_aload_n (x := 1079) rfl zd_14_14_21 ?_
      refine zz_geti (z := S0 1079 7) zd_14_14_22 zf_Md_224 zT_1079 rfl (zz_ltn hn rfl) rfl ?_
      refine zz_icmp_ne (by omega) (by omega) zd_14_14_25 (fun c7 => ?_) (fun c7 => ?_)
      · refine zz_iconst zd_14_14_42 ?_
        refine zz_iconst zd_14_14_43 ?_
        refine zz_callVI [zi 1, zi 0, zi 0] zd_14_14_44 zk_Md_196 zT_1079 (zz_ltn hn rfl) rfl rfl ⟨Nat.le_of_ble_eq_true rfl, Nat.le_of_ble_eq_true rfl⟩ ⟨rfl, rfl⟩ (Nat.zero_le _) (Nat.zero_le _) (zc_refuse_14_3 1 0 0 S0 n hn G_S0 (by omega) (by omega) (by omega)) (fun v9 S8 hP => ?_)
        obtain ⟨G_S8, fS8, o10, o11⟩ := hP
        have F_S8 := zz_fr.trans F_S0 fS8 rfl zz_nv
        rcases (by omega : v9 = 0 ∨ v9 = 1) with rfl | rfl
        · exfalso; omega
        · have e12 : S8 1079 0 = 1 := by omega
          refine zz_if_eq (by omega) zd_14_14_47 (fun c13 => ?_) (fun c13 => ?_)
          · exfalso; omega
          · exact zz_vret zd_14_14_50 rfl (Nat.zero_le _) (Nat.zero_le _) ⟨_, rfl, G_S8, F_S8⟩
      · refine zz_aload_n (x := 1079) rfl zd_14_14_28 ?_
        refine zz_geti (z := S0 1079 7) zd_14_14_29 zf_Md_224 zT_1079 rfl (zz_ltn hn rfl) rfl ?_
        refine zz_sipush (by decide) zd_14_14_32 ?_
        refine zz_icmp_ne (by omega) (by omega) zd_14_14_35 (fun c14 => ?_) (fun c14 => ?_)
        · refine zz_iconst zd_14_14_42 ?_
          refine zz_iconst zd_14_14_43 ?_
          refine zz_callVI [zi 1, zi 0, zi 0] zd_14_14_44 zk_Md_196 zT_1079 (zz_ltn hn rfl) rfl rfl ⟨Nat.le_of_ble_eq_true rfl, Nat.le_of_ble_eq_true rfl⟩ ⟨rfl, rfl⟩ (Nat.zero_le _) (Nat.zero_le _) (zc_refuse_14_3 1 0 0 S0 n hn G_S0 (by omega) (by omega) (by omega)) (fun v16 S15 hP => ?_)
          obtain ⟨G_S15, fS15, o17, o18⟩ := hP
          have F_S15 := zz_fr.trans F_S0 fS15 rfl zz_nv
          rcases (by omega : v16 = 0 ∨ v16 = 1) with rfl | rfl
          · exfalso; omega
          · have e19 : S15 1079 0 = 1 := by omega
            refine zz_if_eq (by omega) zd_14_14_47 (fun c20 => ?_) (fun c20 => ?_)
            · exfalso; omega
            · exact zz_vret zd_14_14_50 rfl (Nat.zero_le _) (Nat.zero_le _) ⟨_, rfl, G_S15, F_S15⟩
        · refine zz_iconst zd_14_14_38 ?_
          refine zz_goto zd_14_14_39 ?_
          refine zz_iconst zd_14_14_43 ?_
          refine zz_callVI [zi 1, zi 1, zi 0] zd_14_14_44 zk_Md_196 zT_1079 (zz_ltn hn rfl) rfl rfl ⟨Nat.le_of_ble_eq_true rfl, Nat.le_of_ble_eq_true rfl⟩ ⟨rfl, rfl⟩ (Nat.zero_le _) (Nat.zero_le _) (zc_refuse_14_3 1 1 0 S0 n hn G_S0 (by omega) (by omega) (by omega)) (fun v22 S21 hP => ?_)
          obtain ⟨G_S21, fS21, o23, o24⟩ := hP
          have F_S21 := zz_fr.trans F_S0 fS21 rfl zz_nv
          rcases (by omega : v22 = 0 ∨ v22 = 1) with rfl | rfl
          · exfalso; omega
          · have e25 : S21 1079 0 = 1 := by omega
            refine zz_if_eq (by omega) zd_14_14_47 (fun c26 => ?_) (fun c26 => ?_)
            · exfalso; omega
            · exact zz_vret zd_14_14_50 rfl (Nat.zero_le _) (Nat.zero_le _) ⟨_, rfl, G_S21, F_S21⟩
  · refine zz_if_ne (by omega) zd_14_14_12 (fun c27 => ?_) (fun c27 => ?_)
    · refine zz_iconst zd_14_14_19 ?_
      refine zz_iload_n (x := p0) rfl zd_14_14_20 ?_
      refine zz_aload_n (x := 1079) rfl zd_14_14_21 ?_
      refine zz_geti (z := S0 1079 7) zd_14_14_22 zf_Md_224 zT_1079 rfl (zz_ltn hn rfl) rfl ?_
      refine zz_icmp_ne (by omega) (by omega) zd_14_14_25 (fun c28 => ?_) (fun c28 => ?_)
      · refine zz_iconst zd_14_14_42 ?_
        refine zz_iconst zd_14_14_43 ?_
        refine zz_callVI [zi 0, zi 0, zi 0] zd_14_14_44 zk_Md_196 zT_1079 (zz_ltn hn rfl) rfl rfl ⟨Nat.le_of_ble_eq_true rfl, Nat.le_of_ble_eq_true rfl⟩ ⟨rfl, rfl⟩ (Nat.zero_le _) (Nat.zero_le _) (zc_refuse_14_3 0 0 0 S0 n hn G_S0 (by omega) (by omega) (by omega)) (fun v30 S29 hP => ?_)
        obtain ⟨G_S29, fS29, o31, o32⟩ := hP
        have F_S29 := zz_fr.trans F_S0 fS29 rfl zz_nv
        rcases (by omega : v30 = 0 ∨ v30 = 1) with rfl | rfl
        · have e33 : S29 1079 0 = 0 := by omega
          refine zz_if_eq (by omega) zd_14_14_47 (fun c34 => ?_) (fun c34 => ?_)
          · refine zz_aload_n (x := 1079) rfl zd_14_14_51 ?_
            refine zz_getr (kd := 0) (z := 1085) zd_14_14_52 zf_Md_29 zT_1079 rfl (zz_ltn hn rfl) (zz_G.eq G_S29 1079 8 1085 rfl rfl) (by decide) 1085 rfl ?_
            refine zz_iload_n (x := p0) rfl zd_14_14_55 ?_
            refine zz_lload_n (x := p1) rfl zd_14_14_56 ?_
            refine zz_last zd_14_14_57 zT_1085 rfl (zz_ltn hn rfl) (by decide) (by omega) (fun S35 qS35 => ?_)
            have G_S35 := zz_G.put G_S29 qS35 (-9223372036854775808) 9223372036854775807 rfl (by omega)
            have F_S35 := zz_fr.putc F_S29 qS35 rfl
            refine zz_aload_n (x := 1079) rfl zd_14_14_58 ?_
            refine zz_iload_n (x := p0) rfl zd_14_14_59 ?_
            refine zz_aload_n (x := 1079) rfl zd_14_14_60 ?_
            refine zz_geti (z := S0 1079 7) zd_14_14_61 zf_Md_224 zT_1079 rfl (zz_ltn hn rfl) (zz_ro qS35 (fun h => absurd h.1 (by decide)) (zz_rc fS29 rfl rfl (fun h => h) rfl)) ?_
            refine zz_icmp_ne (by omega) (by omega) zd_14_14_64 (fun c36 => ?_) (fun c36 => ?_)
            · refine zz_aload_n (x := 1079) rfl zd_14_14_76 ?_
              refine zz_geti (z := S0 1079 7) zd_14_14_77 zf_Md_224 zT_1079 rfl (zz_ltn hn rfl) (zz_ro qS35 (fun h => absurd h.1 (by decide)) (zz_rc fS29 rfl rfl (fun h => h) rfl)) ?_
              refine zz_puti zd_14_14_80 zf_Md_224 zT_1079 rfl (zz_ltn hn rfl) (fun S37 qS37 => ?_)
              have G_S37 := zz_G.put G_S35 qS37 0 600 rfl (by omega)
              have F_S37 := zz_fr.puts F_S35 qS37 rfl
              exact zz_vret zd_14_14_83 rfl (Nat.zero_le _) (Nat.zero_le _) ⟨_, rfl, G_S37, F_S37⟩
            · refine zz_aload_n (x := 1079) rfl zd_14_14_67 ?_
              refine zz_geti (z := S0 1079 7) zd_14_14_68 zf_Md_224 zT_1079 rfl (zz_ltn hn rfl) (zz_ro qS35 (fun h => absurd h.1 (by decide)) (zz_rc fS29 rfl rfl (fun h => h) rfl)) ?_
              refine zz_iconst zd_14_14_71 ?_
              refine zz_iadd zd_14_14_72 ?_
              refine zz_goto zd_14_14_73 ?_
              refine zz_puti zd_14_14_80 zf_Md_224 zT_1079 rfl (zz_ltn hn rfl) (fun S38 qS38 => ?_)
              have G_S38 := zz_G.put G_S35 qS38 0 600 rfl (by omega)
              have F_S38 := zz_fr.puts F_S35 qS38 rfl
              exact zz_vret zd_14_14_83 rfl (Nat.zero_le _) (Nat.zero_le _) ⟨_, rfl, G_S38, F_S38⟩
          · exfalso; omega
        · exfalso; omega
      · refine zz_aload_n (x := 1079) rfl zd_14_14_28 ?_
        refine zz_geti (z := S0 1079 7) zd_14_14_29 zf_Md_224 zT_1079 rfl (zz_ltn hn rfl) rfl ?_
        refine zz_sipush (by decide) zd_14_14_32 ?_
        refine zz_icmp_ne (by omega) (by omega) zd_14_14_35 (fun c39 => ?_) (fun c39 => ?_)
        · refine zz_iconst zd_14_14_42 ?_
          refine zz_iconst zd_14_14_43 ?_
          refine zz_callVI [zi 0, zi 0, zi 0] zd_14_14_44 zk_Md_196 zT_1079 (zz_ltn hn rfl) rfl rfl ⟨Nat.le_of_ble_eq_true rfl, Nat.le_of_ble_eq_true rfl⟩ ⟨rfl, rfl⟩ (Nat.zero_le _) (Nat.zero_le _) (zc_refuse_14_3 0 0 0 S0 n hn G_S0 (by omega) (by omega) (by omega)) (fun v41 S40 hP => ?_)
          obtain ⟨G_S40, fS40, o42, o43⟩ := hP
          have F_S40 := zz_fr.trans F_S0 fS40 rfl zz_nv
          rcases (by omega : v41 = 0 ∨ v41 = 1) with rfl | rfl
          · have e44 : S40 1079 0 = 0 := by omega
            refine zz_if_eq (by omega) zd_14_14_47 (fun c45 => ?_) (fun c45 => ?_)
            · refine zz_aload_n (x := 1079) rfl zd_14_14_51 ?_
              refine zz_getr (kd := 0) (z := 1085) zd_14_14_52 zf_Md_29 zT_1079 rfl (zz_ltn hn rfl) (zz_G.eq G_S40 1079 8 1085 rfl rfl) (by decide) 1085 rfl ?_
              refine zz_iload_n (x := p0) rfl zd_14_14_55 ?_
              refine zz_lload_n (x := p1) rfl zd_14_14_56 ?_
              refine zz_last zd_14_14_57 zT_1085 rfl (zz_ltn hn rfl) (by decide) (by omega) (fun S46 qS46 => ?_)
              have G_S46 := zz_G.put G_S40 qS46 (-9223372036854775808) 9223372036854775807 rfl (by omega)
              have F_S46 := zz_fr.putc F_S40 qS46 rfl
              refine zz_aload_n (x := 1079) rfl zd_14_14_58 ?_
              refine zz_iload_n (x := p0) rfl zd_14_14_59 ?_
              refine zz_aload_n (x := 1079) rfl zd_14_14_60 ?_
              refine zz_geti (z := S0 1079 7) zd_14_14_61 zf_Md_224 zT_1079 rfl (zz_ltn hn rfl) (zz_ro qS46 (fun h => absurd h.1 (by decide)) (zz_rc fS40 rfl rfl (fun h => h) rfl)) ?_
              refine zz_icmp_ne (by omega) (by omega) zd_14_14_64 (fun c47 => ?_) (fun c47 => ?_)
              · refine zz_aload_n (x := 1079) rfl zd_14_14_76 ?_
                refine zz_geti (z := S0 1079 7) zd_14_14_77 zf_Md_224 zT_1079 rfl (zz_ltn hn rfl) (zz_ro qS46 (fun h => absurd h.1 (by decide)) (zz_rc fS40 rfl rfl (fun h => h) rfl)) ?_
                refine zz_puti zd_14_14_80 zf_Md_224 zT_1079 rfl (zz_ltn hn rfl) (fun S48 qS48 => ?_)
                have G_S48 := zz_G.put G_S46 qS48 0 600 rfl (by omega)
                have F_S48 := zz_fr.puts F_S46 qS48 rfl
                exact zz_vret zd_14_14_83 rfl (Nat.zero_le _) (Nat.zero_le _) ⟨_, rfl, G_S48, F_S48⟩
              · refine zz_aload_n (x := 1079) rfl zd_14_14_67 ?_
                refine zz_geti (z := S0 1079 7) zd_14_14_68 zf_Md_224 zT_1079 rfl (zz_ltn hn rfl) (zz_ro qS46 (fun h => absurd h.1 (by decide)) (zz_rc fS40 rfl rfl (fun h => h) rfl)) ?_
                refine zz_iconst zd_14_14_71 ?_
                refine zz_iadd zd_14_14_72 ?_
                refine zz_goto zd_14_14_73 ?_
                refine zz_puti zd_14_14_80 zf_Md_224 zT_1079 rfl (zz_ltn hn rfl) (fun S49 qS49 => ?_)
                have G_S49 := zz_G.put G_S46 qS49 0 600 rfl (by omega)
                have F_S49 := zz_fr.puts F_S46 qS49 rfl
                exact zz_vret zd_14_14_83 rfl (Nat.zero_le _) (Nat.zero_le _) ⟨_, rfl, G_S49, F_S49⟩
            · exfalso; omega
          · exfalso; omega
        · refine zz_iconst zd_14_14_38 ?_
          refine zz_goto zd_14_14_39 ?_
          refine zz_iconst zd_14_14_43 ?_
          refine zz_callVI [zi 0, zi 1, zi 0] zd_14_14_44 zk_Md_196 zT_1079 (zz_ltn hn rfl) rfl rfl ⟨Nat.le_of_ble_eq_true rfl, Nat.le_of_ble_eq_true rfl⟩ ⟨rfl, rfl⟩ (Nat.zero_le _) (Nat.zero_le _) (zc_refuse_14_3 0 1 0 S0 n hn G_S0 (by omega) (by omega) (by omega)) (fun v51 S50 hP => ?_)
          obtain ⟨G_S50, fS50, o52, o53⟩ := hP
          have F_S50 := zz_fr.trans F_S0 fS50 rfl zz_nv
          rcases (by omega : v51 = 0 ∨ v51 = 1) with rfl | rfl
          · exfalso; omega
          · have e54 : S50 1079 0 = 2 := by omega
            refine zz_if_eq (by omega) zd_14_14_47 (fun c55 => ?_) (fun c55 => ?_)
            · exfalso; omega
            · exact zz_vret zd_14_14_50 rfl (Nat.zero_le _) (Nat.zero_le _) ⟨_, rfl, G_S50, F_S50⟩
    · exfalso; omega
abbrev zy_cut_14_15 : mm_Y := (⟨"TensorForgeModel", "cut", "(I)V"⟩, prog_14_method_15_code, 2, none)
theorem zyw_cut_14_15 : mm_Yw zy_cut_14_15 1 := ⟨mm_tb_1 1874 (by decide +kernel) rfl, mm_tb_1 12 (by decide +kernel) rfl, ⟨by decide, by decide⟩, by decide +kernel⟩
theorem zd_14_15_0 : zz_D zy_cut_14_15 0 (.aload_n 0) 1 1 := ⟨by decide +kernel, rfl⟩
theorem zd_14_15_1 : zz_D zy_cut_14_15 1 (.iload_n 1) 1 2 := ⟨by decide +kernel, rfl⟩
theorem zd_14_15_2 : zz_D zy_cut_14_15 2 (.i2l) 1 3 := ⟨by decide +kernel, rfl⟩
theorem zd_14_15_3 : zz_D zy_cut_14_15 3 (.lconst 0) 1 4 := ⟨by decide +kernel, rfl⟩
theorem zd_14_15_4 : zz_D zy_cut_14_15 4 (.aload_n 0) 1 5 := ⟨by decide +kernel, rfl⟩
theorem zd_14_15_5 : zz_D zy_cut_14_15 5 (.getfield 224) 3 8 := ⟨by decide +kernel, rfl⟩
theorem zd_14_15_8 : zz_D zy_cut_14_15 8 (.i2l) 1 9 := ⟨by decide +kernel, rfl⟩
theorem zd_14_15_9 : zz_D zy_cut_14_15 9 (.invokestatic 192) 3 12 := ⟨by decide +kernel, rfl⟩
theorem zd_14_15_12 : zz_B zy_cut_14_15 12 (Instr.ifCond .ne) 19 15 := ⟨7, by decide +kernel, rfl, rfl⟩
theorem zd_14_15_15 : zz_D zy_cut_14_15 15 (.iconst 1) 1 16 := ⟨by decide +kernel, rfl⟩
theorem zd_14_15_16 : zz_B zy_cut_14_15 16 Instr.goto 20 19 := ⟨4, by decide +kernel, rfl, rfl⟩
theorem zd_14_15_20 : zz_D zy_cut_14_15 20 (.iconst 0) 1 21 := ⟨by decide +kernel, rfl⟩
theorem zd_14_15_21 : zz_D zy_cut_14_15 21 (.iconst 0) 1 22 := ⟨by decide +kernel, rfl⟩
theorem zd_14_15_22 : zz_D zy_cut_14_15 22 (.invokevirtual 196) 3 25 := ⟨by decide +kernel, rfl⟩
theorem zd_14_15_25 : zz_B zy_cut_14_15 25 (Instr.ifCond .ne) 33 28 := ⟨8, by decide +kernel, rfl, rfl⟩
theorem zd_14_15_33 : zz_D zy_cut_14_15 33 (.return_) 1 34 := ⟨by decide +kernel, rfl⟩
theorem zd_14_15_19 : zz_D zy_cut_14_15 19 (.iconst 0) 1 20 := ⟨by decide +kernel, rfl⟩
theorem zd_14_15_28 : zz_D zy_cut_14_15 28 (.aload_n 0) 1 29 := ⟨by decide +kernel, rfl⟩
theorem zd_14_15_29 : zz_D zy_cut_14_15 29 (.iload_n 1) 1 30 := ⟨by decide +kernel, rfl⟩
theorem zd_14_15_30 : zz_D zy_cut_14_15 30 (.putfield 224) 3 33 := ⟨by decide +kernel, rfl⟩
-- TensorForgeModel cut (I)V
abbrev zr_cut_14_15 : Room := { frames := 1, cells := 0, slots := 0, locals := 18 }
def zp_cut_14_15 (p0 : Int) (S0 : zz_S) : zz_S → Prop := fun S => zz_G S ∧ zz_fr [(1079, 0), (1079, 7)] [] (fun _ _ => False) S0 S
theorem zc_cut_14_15 {g : mm_G} {l : Launch} (p0 : Int) (S0 : zz_S) (n : Nat) (hn : zz_end ≤ n) (G_S0 : zz_G S0) (hp0 : (-2147483648) ≤ p0 ∧ p0 ≤ 2147483647) : mm_Met g l zy_cut_14_15 zr_cut_14_15 [.ref 1079, zi p0] (zz_M S0 n) n (zz_QV n (zp_cut_14_15 p0 S0)) := by
  refine zz_enter (by decide) (Nat.le_of_ble_eq_true rfl) (zz_less (ls1 := [some (.ref 1079), some (zi p0)]) ⟨rfl, ⟨rfl, trivial⟩⟩ ?_)
  have F_S0 : zz_fr [(1079, 0), (1079, 7)] [] (fun _ _ => False) S0 S0 := zz_fr.refl
  refine zz_aload_n (x := 1079) rfl zd_14_15_0 ?_
  refine zz_iload_n (x := p0) rfl zd_14_15_1 ?_
  refine zz_i2l (by omega) zd_14_15_2 ?_
  refine zz_lconst (z := 0) (by decide) zd_14_15_3 ?_
  refine zz_aload_n (x := 1079) rfl zd_14_15_4 ?_
  have g1 := zz_G.r G_S0 1079 7 0 600 rfl rfl
  refine zz_geti (z := S0 1079 7) zd_14_15_5 zf_Md_224 zT_1079 rfl (zz_ltn hn rfl) rfl ?_
  refine zz_i2l (by omega) zd_14_15_8 ?_
  refine zz_callSI [zl p0, zl 0, zl (S0 1079 7)] zd_14_15_9 zk_Md_192 rfl rfl ⟨Nat.le_of_ble_eq_true rfl, Nat.le_of_ble_eq_true rfl⟩ ⟨rfl, rfl⟩ (Nat.zero_le _) (Nat.zero_le _) (zc_in_14_4 p0 0 (S0 1079 7) S0 n hn G_S0 (by omega) (by omega) (by omega)) (fun v3 S2 hP => ?_)
  obtain ⟨rfl, o4, o5⟩ := hP
  rcases (by omega : v3 = 0 ∨ v3 = 1) with rfl | rfl
  · refine zz_if_ne (by omega) zd_14_15_12 (fun c6 => ?_) (fun c6 => ?_)
    · exfalso; omega
    · refine zz_iconst zd_14_15_15 ?_
      refine zz_goto zd_14_15_16 ?_
      refine zz_iconst zd_14_15_20 ?_
      refine zz_iconst zd_14_15_21 ?_
      refine zz_callVI [zi 1, zi 0, zi 0] zd_14_15_22 zk_Md_196 zT_1079 (zz_ltn hn rfl) rfl rfl ⟨Nat.le_of_ble_eq_true rfl, Nat.le_of_ble_eq_true rfl⟩ ⟨rfl, rfl⟩ (Nat.zero_le _) (Nat.zero_le _) (zc_refuse_14_3 1 0 0 S0 n hn G_S0 (by omega) (by omega) (by omega)) (fun v8 S7 hP => ?_)
      obtain ⟨G_S7, fS7, o9, o10⟩ := hP
      have F_S7 := zz_fr.trans F_S0 fS7 rfl zz_nv
      rcases (by omega : v8 = 0 ∨ v8 = 1) with rfl | rfl
      · exfalso; omega
      · have e11 : S7 1079 0 = 1 := by omega
        refine zz_if_ne (by omega) zd_14_15_25 (fun c12 => ?_) (fun c12 => ?_)
        · exact zz_vret zd_14_15_33 rfl (Nat.zero_le _) (Nat.zero_le _) ⟨_, rfl, G_S7, F_S7⟩
        · exfalso; omega
  · refine zz_if_ne (by omega) zd_14_15_12 (fun c13 => ?_) (fun c13 => ?_)
    · refine zz_iconst zd_14_15_19 ?_
      refine zz_iconst zd_14_15_20 ?_
      refine zz_iconst zd_14_15_21 ?_
      refine zz_callVI [zi 0, zi 0, zi 0] zd_14_15_22 zk_Md_196 zT_1079 (zz_ltn hn rfl) rfl rfl ⟨Nat.le_of_ble_eq_true rfl, Nat.le_of_ble_eq_true rfl⟩ ⟨rfl, rfl⟩ (Nat.zero_le _) (Nat.zero_le _) (zc_refuse_14_3 0 0 0 S0 n hn G_S0 (by omega) (by omega) (by omega)) (fun v15 S14 hP => ?_)
      obtain ⟨G_S14, fS14, o16, o17⟩ := hP
      have F_S14 := zz_fr.trans F_S0 fS14 rfl zz_nv
      rcases (by omega : v15 = 0 ∨ v15 = 1) with rfl | rfl
      · have e18 : S14 1079 0 = 0 := by omega
        refine zz_if_ne (by omega) zd_14_15_25 (fun c19 => ?_) (fun c19 => ?_)
        · exfalso; omega
        · refine zz_aload_n (x := 1079) rfl zd_14_15_28 ?_
          refine zz_iload_n (x := p0) rfl zd_14_15_29 ?_
          refine zz_puti zd_14_15_30 zf_Md_224 zT_1079 rfl (zz_ltn hn rfl) (fun S20 qS20 => ?_)
          have G_S20 := zz_G.put G_S14 qS20 0 600 rfl (by omega)
          have F_S20 := zz_fr.puts F_S14 qS20 rfl
          exact zz_vret zd_14_15_33 rfl (Nat.zero_le _) (Nat.zero_le _) ⟨_, rfl, G_S20, F_S20⟩
      · exfalso; omega
    · exfalso; omega
abbrev zy_wordOf_14_16 : mm_Y := (⟨"TensorForgeModel", "wordOf", "(I)J"⟩, prog_14_method_16_code, 2, (some .long))
theorem zyw_wordOf_14_16 : mm_Yw zy_wordOf_14_16 1 := ⟨mm_tb_1 1878 (by decide +kernel) rfl, mm_tb_1 12 (by decide +kernel) rfl, ⟨by decide, by decide⟩, by decide +kernel⟩
theorem zd_14_16_0 : zz_D zy_wordOf_14_16 0 (.aload_n 0) 1 1 := ⟨by decide +kernel, rfl⟩
theorem zd_14_16_1 : zz_D zy_wordOf_14_16 1 (.iload_n 1) 1 2 := ⟨by decide +kernel, rfl⟩
theorem zd_14_16_2 : zz_D zy_wordOf_14_16 2 (.i2l) 1 3 := ⟨by decide +kernel, rfl⟩
theorem zd_14_16_3 : zz_D zy_wordOf_14_16 3 (.lconst 0) 1 4 := ⟨by decide +kernel, rfl⟩
theorem zd_14_16_4 : zz_D zy_wordOf_14_16 4 (.aload_n 0) 1 5 := ⟨by decide +kernel, rfl⟩
theorem zd_14_16_5 : zz_D zy_wordOf_14_16 5 (.getfield 224) 3 8 := ⟨by decide +kernel, rfl⟩
theorem zd_14_16_8 : zz_D zy_wordOf_14_16 8 (.iconst 1) 1 9 := ⟨by decide +kernel, rfl⟩
theorem zd_14_16_9 : zz_D zy_wordOf_14_16 9 (.isub) 1 10 := ⟨by decide +kernel, rfl⟩
theorem zd_14_16_10 : zz_D zy_wordOf_14_16 10 (.i2l) 1 11 := ⟨by decide +kernel, rfl⟩
theorem zd_14_16_11 : zz_D zy_wordOf_14_16 11 (.invokestatic 192) 3 14 := ⟨by decide +kernel, rfl⟩
theorem zd_14_16_14 : zz_B zy_wordOf_14_16 14 (Instr.ifCond .ne) 21 17 := ⟨7, by decide +kernel, rfl, rfl⟩
theorem zd_14_16_17 : zz_D zy_wordOf_14_16 17 (.iconst 1) 1 18 := ⟨by decide +kernel, rfl⟩
theorem zd_14_16_18 : zz_B zy_wordOf_14_16 18 Instr.goto 22 21 := ⟨4, by decide +kernel, rfl, rfl⟩
theorem zd_14_16_22 : zz_D zy_wordOf_14_16 22 (.iconst 0) 1 23 := ⟨by decide +kernel, rfl⟩
theorem zd_14_16_23 : zz_D zy_wordOf_14_16 23 (.iconst 0) 1 24 := ⟨by decide +kernel, rfl⟩
theorem zd_14_16_24 : zz_D zy_wordOf_14_16 24 (.invokevirtual 196) 3 27 := ⟨by decide +kernel, rfl⟩
theorem zd_14_16_27 : zz_B zy_wordOf_14_16 27 (Instr.ifCond .eq) 34 30 := ⟨7, by decide +kernel, rfl, rfl⟩
theorem zd_14_16_30 : zz_D zy_wordOf_14_16 30 (.lconst 0) 1 31 := ⟨by decide +kernel, rfl⟩
theorem zd_14_16_31 : zz_B zy_wordOf_14_16 31 Instr.goto 40 34 := ⟨9, by decide +kernel, rfl, rfl⟩
theorem zd_14_16_40 : zz_D zy_wordOf_14_16 40 (.lreturn) 1 41 := ⟨by decide +kernel, rfl⟩
theorem zd_14_16_21 : zz_D zy_wordOf_14_16 21 (.iconst 0) 1 22 := ⟨by decide +kernel, rfl⟩
theorem zd_14_16_34 : zz_D zy_wordOf_14_16 34 (.aload_n 0) 1 35 := ⟨by decide +kernel, rfl⟩
theorem zd_14_16_35 : zz_D zy_wordOf_14_16 35 (.getfield 29) 3 38 := ⟨by decide +kernel, rfl⟩
theorem zd_14_16_38 : zz_D zy_wordOf_14_16 38 (.iload_n 1) 1 39 := ⟨by decide +kernel, rfl⟩
theorem zd_14_16_39 : zz_D zy_wordOf_14_16 39 (.laload) 1 40 := ⟨by decide +kernel, rfl⟩
-- TensorForgeModel wordOf (I)J
abbrev zr_wordOf_14_16 : Room := { frames := 1, cells := 0, slots := 0, locals := 18 }
def zp_wordOf_14_16 (p0 : Int) (S0 : zz_S) : Int → zz_S → Prop := fun r S => zz_G S ∧ zz_fr [(1079, 0)] [] (fun _ _ => False) S0 S ∧ ((-9223372036854775808) ≤ r ∧ r ≤ 9223372036854775807)
theorem zc_wordOf_14_16 {g : mm_G} {l : Launch} (p0 : Int) (S0 : zz_S) (n : Nat) (hn : zz_end ≤ n) (G_S0 : zz_G S0) (hp0 : (-2147483648) ≤ p0 ∧ p0 ≤ 2147483647) : mm_Met g l zy_wordOf_14_16 zr_wordOf_14_16 [.ref 1079, zi p0] (zz_M S0 n) n (zz_QJ n (zp_wordOf_14_16 p0 S0)) := by
  refine zz_enter (by decide) (Nat.le_of_ble_eq_true rfl) (zz_less (ls1 := [some (.ref 1079), some (zi p0)]) ⟨rfl, ⟨rfl, trivial⟩⟩ ?_)
  have F_S0 : zz_fr [(1079, 0)] [] (fun _ _ => False) S0 S0 := zz_fr.refl
  refine zz_aload_n (x := 1079) rfl zd_14_16_0 ?_
  refine zz_iload_n (x := p0) rfl zd_14_16_1 ?_
  refine zz_i2l (by omega) zd_14_16_2 ?_
  refine zz_lconst (z := 0) (by decide) zd_14_16_3 ?_
  refine zz_aload_n (x := 1079) rfl zd_14_16_4 ?_
  have g1 := zz_G.r G_S0 1079 7 0 600 rfl rfl
  refine zz_geti (z := S0 1079 7) zd_14_16_5 zf_Md_224 zT_1079 rfl (zz_ltn hn rfl) rfl ?_
  refine zz_iconst zd_14_16_8 ?_
  refine zz_isub zd_14_16_9 ?_
  refine zz_i2l (by omega) zd_14_16_10 ?_
  refine zz_callSI [zl p0, zl 0, zl ((S0 1079 7) - 1)] zd_14_16_11 zk_Md_192 rfl rfl ⟨Nat.le_of_ble_eq_true rfl, Nat.le_of_ble_eq_true rfl⟩ ⟨rfl, rfl⟩ (Nat.zero_le _) (Nat.zero_le _) (zc_in_14_4 p0 0 ((S0 1079 7) - 1) S0 n hn G_S0 (by omega) (by omega) (by omega)) (fun v3 S2 hP => ?_)
  obtain ⟨rfl, o4, o5⟩ := hP
  rcases (by omega : v3 = 0 ∨ v3 = 1) with rfl | rfl
  · refine zz_if_ne (by omega) zd_14_16_14 (fun c6 => ?_) (fun c6 => ?_)
    · exfalso; omega
    · refine zz_iconst zd_14_16_17 ?_
      refine zz_goto zd_14_16_18 ?_
      refine zz_iconst zd_14_16_22 ?_
      refine zz_iconst zd_14_16_23 ?_
      refine zz_callVI [zi 1, zi 0, zi 0] zd_14_16_24 zk_Md_196 zT_1079 (zz_ltn hn rfl) rfl rfl ⟨Nat.le_of_ble_eq_true rfl, Nat.le_of_ble_eq_true rfl⟩ ⟨rfl, rfl⟩ (Nat.zero_le _) (Nat.zero_le _) (zc_refuse_14_3 1 0 0 S0 n hn G_S0 (by omega) (by omega) (by omega)) (fun v8 S7 hP => ?_)
      obtain ⟨G_S7, fS7, o9, o10⟩ := hP
      have F_S7 := zz_fr.trans F_S0 fS7 rfl zz_nv
      rcases (by omega : v8 = 0 ∨ v8 = 1) with rfl | rfl
      · exfalso; omega
      · have e11 : S7 1079 0 = 1 := by omega
        refine zz_if_eq (by omega) zd_14_16_27 (fun c12 => ?_) (fun c12 => ?_)
        · exfalso; omega
        · refine zz_lconst (z := 0) (by decide) zd_14_16_30 ?_
          refine zz_goto zd_14_16_31 ?_
          exact zz_lret zd_14_16_40 rfl (Nat.zero_le _) (Nat.zero_le _) ⟨_, _, rfl, G_S7, F_S7, by omega⟩
  · refine zz_if_ne (by omega) zd_14_16_14 (fun c13 => ?_) (fun c13 => ?_)
    · refine zz_iconst zd_14_16_21 ?_
      refine zz_iconst zd_14_16_22 ?_
      refine zz_iconst zd_14_16_23 ?_
      refine zz_callVI [zi 0, zi 0, zi 0] zd_14_16_24 zk_Md_196 zT_1079 (zz_ltn hn rfl) rfl rfl ⟨Nat.le_of_ble_eq_true rfl, Nat.le_of_ble_eq_true rfl⟩ ⟨rfl, rfl⟩ (Nat.zero_le _) (Nat.zero_le _) (zc_refuse_14_3 0 0 0 S0 n hn G_S0 (by omega) (by omega) (by omega)) (fun v15 S14 hP => ?_)
      obtain ⟨G_S14, fS14, o16, o17⟩ := hP
      have F_S14 := zz_fr.trans F_S0 fS14 rfl zz_nv
      rcases (by omega : v15 = 0 ∨ v15 = 1) with rfl | rfl
      · have e18 : S14 1079 0 = 0 := by omega
        refine zz_if_eq (by omega) zd_14_16_27 (fun c19 => ?_) (fun c19 => ?_)
        · refine zz_aload_n (x := 1079) rfl zd_14_16_34 ?_
          refine zz_getr (kd := 0) (z := 1085) zd_14_16_35 zf_Md_29 zT_1079 rfl (zz_ltn hn rfl) (zz_G.eq G_S14 1079 8 1085 rfl rfl) (by decide) 1085 rfl ?_
          refine zz_iload_n (x := p0) rfl zd_14_16_38 ?_
          have g20 := zz_G.r G_S0 1085 p0.toNat (-9223372036854775808) 9223372036854775807 rfl rfl
          refine zz_lald (z := S0 1085 p0.toNat) zd_14_16_39 zT_1085 rfl (zz_ltn hn rfl) (by decide) (by omega) (zz_rc fS14 (zz_nc1 rfl) rfl (fun h => h) rfl) ?_
          exact zz_lret zd_14_16_40 rfl (Nat.zero_le _) (Nat.zero_le _) ⟨_, _, rfl, G_S14, F_S14, by omega⟩
        · exfalso; omega
      · exfalso; omega
    · exfalso; omega
abbrev zy_length_14_17 : mm_Y := (⟨"TensorForgeModel", "length", "()I"⟩, prog_14_method_17_code, 1, (some .int))
theorem zyw_length_14_17 : mm_Yw zy_length_14_17 0 := ⟨mm_tb_1 1882 (by decide +kernel) rfl, mm_tb_1 12 (by decide +kernel) rfl, ⟨by decide, by decide⟩, by decide +kernel⟩
theorem zd_14_17_0 : zz_D zy_length_14_17 0 (.aload_n 0) 1 1 := ⟨by decide +kernel, rfl⟩
theorem zd_14_17_1 : zz_D zy_length_14_17 1 (.iconst 0) 1 2 := ⟨by decide +kernel, rfl⟩
theorem zd_14_17_2 : zz_D zy_length_14_17 2 (.putfield 187) 3 5 := ⟨by decide +kernel, rfl⟩
theorem zd_14_17_5 : zz_D zy_length_14_17 5 (.aload_n 0) 1 6 := ⟨by decide +kernel, rfl⟩
theorem zd_14_17_6 : zz_D zy_length_14_17 6 (.getfield 224) 3 9 := ⟨by decide +kernel, rfl⟩
theorem zd_14_17_9 : zz_D zy_length_14_17 9 (.ireturn) 1 10 := ⟨by decide +kernel, rfl⟩
-- TensorForgeModel length ()I
abbrev zr_length_14_17 : Room := { frames := 0, cells := 0, slots := 0, locals := 0 }
def zp_length_14_17  (S0 : zz_S) : Int → zz_S → Prop := fun r S => zz_G S ∧ zz_fr [(1079, 0)] [] (fun _ _ => False) S0 S ∧ ((-2147483648) ≤ r ∧ r ≤ 2147483647)
theorem zc_length_14_17 {g : mm_G} {l : Launch}  (S0 : zz_S) (n : Nat) (hn : zz_end ≤ n) (G_S0 : zz_G S0)  : mm_Met g l zy_length_14_17 zr_length_14_17 [.ref 1079] (zz_M S0 n) n (zz_QI n (zp_length_14_17  S0)) := by
  refine zz_enter (by decide) (Nat.le_of_ble_eq_true rfl) (zz_less (ls1 := [some (.ref 1079)]) ⟨rfl, trivial⟩ ?_)
  have F_S0 : zz_fr [(1079, 0)] [] (fun _ _ => False) S0 S0 := zz_fr.refl
  refine zz_aload_n (x := 1079) rfl zd_14_17_0 ?_
  refine zz_iconst zd_14_17_1 ?_
  refine zz_puti zd_14_17_2 zf_Md_187 zT_1079 rfl (zz_ltn hn rfl) (fun S1 qS1 => ?_)
  have G_S1 := zz_G.put G_S0 qS1 0 3 rfl (by omega)
  have F_S1 := zz_fr.puts F_S0 qS1 rfl
  refine zz_aload_n (x := 1079) rfl zd_14_17_5 ?_
  have g2 := zz_G.r G_S0 1079 7 0 600 rfl rfl
  refine zz_geti (z := S0 1079 7) zd_14_17_6 zf_Md_224 zT_1079 rfl (zz_ltn hn rfl) (zz_ro qS1 (fun h => absurd h.2 (by decide)) rfl) ?_
  exact zz_iret zd_14_17_9 rfl (Nat.zero_le _) (Nat.zero_le _) ⟨_, _, rfl, G_S1, F_S1, by omega⟩
abbrev zy_take_14_18 : mm_Y := (⟨"TensorForgeModel", "take", "(J)V"⟩, prog_14_method_18_code, 4, none)
theorem zyw_take_14_18 : mm_Yw zy_take_14_18 1 := ⟨mm_tb_1 1894 (by decide +kernel) rfl, mm_tb_1 12 (by decide +kernel) rfl, ⟨by decide, by decide⟩, by decide +kernel⟩
theorem zd_14_18_0 : zz_D zy_take_14_18 0 (.iconst 0) 1 1 := ⟨by decide +kernel, rfl⟩
theorem zd_14_18_1 : zz_D zy_take_14_18 1 (.istore_n 3) 1 2 := ⟨by decide +kernel, rfl⟩
theorem zd_14_18_2 : zz_D zy_take_14_18 2 (.iload_n 3) 1 3 := ⟨by decide +kernel, rfl⟩
theorem zd_14_18_3 : zz_D zy_take_14_18 3 (.bipush 12) 2 5 := ⟨by decide +kernel, rfl⟩
theorem zd_14_18_5 : zz_B zy_take_14_18 5 (Instr.if_icmp .ge) 25 8 := ⟨20, by decide +kernel, rfl, rfl⟩
theorem zd_14_18_25 : zz_D zy_take_14_18 25 (.return_) 1 26 := ⟨by decide +kernel, rfl⟩
theorem zd_14_18_8 : zz_D zy_take_14_18 8 (.aload_n 0) 1 9 := ⟨by decide +kernel, rfl⟩
theorem zd_14_18_9 : zz_D zy_take_14_18 9 (.getfield 36) 3 12 := ⟨by decide +kernel, rfl⟩
theorem zf_Md_36 : mm_Fl "TensorForgeModel" 36 11 11 (.array .int) true := ⟨R_Md, F_Md, 69, t_Md, rfl, i_Md, by decide, mm_tb_1 1622 (by decide +kernel) rfl, rfl, t_Md_ok, n_Md, rfl, by decide +kernel⟩
theorem zd_14_18_12 : zz_D zy_take_14_18 12 (.iload_n 3) 1 13 := ⟨by decide +kernel, rfl⟩
theorem zd_14_18_13 : zz_D zy_take_14_18 13 (.lload_n 1) 1 14 := ⟨by decide +kernel, rfl⟩
theorem zd_14_18_14 : zz_D zy_take_14_18 14 (.iload_n 3) 1 15 := ⟨by decide +kernel, rfl⟩
theorem zd_14_18_15 : zz_D zy_take_14_18 15 (.invokestatic 220) 3 18 := ⟨by decide +kernel, rfl⟩
theorem zd_14_18_18 : zz_D zy_take_14_18 18 (.iastore) 1 19 := ⟨by decide +kernel, rfl⟩
theorem zd_14_18_19 : zz_D zy_take_14_18 19 (.iinc 3 1) 3 22 := ⟨by decide +kernel, rfl⟩
theorem zd_14_18_22 : zz_B zy_take_14_18 22 Instr.goto 2 25 := ⟨(-20), by decide +kernel, rfl, rfl⟩
-- TensorForgeModel take (J)V
abbrev zr_take_14_18 : Room := { frames := 2, cells := 0, slots := 0, locals := 34 }
def zp_take_14_18 (p0 : Int) (S0 : zz_S) : zz_S → Prop := fun S => zz_G S ∧ zz_fr [] [1087] (fun _ _ => False) S0 S
theorem zb_take_14_18_2 {g : mm_G} {l : Launch} (p0 : Int) (S0 : zz_S) (n : Nat) (hn : zz_end ≤ n) (G_S0 : zz_G S0) (hp0 : (-9223372036854775808) ≤ p0 ∧ p0 ≤ 9223372036854775807) (x3 : Int) (S : zz_S) (G_S : zz_G S) (F_S : zz_fr [] [1087] (fun _ _ => False) S0 S) (i2_0 : 0 ≤ x3 ∧ x3 ≤ 2147483647) (R : Nat) (hR : (12 - x3).toNat = R) (k2 : ∀ (x3 : Int) (S : zz_S), zz_G S → zz_fr [] [1087] (fun _ _ => False) S0 S → (0 ≤ x3 ∧ x3 ≤ 2147483647) → (12 - x3).toNat < R → zz_E g l zy_take_14_18 zr_take_14_18 (zz_QV n (zp_take_14_18 p0 S0)) S n 2 [some (.ref 1079), some (zl p0), none, some (zi x3)] [] 0 0) : zz_E g l zy_take_14_18 zr_take_14_18 (zz_QV n (zp_take_14_18 p0 S0)) S n 2 [some (.ref 1079), some (zl p0), none, some (zi x3)] [] 0 0 := by
  refine zz_iload_n (x := x3) rfl zd_14_18_2 ?_
  refine zz_bipush (by decide) zd_14_18_3 ?_
  refine zz_icmp_ge (by omega) (by omega) zd_14_18_5 (fun c1 => ?_) (fun c1 => ?_)
  · exact zz_vret zd_14_18_25 rfl (Nat.zero_le _) (Nat.zero_le _) ⟨_, rfl, G_S, F_S⟩
  · refine zz_aload_n (x := 1079) rfl zd_14_18_8 ?_
    refine zz_getr (kd := 0) (z := 1087) zd_14_18_9 zf_Md_36 zT_1079 rfl (zz_ltn hn rfl) (zz_G.eq G_S 1079 11 1087 rfl rfl) (by decide) 1087 rfl ?_
    refine zz_iload_n (x := x3) rfl zd_14_18_12 ?_
    refine zz_lload_n (x := p0) rfl zd_14_18_13 ?_
    refine zz_iload_n (x := x3) rfl zd_14_18_14 ?_
    refine zz_callSI [zl p0, zi x3] zd_14_18_15 zk_Md_220 rfl rfl ⟨Nat.le_of_ble_eq_true rfl, Nat.le_of_ble_eq_true rfl⟩ ⟨rfl, rfl⟩ (Nat.zero_le _) (Nat.zero_le _) (zc_fieldOf_14_12 p0 x3 S n hn G_S (by omega) (by omega)) (fun v3 S2 hP => ?_)
    obtain ⟨rfl, o4⟩ := hP
    refine zz_iast zd_14_18_18 zT_1087 rfl (zz_ltn hn rfl) (by decide) (by omega) (fun S5 qS5 => ?_)
    have G_S5 := zz_G.put G_S qS5 (-2147483648) 2147483647 rfl (by omega)
    have F_S5 := zz_fr.putc F_S qS5 rfl
    refine zz_iinc [some (.ref 1079), some (zl p0), none, some (zi (x3 + 1))] zd_14_18_19 rfl rfl ?_
    refine zz_goto zd_14_18_22 ?_
    refine zz_less (ls1 := [some (.ref 1079), some (zl p0), none, some (zi (x3 + 1))]) ⟨rfl, ⟨rfl, ⟨rfl, trivial⟩⟩⟩ ?_
    exact k2 (x3 + 1) S5 G_S5 F_S5 (by omega) (by omega)
theorem zi_take_14_18 {g : mm_G} {l : Launch} (p0 : Int) (S0 : zz_S) (n : Nat) (hn : zz_end ≤ n) (G_S0 : zz_G S0) (hp0 : (-9223372036854775808) ≤ p0 ∧ p0 ≤ 9223372036854775807) : ∀ N : Nat, (∀ (x3 : Int) (S : zz_S), zz_G S → zz_fr [] [1087] (fun _ _ => False) S0 S → (0 ≤ x3 ∧ x3 ≤ 2147483647) → (12 - x3).toNat < N → zz_E g l zy_take_14_18 zr_take_14_18 (zz_QV n (zp_take_14_18 p0 S0)) S n 2 [some (.ref 1079), some (zl p0), none, some (zi x3)] [] 0 0) := by
  intro N
  induction N with
  | zero => exact fun x3 S _ _ _ h => absurd h (Nat.not_lt_zero _)
  | succ N ih =>
    exact fun x3 S a b j0 hR => zb_take_14_18_2 p0 S0 n hn G_S0 hp0 x3 S a b j0 _ rfl (fun x3 S a b j0 h => ih x3 S a b j0 (Nat.lt_of_lt_of_le h (Nat.le_of_lt_succ hR)))
theorem zc_take_14_18 {g : mm_G} {l : Launch} (p0 : Int) (S0 : zz_S) (n : Nat) (hn : zz_end ≤ n) (G_S0 : zz_G S0) (hp0 : (-9223372036854775808) ≤ p0 ∧ p0 ≤ 9223372036854775807) : mm_Met g l zy_take_14_18 zr_take_14_18 [.ref 1079, zl p0] (zz_M S0 n) n (zz_QV n (zp_take_14_18 p0 S0)) := by
  refine zz_enter (by decide) (Nat.le_of_ble_eq_true rfl) (zz_less (ls1 := [some (.ref 1079), some (zl p0), none]) ⟨rfl, ⟨rfl, trivial⟩⟩ ?_)
  have F_S0 : zz_fr [] [1087] (fun _ _ => False) S0 S0 := zz_fr.refl
  have k2 : ∀ (x3 : Int) (S : zz_S), zz_G S → zz_fr [] [1087] (fun _ _ => False) S0 S → (0 ≤ x3 ∧ x3 ≤ 2147483647) → zz_E g l zy_take_14_18 zr_take_14_18 (zz_QV n (zp_take_14_18 p0 S0)) S n 2 [some (.ref 1079), some (zl p0), none, some (zi x3)] [] 0 0 := fun x3 S a b j0 => (zi_take_14_18 (g := g) (l := l) p0 S0 n hn G_S0 hp0 _) x3 S a b j0 (Nat.lt_succ_self _)
  refine zz_iconst zd_14_18_0 ?_
  refine zz_istore_n [some (.ref 1079), some (zl p0), none, some (zi 0)] zd_14_18_1 (by decide) rfl ?_
  refine zz_less (ls1 := [some (.ref 1079), some (zl p0), none, some (zi 0)]) ⟨rfl, ⟨rfl, ⟨rfl, trivial⟩⟩⟩ ?_
  exact k2 0 S0 G_S0 F_S0 (by omega)
abbrev zy_unit_14_19 : mm_Y := (⟨"TensorForgeModel", "unit", "()I"⟩, prog_14_method_19_code, 1, (some .int))
theorem zyw_unit_14_19 : mm_Yw zy_unit_14_19 0 := ⟨mm_tb_1 1902 (by decide +kernel) rfl, mm_tb_1 12 (by decide +kernel) rfl, ⟨by decide, by decide⟩, by decide +kernel⟩
theorem zd_14_19_0 : zz_D zy_unit_14_19 0 (.aload_n 0) 1 1 := ⟨by decide +kernel, rfl⟩
theorem zd_14_19_1 : zz_D zy_unit_14_19 1 (.getfield 36) 3 4 := ⟨by decide +kernel, rfl⟩
theorem zd_14_19_4 : zz_D zy_unit_14_19 4 (.iconst 0) 1 5 := ⟨by decide +kernel, rfl⟩
theorem zd_14_19_5 : zz_D zy_unit_14_19 5 (.iaload) 1 6 := ⟨by decide +kernel, rfl⟩
theorem zd_14_19_6 : zz_D zy_unit_14_19 6 (.bipush 9) 2 8 := ⟨by decide +kernel, rfl⟩
theorem zd_14_19_8 : zz_B zy_unit_14_19 8 (Instr.if_icmp .ne) 21 11 := ⟨13, by decide +kernel, rfl, rfl⟩
theorem zd_14_19_21 : zz_D zy_unit_14_19 21 (.aload_n 0) 1 22 := ⟨by decide +kernel, rfl⟩
theorem zd_14_19_22 : zz_D zy_unit_14_19 22 (.getfield 36) 3 25 := ⟨by decide +kernel, rfl⟩
theorem zd_14_19_25 : zz_D zy_unit_14_19 25 (.iconst 0) 1 26 := ⟨by decide +kernel, rfl⟩
theorem zd_14_19_26 : zz_D zy_unit_14_19 26 (.iaload) 1 27 := ⟨by decide +kernel, rfl⟩
theorem zd_14_19_27 : zz_D zy_unit_14_19 27 (.iconst 5) 1 28 := ⟨by decide +kernel, rfl⟩
theorem zd_14_19_28 : zz_B zy_unit_14_19 28 (Instr.if_icmp .ge) 35 31 := ⟨7, by decide +kernel, rfl, rfl⟩
theorem zd_14_19_35 : zz_D zy_unit_14_19 35 (.aload_n 0) 1 36 := ⟨by decide +kernel, rfl⟩
theorem zd_14_19_36 : zz_D zy_unit_14_19 36 (.getfield 36) 3 39 := ⟨by decide +kernel, rfl⟩
theorem zd_14_19_39 : zz_D zy_unit_14_19 39 (.iconst 0) 1 40 := ⟨by decide +kernel, rfl⟩
theorem zd_14_19_40 : zz_D zy_unit_14_19 40 (.iaload) 1 41 := ⟨by decide +kernel, rfl⟩
theorem zd_14_19_41 : zz_D zy_unit_14_19 41 (.bipush 8) 2 43 := ⟨by decide +kernel, rfl⟩
theorem zd_14_19_43 : zz_B zy_unit_14_19 43 (Instr.if_icmp .ge) 50 46 := ⟨7, by decide +kernel, rfl, rfl⟩
theorem zd_14_19_50 : zz_D zy_unit_14_19 50 (.iconst 2) 1 51 := ⟨by decide +kernel, rfl⟩
theorem zd_14_19_51 : zz_D zy_unit_14_19 51 (.ireturn) 1 52 := ⟨by decide +kernel, rfl⟩
theorem zd_14_19_46 : zz_D zy_unit_14_19 46 (.iconst 1) 1 47 := ⟨by decide +kernel, rfl⟩
theorem zd_14_19_47 : zz_B zy_unit_14_19 47 Instr.goto 51 50 := ⟨4, by decide +kernel, rfl, rfl⟩
theorem zd_14_19_31 : zz_D zy_unit_14_19 31 (.iconst 0) 1 32 := ⟨by decide +kernel, rfl⟩
theorem zd_14_19_32 : zz_B zy_unit_14_19 32 Instr.goto 51 35 := ⟨19, by decide +kernel, rfl, rfl⟩
theorem zd_14_19_11 : zz_D zy_unit_14_19 11 (.aload_n 0) 1 12 := ⟨by decide +kernel, rfl⟩
theorem zd_14_19_12 : zz_D zy_unit_14_19 12 (.getfield 36) 3 15 := ⟨by decide +kernel, rfl⟩
theorem zd_14_19_15 : zz_D zy_unit_14_19 15 (.bipush 11) 2 17 := ⟨by decide +kernel, rfl⟩
theorem zd_14_19_17 : zz_D zy_unit_14_19 17 (.iaload) 1 18 := ⟨by decide +kernel, rfl⟩
theorem zd_14_19_18 : zz_B zy_unit_14_19 18 Instr.goto 51 21 := ⟨33, by decide +kernel, rfl, rfl⟩
-- TensorForgeModel unit ()I
abbrev zr_unit_14_19 : Room := { frames := 0, cells := 0, slots := 0, locals := 0 }
def zp_unit_14_19  (S0 : zz_S) : Int → zz_S → Prop := fun r S => S0 = S ∧ ((-2147483648) ≤ r ∧ r ≤ 2147483647)
theorem zc_unit_14_19 {g : mm_G} {l : Launch}  (S0 : zz_S) (n : Nat) (hn : zz_end ≤ n) (G_S0 : zz_G S0)  : mm_Met g l zy_unit_14_19 zr_unit_14_19 [.ref 1079] (zz_M S0 n) n (zz_QI n (zp_unit_14_19  S0)) := by
  refine zz_enter (by decide) (Nat.le_of_ble_eq_true rfl) (zz_less (ls1 := [some (.ref 1079)]) ⟨rfl, trivial⟩ ?_)
  refine zz_aload_n (x := 1079) rfl zd_14_19_0 ?_
  refine zz_getr (kd := 0) (z := 1087) zd_14_19_1 zf_Md_36 zT_1079 rfl (zz_ltn hn rfl) (zz_G.eq G_S0 1079 11 1087 rfl rfl) (by decide) 1087 rfl ?_
  refine zz_iconst zd_14_19_4 ?_
  have g1 := zz_G.r G_S0 1087 0 (-2147483648) 2147483647 rfl rfl
  refine zz_iald (z := S0 1087 0) zd_14_19_5 zT_1087 rfl (zz_ltn hn rfl) (by decide) (by decide) rfl ?_
  refine zz_bipush (by decide) zd_14_19_6 ?_
  refine zz_icmp_ne (by omega) (by omega) zd_14_19_8 (fun c2 => ?_) (fun c2 => ?_)
  · refine zz_aload_n (x := 1079) rfl zd_14_19_21 ?_
    refine zz_getr (kd := 0) (z := 1087) zd_14_19_22 zf_Md_36 zT_1079 rfl (zz_ltn hn rfl) (zz_G.eq G_S0 1079 11 1087 rfl rfl) (by decide) 1087 rfl ?_
    refine zz_iconst zd_14_19_25 ?_
    refine zz_iald (z := S0 1087 0) zd_14_19_26 zT_1087 rfl (zz_ltn hn rfl) (by decide) (by decide) rfl ?_
    refine zz_iconst zd_14_19_27 ?_
    refine zz_icmp_ge (by omega) (by omega) zd_14_19_28 (fun c3 => ?_) (fun c3 => ?_)
    · refine zz_aload_n (x := 1079) rfl zd_14_19_35 ?_
      refine zz_getr (kd := 0) (z := 1087) zd_14_19_36 zf_Md_36 zT_1079 rfl (zz_ltn hn rfl) (zz_G.eq G_S0 1079 11 1087 rfl rfl) (by decide) 1087 rfl ?_
      refine zz_iconst zd_14_19_39 ?_
      refine zz_iald (z := S0 1087 0) zd_14_19_40 zT_1087 rfl (zz_ltn hn rfl) (by decide) (by decide) rfl ?_
      refine zz_bipush (by decide) zd_14_19_41 ?_
      refine zz_icmp_ge (by omega) (by omega) zd_14_19_43 (fun c4 => ?_) (fun c4 => ?_)
      · refine zz_iconst zd_14_19_50 ?_
        exact zz_iret zd_14_19_51 rfl (Nat.zero_le _) (Nat.zero_le _) ⟨_, _, rfl, rfl, by omega⟩
      · refine zz_iconst zd_14_19_46 ?_
        refine zz_goto zd_14_19_47 ?_
        exact zz_iret zd_14_19_51 rfl (Nat.zero_le _) (Nat.zero_le _) ⟨_, _, rfl, rfl, by omega⟩
    · refine zz_iconst zd_14_19_31 ?_
      refine zz_goto zd_14_19_32 ?_
      exact zz_iret zd_14_19_51 rfl (Nat.zero_le _) (Nat.zero_le _) ⟨_, _, rfl, rfl, by omega⟩
  · refine zz_aload_n (x := 1079) rfl zd_14_19_11 ?_
    refine zz_getr (kd := 0) (z := 1087) zd_14_19_12 zf_Md_36 zT_1079 rfl (zz_ltn hn rfl) (zz_G.eq G_S0 1079 11 1087 rfl rfl) (by decide) 1087 rfl ?_
    refine zz_bipush (by decide) zd_14_19_15 ?_
    have g5 := zz_G.r G_S0 1087 11 (-2147483648) 2147483647 rfl rfl
    refine zz_iald (z := S0 1087 11) zd_14_19_17 zT_1087 rfl (zz_ltn hn rfl) (by decide) (by decide) rfl ?_
    refine zz_goto zd_14_19_18 ?_
    exact zz_iret zd_14_19_51 rfl (Nat.zero_le _) (Nat.zero_le _) ⟨_, _, rfl, rfl, by omega⟩
abbrev zy_rowsEnd_14_21 : mm_Y := (⟨"TensorForgeModel", "rowsEnd", "(II)I"⟩, prog_14_method_21_code, 3, (some .int))
theorem zyw_rowsEnd_14_21 : mm_Yw zy_rowsEnd_14_21 2 := ⟨mm_tb_1 1914 (by decide +kernel) rfl, mm_tb_1 12 (by decide +kernel) rfl, ⟨by decide, by decide⟩, by decide +kernel⟩
theorem zd_14_21_0 : zz_D zy_rowsEnd_14_21 0 (.iload_n 1) 1 1 := ⟨by decide +kernel, rfl⟩
theorem zd_14_21_1 : zz_D zy_rowsEnd_14_21 1 (.aload_n 0) 1 2 := ⟨by decide +kernel, rfl⟩
theorem zd_14_21_2 : zz_D zy_rowsEnd_14_21 2 (.getfield 36) 3 5 := ⟨by decide +kernel, rfl⟩
theorem zd_14_21_5 : zz_D zy_rowsEnd_14_21 5 (.bipush 6) 2 7 := ⟨by decide +kernel, rfl⟩
theorem zd_14_21_7 : zz_D zy_rowsEnd_14_21 7 (.iaload) 1 8 := ⟨by decide +kernel, rfl⟩
theorem zd_14_21_8 : zz_D zy_rowsEnd_14_21 8 (.iconst 1) 1 9 := ⟨by decide +kernel, rfl⟩
theorem zd_14_21_9 : zz_D zy_rowsEnd_14_21 9 (.isub) 1 10 := ⟨by decide +kernel, rfl⟩
theorem zd_14_21_10 : zz_D zy_rowsEnd_14_21 10 (.aload_n 0) 1 11 := ⟨by decide +kernel, rfl⟩
theorem zd_14_21_11 : zz_D zy_rowsEnd_14_21 11 (.getfield 7) 3 14 := ⟨by decide +kernel, rfl⟩
theorem zd_14_21_14 : zz_D zy_rowsEnd_14_21 14 (.imul) 1 15 := ⟨by decide +kernel, rfl⟩
theorem zd_14_21_15 : zz_D zy_rowsEnd_14_21 15 (.iadd) 1 16 := ⟨by decide +kernel, rfl⟩
theorem zd_14_21_16 : zz_D zy_rowsEnd_14_21 16 (.iload_n 2) 1 17 := ⟨by decide +kernel, rfl⟩
theorem zd_14_21_17 : zz_D zy_rowsEnd_14_21 17 (.iadd) 1 18 := ⟨by decide +kernel, rfl⟩
theorem zd_14_21_18 : zz_D zy_rowsEnd_14_21 18 (.iconst 1) 1 19 := ⟨by decide +kernel, rfl⟩
theorem zd_14_21_19 : zz_D zy_rowsEnd_14_21 19 (.isub) 1 20 := ⟨by decide +kernel, rfl⟩
theorem zd_14_21_20 : zz_D zy_rowsEnd_14_21 20 (.ireturn) 1 21 := ⟨by decide +kernel, rfl⟩
-- TensorForgeModel rowsEnd (II)I
abbrev zr_rowsEnd_14_21 : Room := { frames := 0, cells := 0, slots := 0, locals := 0 }
def zp_rowsEnd_14_21 (p0 : Int) (p1 : Int) (S0 : zz_S) : Int → zz_S → Prop := fun r S => S0 = S ∧ ((-2147483648) ≤ r ∧ r ≤ 2147483647)
theorem zc_rowsEnd_14_21 {g : mm_G} {l : Launch} (p0 : Int) (p1 : Int) (S0 : zz_S) (n : Nat) (hn : zz_end ≤ n) (G_S0 : zz_G S0) (hp0 : (-2147483648) ≤ p0 ∧ p0 ≤ 2147483647) (hp1 : (-2147483648) ≤ p1 ∧ p1 ≤ 2147483647) : mm_Met g l zy_rowsEnd_14_21 zr_rowsEnd_14_21 [.ref 1079, zi p0, zi p1] (zz_M S0 n) n (zz_QI n (zp_rowsEnd_14_21 p0 p1 S0)) := by
  refine zz_enter (by decide) (Nat.le_of_ble_eq_true rfl) (zz_less (ls1 := [some (.ref 1079), some (zi p0), some (zi p1)]) ⟨rfl, ⟨rfl, ⟨rfl, trivial⟩⟩⟩ ?_)
  refine zz_iload_n (x := p0) rfl zd_14_21_0 ?_
  refine zz_aload_n (x := 1079) rfl zd_14_21_1 ?_
  refine zz_getr (kd := 0) (z := 1087) zd_14_21_2 zf_Md_36 zT_1079 rfl (zz_ltn hn rfl) (zz_G.eq G_S0 1079 11 1087 rfl rfl) (by decide) 1087 rfl ?_
  refine zz_bipush (by decide) zd_14_21_5 ?_
  have g1 := zz_G.r G_S0 1087 6 (-2147483648) 2147483647 rfl rfl
  refine zz_iald (z := S0 1087 6) zd_14_21_7 zT_1087 rfl (zz_ltn hn rfl) (by decide) (by decide) rfl ?_
  refine zz_iconst zd_14_21_8 ?_
  refine zz_isub zd_14_21_9 ?_
  refine zz_nrm (fun v2 hv2 ev2 => ?_)
  refine zz_aload_n (x := 1079) rfl zd_14_21_10 ?_
  have g3 := zz_G.r G_S0 1079 1 2 8 rfl rfl
  refine zz_geti (z := S0 1079 1) zd_14_21_11 zf_Md_7 zT_1079 rfl (zz_ltn hn rfl) rfl ?_
  refine zz_imul zd_14_21_14 ?_
  refine zz_nrm (fun v4 hv4 ev4 => ?_)
  refine zz_iadd zd_14_21_15 ?_
  refine zz_nrm (fun v5 hv5 ev5 => ?_)
  refine zz_iload_n (x := p1) rfl zd_14_21_16 ?_
  refine zz_iadd zd_14_21_17 ?_
  refine zz_nrm (fun v6 hv6 ev6 => ?_)
  refine zz_iconst zd_14_21_18 ?_
  refine zz_isub zd_14_21_19 ?_
  refine zz_nrm (fun v7 hv7 ev7 => ?_)
  exact zz_iret zd_14_21_20 rfl (Nat.zero_le _) (Nat.zero_le _) ⟨_, _, rfl, rfl, by omega⟩
abbrev zy_reaches_14_22 : mm_Y := (⟨"TensorForgeModel", "reaches", "()V"⟩, prog_14_method_22_code, 5, none)
theorem zyw_reaches_14_22 : mm_Yw zy_reaches_14_22 0 := ⟨mm_tb_1 1906 (by decide +kernel) rfl, mm_tb_1 12 (by decide +kernel) rfl, ⟨by decide, by decide⟩, by decide +kernel⟩
theorem zd_14_22_0 : zz_D zy_reaches_14_22 0 (.iconst 0) 1 1 := ⟨by decide +kernel, rfl⟩
theorem zd_14_22_1 : zz_D zy_reaches_14_22 1 (.istore_n 1) 1 2 := ⟨by decide +kernel, rfl⟩
theorem zd_14_22_2 : zz_D zy_reaches_14_22 2 (.iload_n 1) 1 3 := ⟨by decide +kernel, rfl⟩
theorem zd_14_22_3 : zz_D zy_reaches_14_22 3 (.iconst 5) 1 4 := ⟨by decide +kernel, rfl⟩
theorem zd_14_22_4 : zz_B zy_reaches_14_22 4 (Instr.if_icmp .ge) 35 7 := ⟨31, by decide +kernel, rfl, rfl⟩
theorem zd_14_22_35 : zz_D zy_reaches_14_22 35 (.aload_n 0) 1 36 := ⟨by decide +kernel, rfl⟩
theorem zd_14_22_36 : zz_D zy_reaches_14_22 36 (.getfield 36) 3 39 := ⟨by decide +kernel, rfl⟩
theorem zd_14_22_39 : zz_D zy_reaches_14_22 39 (.bipush 7) 2 41 := ⟨by decide +kernel, rfl⟩
theorem zd_14_22_41 : zz_D zy_reaches_14_22 41 (.iaload) 1 42 := ⟨by decide +kernel, rfl⟩
theorem zd_14_22_42 : zz_D zy_reaches_14_22 42 (.istore_n 1) 1 43 := ⟨by decide +kernel, rfl⟩
theorem zd_14_22_43 : zz_D zy_reaches_14_22 43 (.aload_n 0) 1 44 := ⟨by decide +kernel, rfl⟩
theorem zd_14_22_44 : zz_D zy_reaches_14_22 44 (.getfield 36) 3 47 := ⟨by decide +kernel, rfl⟩
theorem zd_14_22_47 : zz_D zy_reaches_14_22 47 (.bipush 8) 2 49 := ⟨by decide +kernel, rfl⟩
theorem zd_14_22_49 : zz_D zy_reaches_14_22 49 (.iaload) 1 50 := ⟨by decide +kernel, rfl⟩
theorem zd_14_22_50 : zz_D zy_reaches_14_22 50 (.istore_n 2) 1 51 := ⟨by decide +kernel, rfl⟩
theorem zd_14_22_51 : zz_D zy_reaches_14_22 51 (.aload_n 0) 1 52 := ⟨by decide +kernel, rfl⟩
theorem zd_14_22_52 : zz_D zy_reaches_14_22 52 (.getfield 36) 3 55 := ⟨by decide +kernel, rfl⟩
theorem zd_14_22_55 : zz_D zy_reaches_14_22 55 (.bipush 9) 2 57 := ⟨by decide +kernel, rfl⟩
theorem zd_14_22_57 : zz_D zy_reaches_14_22 57 (.iaload) 1 58 := ⟨by decide +kernel, rfl⟩
theorem zd_14_22_58 : zz_D zy_reaches_14_22 58 (.istore_n 3) 1 59 := ⟨by decide +kernel, rfl⟩
theorem zd_14_22_59 : zz_D zy_reaches_14_22 59 (.aload_n 0) 1 60 := ⟨by decide +kernel, rfl⟩
theorem zd_14_22_60 : zz_D zy_reaches_14_22 60 (.getfield 36) 3 63 := ⟨by decide +kernel, rfl⟩
theorem zd_14_22_63 : zz_D zy_reaches_14_22 63 (.iconst 5) 1 64 := ⟨by decide +kernel, rfl⟩
theorem zd_14_22_64 : zz_D zy_reaches_14_22 64 (.iaload) 1 65 := ⟨by decide +kernel, rfl⟩
theorem zd_14_22_65 : zz_D zy_reaches_14_22 65 (.aload_n 0) 1 66 := ⟨by decide +kernel, rfl⟩
theorem zd_14_22_66 : zz_D zy_reaches_14_22 66 (.getfield 36) 3 69 := ⟨by decide +kernel, rfl⟩
theorem zd_14_22_69 : zz_D zy_reaches_14_22 69 (.bipush 6) 2 71 := ⟨by decide +kernel, rfl⟩
theorem zd_14_22_71 : zz_D zy_reaches_14_22 71 (.iaload) 1 72 := ⟨by decide +kernel, rfl⟩
theorem zd_14_22_72 : zz_D zy_reaches_14_22 72 (.iconst 1) 1 73 := ⟨by decide +kernel, rfl⟩
theorem zd_14_22_73 : zz_D zy_reaches_14_22 73 (.isub) 1 74 := ⟨by decide +kernel, rfl⟩
theorem zd_14_22_74 : zz_D zy_reaches_14_22 74 (.aload_n 0) 1 75 := ⟨by decide +kernel, rfl⟩
theorem zd_14_22_75 : zz_D zy_reaches_14_22 75 (.getfield 36) 3 78 := ⟨by decide +kernel, rfl⟩
theorem zd_14_22_78 : zz_D zy_reaches_14_22 78 (.bipush 10) 2 80 := ⟨by decide +kernel, rfl⟩
theorem zd_14_22_80 : zz_D zy_reaches_14_22 80 (.iaload) 1 81 := ⟨by decide +kernel, rfl⟩
theorem zd_14_22_81 : zz_D zy_reaches_14_22 81 (.imul) 1 82 := ⟨by decide +kernel, rfl⟩
theorem zd_14_22_82 : zz_D zy_reaches_14_22 82 (.iadd) 1 83 := ⟨by decide +kernel, rfl⟩
theorem zd_14_22_83 : zz_D zy_reaches_14_22 83 (.istore 4) 2 85 := ⟨by decide +kernel, rfl⟩
theorem zd_14_22_85 : zz_D zy_reaches_14_22 85 (.aload_n 0) 1 86 := ⟨by decide +kernel, rfl⟩
theorem zd_14_22_86 : zz_D zy_reaches_14_22 86 (.getfield 36) 3 89 := ⟨by decide +kernel, rfl⟩
theorem zd_14_22_89 : zz_D zy_reaches_14_22 89 (.iconst 0) 1 90 := ⟨by decide +kernel, rfl⟩
theorem zd_14_22_90 : zz_D zy_reaches_14_22 90 (.iaload) 1 91 := ⟨by decide +kernel, rfl⟩
theorem zd_14_22_91 : zz_W zy_reaches_14_22 91 403 1 8 #[45, 45, 90, 109, 151, 267, 328, 363] := ⟨45, by decide +kernel⟩
theorem zd_14_22_136 : zz_D zy_reaches_14_22 136 (.aload_n 0) 1 137 := ⟨by decide +kernel, rfl⟩
theorem zd_14_22_137 : zz_D zy_reaches_14_22 137 (.aload_n 0) 1 138 := ⟨by decide +kernel, rfl⟩
theorem zd_14_22_138 : zz_D zy_reaches_14_22 138 (.getfield 39) 3 141 := ⟨by decide +kernel, rfl⟩
theorem zf_Md_39 : mm_Fl "TensorForgeModel" 39 11 12 (.array .int) true := ⟨R_Md, F_Md, 69, t_Md, rfl, i_Md, by decide, mm_tb_1 1623 (by decide +kernel) rfl, rfl, t_Md_ok, n_Md, rfl, by decide +kernel⟩
theorem zd_14_22_141 : zz_D zy_reaches_14_22 141 (.iconst 0) 1 142 := ⟨by decide +kernel, rfl⟩
theorem zd_14_22_142 : zz_D zy_reaches_14_22 142 (.aload_n 0) 1 143 := ⟨by decide +kernel, rfl⟩
theorem zd_14_22_143 : zz_D zy_reaches_14_22 143 (.getfield 36) 3 146 := ⟨by decide +kernel, rfl⟩
theorem zd_14_22_146 : zz_D zy_reaches_14_22 146 (.iconst 5) 1 147 := ⟨by decide +kernel, rfl⟩
theorem zd_14_22_147 : zz_D zy_reaches_14_22 147 (.iaload) 1 148 := ⟨by decide +kernel, rfl⟩
theorem zd_14_22_148 : zz_D zy_reaches_14_22 148 (.iload 4) 2 150 := ⟨by decide +kernel, rfl⟩
theorem zd_14_22_150 : zz_D zy_reaches_14_22 150 (.iload_n 1) 1 151 := ⟨by decide +kernel, rfl⟩
theorem zd_14_22_151 : zz_D zy_reaches_14_22 151 (.iadd) 1 152 := ⟨by decide +kernel, rfl⟩
theorem zd_14_22_152 : zz_D zy_reaches_14_22 152 (.iconst 1) 1 153 := ⟨by decide +kernel, rfl⟩
theorem zd_14_22_153 : zz_D zy_reaches_14_22 153 (.isub) 1 154 := ⟨by decide +kernel, rfl⟩
theorem zd_14_22_154 : zz_D zy_reaches_14_22 154 (.invokevirtual 227) 3 157 := ⟨by decide +kernel, rfl⟩
abbrev zy_reach_14_20 : mm_Y := (⟨"TensorForgeModel", "reach", "([IIII)V"⟩, prog_14_method_20_code, 5, none)
theorem zyw_reach_14_20 : mm_Yw zy_reach_14_20 4 := ⟨mm_tb_1 1910 (by decide +kernel) rfl, mm_tb_1 12 (by decide +kernel) rfl, ⟨by decide, by decide⟩, by decide +kernel⟩
theorem zd_14_20_0 : zz_D zy_reach_14_20 0 (.aload_n 1) 1 1 := ⟨by decide +kernel, rfl⟩
theorem zd_14_20_1 : zz_D zy_reach_14_20 1 (.iconst 2) 1 2 := ⟨by decide +kernel, rfl⟩
theorem zd_14_20_2 : zz_D zy_reach_14_20 2 (.iload_n 2) 1 3 := ⟨by decide +kernel, rfl⟩
theorem zd_14_20_3 : zz_D zy_reach_14_20 3 (.imul) 1 4 := ⟨by decide +kernel, rfl⟩
theorem zd_14_20_4 : zz_D zy_reach_14_20 4 (.iload_n 3) 1 5 := ⟨by decide +kernel, rfl⟩
theorem zd_14_20_5 : zz_D zy_reach_14_20 5 (.iastore) 1 6 := ⟨by decide +kernel, rfl⟩
theorem zd_14_20_6 : zz_D zy_reach_14_20 6 (.aload_n 1) 1 7 := ⟨by decide +kernel, rfl⟩
theorem zd_14_20_7 : zz_D zy_reach_14_20 7 (.iconst 2) 1 8 := ⟨by decide +kernel, rfl⟩
theorem zd_14_20_8 : zz_D zy_reach_14_20 8 (.iload_n 2) 1 9 := ⟨by decide +kernel, rfl⟩
theorem zd_14_20_9 : zz_D zy_reach_14_20 9 (.imul) 1 10 := ⟨by decide +kernel, rfl⟩
theorem zd_14_20_10 : zz_D zy_reach_14_20 10 (.iconst 1) 1 11 := ⟨by decide +kernel, rfl⟩
theorem zd_14_20_11 : zz_D zy_reach_14_20 11 (.iadd) 1 12 := ⟨by decide +kernel, rfl⟩
theorem zd_14_20_12 : zz_D zy_reach_14_20 12 (.iload 4) 2 14 := ⟨by decide +kernel, rfl⟩
theorem zd_14_20_14 : zz_D zy_reach_14_20 14 (.iastore) 1 15 := ⟨by decide +kernel, rfl⟩
theorem zd_14_20_15 : zz_D zy_reach_14_20 15 (.return_) 1 16 := ⟨by decide +kernel, rfl⟩
-- TensorForgeModel reach ([IIII)V
abbrev zr_reach_14_20_1088 : Room := { frames := 0, cells := 0, slots := 0, locals := 0 }
def zp_reach_14_20_1088 (p1 : Int) (p2 : Int) (p3 : Int) (S0 : zz_S) : zz_S → Prop := fun S => zz_G S ∧ zz_fr [] [1088] (fun _ _ => False) S0 S
theorem zc_reach_14_20_1088 {g : mm_G} {l : Launch} (p1 : Int) (p2 : Int) (p3 : Int) (S0 : zz_S) (n : Nat) (hn : zz_end ≤ n) (G_S0 : zz_G S0) (hp1 : 0 ≤ p1 ∧ p1 ≤ 4) (hp2 : (-2147483648) ≤ p2 ∧ p2 ≤ 2147483647) (hp3 : (-2147483648) ≤ p3 ∧ p3 ≤ 2147483647) : mm_Met g l zy_reach_14_20 zr_reach_14_20_1088 [.ref 1079, .ref 1088, zi p1, zi p2, zi p3] (zz_M S0 n) n (zz_QV n (zp_reach_14_20_1088 p1 p2 p3 S0)) := by
  refine zz_enter (by decide) (Nat.le_of_ble_eq_true rfl) (zz_less (ls1 := [some (.ref 1079), some (.ref 1088), some (zi p1), some (zi p2), some (zi p3)]) ⟨rfl, ⟨rfl, ⟨rfl, ⟨rfl, ⟨rfl, trivial⟩⟩⟩⟩⟩ ?_)
  have F_S0 : zz_fr [] [1088] (fun _ _ => False) S0 S0 := zz_fr.refl
  refine zz_aload_n (x := 1088) rfl zd_14_20_0 ?_
  refine zz_iconst zd_14_20_1 ?_
  refine zz_iload_n (x := p1) rfl zd_14_20_2 ?_
  refine zz_imul zd_14_20_3 ?_
  refine zz_iload_n (x := p2) rfl zd_14_20_4 ?_
  refine zz_iast zd_14_20_5 zT_1088 rfl (zz_ltn hn rfl) (by decide) (by omega) (fun S1 qS1 => ?_)
  have G_S1 := zz_G.put G_S0 qS1 (-2147483648) 2147483647 rfl (by omega)
  have F_S1 := zz_fr.putc F_S0 qS1 rfl
  refine zz_aload_n (x := 1088) rfl zd_14_20_6 ?_
  refine zz_iconst zd_14_20_7 ?_
  refine zz_iload_n (x := p1) rfl zd_14_20_8 ?_
  refine zz_imul zd_14_20_9 ?_
  refine zz_iconst zd_14_20_10 ?_
  refine zz_iadd zd_14_20_11 ?_
  refine zz_iload (x := p3) rfl zd_14_20_12 ?_
  refine zz_iast zd_14_20_14 zT_1088 rfl (zz_ltn hn rfl) (by decide) (by omega) (fun S2 qS2 => ?_)
  have G_S2 := zz_G.put G_S1 qS2 (-2147483648) 2147483647 rfl (by omega)
  have F_S2 := zz_fr.putc F_S1 qS2 rfl
  exact zz_vret zd_14_20_15 rfl (Nat.zero_le _) (Nat.zero_le _) ⟨_, rfl, G_S2, F_S2⟩
theorem zk_Md_227 : mm_Vl "TensorForgeModel" 227 11 4 zy_reach_14_20 := ⟨zyw_reach_14_20, (R_Md, F_Md, 69), rfl, mm_tb_1 1907 (by decide +kernel) rfl, mm_tb_1 1909 (by decide +kernel) rfl, mm_tb_s 92 (by decide +kernel) rfl⟩
theorem zd_14_22_157 : zz_D zy_reaches_14_22 157 (.aload_n 0) 1 158 := ⟨by decide +kernel, rfl⟩
theorem zd_14_22_158 : zz_D zy_reaches_14_22 158 (.aload_n 0) 1 159 := ⟨by decide +kernel, rfl⟩
theorem zd_14_22_159 : zz_D zy_reaches_14_22 159 (.getfield 42) 3 162 := ⟨by decide +kernel, rfl⟩
theorem zf_Md_42 : mm_Fl "TensorForgeModel" 42 11 13 (.array .int) true := ⟨R_Md, F_Md, 69, t_Md, rfl, i_Md, by decide, mm_tb_1 1624 (by decide +kernel) rfl, rfl, t_Md_ok, n_Md, rfl, by decide +kernel⟩
theorem zd_14_22_162 : zz_D zy_reaches_14_22 162 (.aload_n 0) 1 163 := ⟨by decide +kernel, rfl⟩
theorem zd_14_22_163 : zz_D zy_reaches_14_22 163 (.getfield 36) 3 166 := ⟨by decide +kernel, rfl⟩
theorem zd_14_22_166 : zz_D zy_reaches_14_22 166 (.iconst 0) 1 167 := ⟨by decide +kernel, rfl⟩
theorem zd_14_22_167 : zz_D zy_reaches_14_22 167 (.iaload) 1 168 := ⟨by decide +kernel, rfl⟩
theorem zd_14_22_168 : zz_D zy_reaches_14_22 168 (.iload_n 2) 1 169 := ⟨by decide +kernel, rfl⟩
theorem zd_14_22_169 : zz_D zy_reaches_14_22 169 (.aload_n 0) 1 170 := ⟨by decide +kernel, rfl⟩
theorem zd_14_22_170 : zz_D zy_reaches_14_22 170 (.iload_n 2) 1 171 := ⟨by decide +kernel, rfl⟩
theorem zd_14_22_171 : zz_D zy_reaches_14_22 171 (.iload_n 1) 1 172 := ⟨by decide +kernel, rfl⟩
theorem zd_14_22_172 : zz_D zy_reaches_14_22 172 (.invokevirtual 231) 3 175 := ⟨by decide +kernel, rfl⟩
theorem zk_Md_231 : mm_Vl "TensorForgeModel" 231 11 2 zy_rowsEnd_14_21 := ⟨zyw_rowsEnd_14_21, (R_Md, F_Md, 69), rfl, mm_tb_1 1911 (by decide +kernel) rfl, mm_tb_1 1913 (by decide +kernel) rfl, mm_tb_s 93 (by decide +kernel) rfl⟩
theorem zd_14_22_175 : zz_D zy_reaches_14_22 175 (.invokevirtual 227) 3 178 := ⟨by decide +kernel, rfl⟩
-- TensorForgeModel reach ([IIII)V
abbrev zr_reach_14_20_1089 : Room := { frames := 0, cells := 0, slots := 0, locals := 0 }
def zp_reach_14_20_1089 (p1 : Int) (p2 : Int) (p3 : Int) (S0 : zz_S) : zz_S → Prop := fun S => zz_G S ∧ zz_fr [] [1089] (fun _ _ => False) S0 S
theorem zc_reach_14_20_1089 {g : mm_G} {l : Launch} (p1 : Int) (p2 : Int) (p3 : Int) (S0 : zz_S) (n : Nat) (hn : zz_end ≤ n) (G_S0 : zz_G S0) (hp1 : 0 ≤ p1 ∧ p1 ≤ 4) (hp2 : (-2147483648) ≤ p2 ∧ p2 ≤ 2147483647) (hp3 : (-2147483648) ≤ p3 ∧ p3 ≤ 2147483647) : mm_Met g l zy_reach_14_20 zr_reach_14_20_1089 [.ref 1079, .ref 1089, zi p1, zi p2, zi p3] (zz_M S0 n) n (zz_QV n (zp_reach_14_20_1089 p1 p2 p3 S0)) := by
  refine zz_enter (by decide) (Nat.le_of_ble_eq_true rfl) (zz_less (ls1 := [some (.ref 1079), some (.ref 1089), some (zi p1), some (zi p2), some (zi p3)]) ⟨rfl, ⟨rfl, ⟨rfl, ⟨rfl, ⟨rfl, trivial⟩⟩⟩⟩⟩ ?_)
  have F_S0 : zz_fr [] [1089] (fun _ _ => False) S0 S0 := zz_fr.refl
  refine zz_aload_n (x := 1089) rfl zd_14_20_0 ?_
  refine zz_iconst zd_14_20_1 ?_
  refine zz_iload_n (x := p1) rfl zd_14_20_2 ?_
  refine zz_imul zd_14_20_3 ?_
  refine zz_iload_n (x := p2) rfl zd_14_20_4 ?_
  refine zz_iast zd_14_20_5 zT_1089 rfl (zz_ltn hn rfl) (by decide) (by omega) (fun S1 qS1 => ?_)
  have G_S1 := zz_G.put G_S0 qS1 (-2147483648) 2147483647 rfl (by omega)
  have F_S1 := zz_fr.putc F_S0 qS1 rfl
  refine zz_aload_n (x := 1089) rfl zd_14_20_6 ?_
  refine zz_iconst zd_14_20_7 ?_
  refine zz_iload_n (x := p1) rfl zd_14_20_8 ?_
  refine zz_imul zd_14_20_9 ?_
  refine zz_iconst zd_14_20_10 ?_
  refine zz_iadd zd_14_20_11 ?_
  refine zz_iload (x := p3) rfl zd_14_20_12 ?_
  refine zz_iast zd_14_20_14 zT_1089 rfl (zz_ltn hn rfl) (by decide) (by omega) (fun S2 qS2 => ?_)
  have G_S2 := zz_G.put G_S1 qS2 (-2147483648) 2147483647 rfl (by omega)
  have F_S2 := zz_fr.putc F_S1 qS2 rfl
  exact zz_vret zd_14_20_15 rfl (Nat.zero_le _) (Nat.zero_le _) ⟨_, rfl, G_S2, F_S2⟩
theorem zd_14_22_178 : zz_B zy_reaches_14_22 178 Instr.goto 494 181 := ⟨316, by decide +kernel, rfl, rfl⟩
theorem zd_14_22_494 : zz_D zy_reaches_14_22 494 (.return_) 1 495 := ⟨by decide +kernel, rfl⟩
theorem zd_14_22_181 : zz_D zy_reaches_14_22 181 (.aload_n 0) 1 182 := ⟨by decide +kernel, rfl⟩
theorem zd_14_22_182 : zz_D zy_reaches_14_22 182 (.aload_n 0) 1 183 := ⟨by decide +kernel, rfl⟩
theorem zd_14_22_183 : zz_D zy_reaches_14_22 183 (.getfield 42) 3 186 := ⟨by decide +kernel, rfl⟩
theorem zd_14_22_186 : zz_D zy_reaches_14_22 186 (.iconst 1) 1 187 := ⟨by decide +kernel, rfl⟩
theorem zd_14_22_187 : zz_D zy_reaches_14_22 187 (.iload_n 2) 1 188 := ⟨by decide +kernel, rfl⟩
theorem zd_14_22_188 : zz_D zy_reaches_14_22 188 (.aload_n 0) 1 189 := ⟨by decide +kernel, rfl⟩
theorem zd_14_22_189 : zz_D zy_reaches_14_22 189 (.iload_n 2) 1 190 := ⟨by decide +kernel, rfl⟩
theorem zd_14_22_190 : zz_D zy_reaches_14_22 190 (.iload_n 1) 1 191 := ⟨by decide +kernel, rfl⟩
theorem zd_14_22_191 : zz_D zy_reaches_14_22 191 (.invokevirtual 231) 3 194 := ⟨by decide +kernel, rfl⟩
theorem zd_14_22_194 : zz_D zy_reaches_14_22 194 (.invokevirtual 227) 3 197 := ⟨by decide +kernel, rfl⟩
theorem zd_14_22_197 : zz_B zy_reaches_14_22 197 Instr.goto 494 200 := ⟨297, by decide +kernel, rfl, rfl⟩
theorem zd_14_22_200 : zz_D zy_reaches_14_22 200 (.aload_n 0) 1 201 := ⟨by decide +kernel, rfl⟩
theorem zd_14_22_201 : zz_D zy_reaches_14_22 201 (.aload_n 0) 1 202 := ⟨by decide +kernel, rfl⟩
theorem zd_14_22_202 : zz_D zy_reaches_14_22 202 (.getfield 39) 3 205 := ⟨by decide +kernel, rfl⟩
theorem zd_14_22_205 : zz_D zy_reaches_14_22 205 (.iconst 0) 1 206 := ⟨by decide +kernel, rfl⟩
theorem zd_14_22_206 : zz_D zy_reaches_14_22 206 (.aload_n 0) 1 207 := ⟨by decide +kernel, rfl⟩
theorem zd_14_22_207 : zz_D zy_reaches_14_22 207 (.getfield 36) 3 210 := ⟨by decide +kernel, rfl⟩
theorem zd_14_22_210 : zz_D zy_reaches_14_22 210 (.iconst 5) 1 211 := ⟨by decide +kernel, rfl⟩
theorem zd_14_22_211 : zz_D zy_reaches_14_22 211 (.iaload) 1 212 := ⟨by decide +kernel, rfl⟩
theorem zd_14_22_212 : zz_D zy_reaches_14_22 212 (.iload 4) 2 214 := ⟨by decide +kernel, rfl⟩
theorem zd_14_22_214 : zz_D zy_reaches_14_22 214 (.iconst 4) 1 215 := ⟨by decide +kernel, rfl⟩
theorem zd_14_22_215 : zz_D zy_reaches_14_22 215 (.iload_n 1) 1 216 := ⟨by decide +kernel, rfl⟩
theorem zd_14_22_216 : zz_D zy_reaches_14_22 216 (.imul) 1 217 := ⟨by decide +kernel, rfl⟩
theorem zd_14_22_217 : zz_D zy_reaches_14_22 217 (.iadd) 1 218 := ⟨by decide +kernel, rfl⟩
theorem zd_14_22_218 : zz_D zy_reaches_14_22 218 (.iconst 1) 1 219 := ⟨by decide +kernel, rfl⟩
theorem zd_14_22_219 : zz_D zy_reaches_14_22 219 (.isub) 1 220 := ⟨by decide +kernel, rfl⟩
theorem zd_14_22_220 : zz_D zy_reaches_14_22 220 (.invokevirtual 227) 3 223 := ⟨by decide +kernel, rfl⟩
theorem zd_14_22_223 : zz_D zy_reaches_14_22 223 (.aload_n 0) 1 224 := ⟨by decide +kernel, rfl⟩
theorem zd_14_22_224 : zz_D zy_reaches_14_22 224 (.aload_n 0) 1 225 := ⟨by decide +kernel, rfl⟩
theorem zd_14_22_225 : zz_D zy_reaches_14_22 225 (.getfield 42) 3 228 := ⟨by decide +kernel, rfl⟩
theorem zd_14_22_228 : zz_D zy_reaches_14_22 228 (.iconst 3) 1 229 := ⟨by decide +kernel, rfl⟩
theorem zd_14_22_229 : zz_D zy_reaches_14_22 229 (.iload_n 2) 1 230 := ⟨by decide +kernel, rfl⟩
theorem zd_14_22_230 : zz_D zy_reaches_14_22 230 (.aload_n 0) 1 231 := ⟨by decide +kernel, rfl⟩
theorem zd_14_22_231 : zz_D zy_reaches_14_22 231 (.iload_n 2) 1 232 := ⟨by decide +kernel, rfl⟩
theorem zd_14_22_232 : zz_D zy_reaches_14_22 232 (.iload_n 1) 1 233 := ⟨by decide +kernel, rfl⟩
theorem zd_14_22_233 : zz_D zy_reaches_14_22 233 (.invokevirtual 231) 3 236 := ⟨by decide +kernel, rfl⟩
theorem zd_14_22_236 : zz_D zy_reaches_14_22 236 (.invokevirtual 227) 3 239 := ⟨by decide +kernel, rfl⟩
theorem zd_14_22_239 : zz_B zy_reaches_14_22 239 Instr.goto 494 242 := ⟨255, by decide +kernel, rfl, rfl⟩
theorem zd_14_22_242 : zz_D zy_reaches_14_22 242 (.aload_n 0) 1 243 := ⟨by decide +kernel, rfl⟩
theorem zd_14_22_243 : zz_D zy_reaches_14_22 243 (.aload_n 0) 1 244 := ⟨by decide +kernel, rfl⟩
theorem zd_14_22_244 : zz_D zy_reaches_14_22 244 (.getfield 39) 3 247 := ⟨by decide +kernel, rfl⟩
theorem zd_14_22_247 : zz_D zy_reaches_14_22 247 (.iconst 1) 1 248 := ⟨by decide +kernel, rfl⟩
theorem zd_14_22_248 : zz_D zy_reaches_14_22 248 (.iload_n 2) 1 249 := ⟨by decide +kernel, rfl⟩
theorem zd_14_22_249 : zz_D zy_reaches_14_22 249 (.aload_n 0) 1 250 := ⟨by decide +kernel, rfl⟩
theorem zd_14_22_250 : zz_D zy_reaches_14_22 250 (.iload_n 2) 1 251 := ⟨by decide +kernel, rfl⟩
theorem zd_14_22_251 : zz_D zy_reaches_14_22 251 (.aload_n 0) 1 252 := ⟨by decide +kernel, rfl⟩
theorem zd_14_22_252 : zz_D zy_reaches_14_22 252 (.getfield 36) 3 255 := ⟨by decide +kernel, rfl⟩
theorem zd_14_22_255 : zz_D zy_reaches_14_22 255 (.bipush 11) 2 257 := ⟨by decide +kernel, rfl⟩
theorem zd_14_22_257 : zz_D zy_reaches_14_22 257 (.iaload) 1 258 := ⟨by decide +kernel, rfl⟩
theorem zd_14_22_258 : zz_D zy_reaches_14_22 258 (.iconst 2) 1 259 := ⟨by decide +kernel, rfl⟩
theorem zd_14_22_259 : zz_D zy_reaches_14_22 259 (.idiv) 1 260 := ⟨by decide +kernel, rfl⟩
theorem zd_14_22_260 : zz_D zy_reaches_14_22 260 (.invokevirtual 231) 3 263 := ⟨by decide +kernel, rfl⟩
theorem zd_14_22_263 : zz_D zy_reaches_14_22 263 (.invokevirtual 227) 3 266 := ⟨by decide +kernel, rfl⟩
theorem zd_14_22_266 : zz_D zy_reaches_14_22 266 (.aload_n 0) 1 267 := ⟨by decide +kernel, rfl⟩
theorem zd_14_22_267 : zz_D zy_reaches_14_22 267 (.aload_n 0) 1 268 := ⟨by decide +kernel, rfl⟩
theorem zd_14_22_268 : zz_D zy_reaches_14_22 268 (.getfield 39) 3 271 := ⟨by decide +kernel, rfl⟩
theorem zd_14_22_271 : zz_D zy_reaches_14_22 271 (.iconst 2) 1 272 := ⟨by decide +kernel, rfl⟩
theorem zd_14_22_272 : zz_D zy_reaches_14_22 272 (.aload_n 0) 1 273 := ⟨by decide +kernel, rfl⟩
theorem zd_14_22_273 : zz_D zy_reaches_14_22 273 (.getfield 36) 3 276 := ⟨by decide +kernel, rfl⟩
theorem zd_14_22_276 : zz_D zy_reaches_14_22 276 (.bipush 10) 2 278 := ⟨by decide +kernel, rfl⟩
theorem zd_14_22_278 : zz_D zy_reaches_14_22 278 (.iaload) 1 279 := ⟨by decide +kernel, rfl⟩
theorem zd_14_22_279 : zz_D zy_reaches_14_22 279 (.aload_n 0) 1 280 := ⟨by decide +kernel, rfl⟩
theorem zd_14_22_280 : zz_D zy_reaches_14_22 280 (.getfield 36) 3 283 := ⟨by decide +kernel, rfl⟩
theorem zd_14_22_283 : zz_D zy_reaches_14_22 283 (.bipush 10) 2 285 := ⟨by decide +kernel, rfl⟩
theorem zd_14_22_285 : zz_D zy_reaches_14_22 285 (.iaload) 1 286 := ⟨by decide +kernel, rfl⟩
theorem zd_14_22_286 : zz_D zy_reaches_14_22 286 (.aload_n 0) 1 287 := ⟨by decide +kernel, rfl⟩
theorem zd_14_22_287 : zz_D zy_reaches_14_22 287 (.getfield 36) 3 290 := ⟨by decide +kernel, rfl⟩
theorem zd_14_22_290 : zz_D zy_reaches_14_22 290 (.bipush 11) 2 292 := ⟨by decide +kernel, rfl⟩
theorem zd_14_22_292 : zz_D zy_reaches_14_22 292 (.iaload) 1 293 := ⟨by decide +kernel, rfl⟩
theorem zd_14_22_293 : zz_D zy_reaches_14_22 293 (.iconst 2) 1 294 := ⟨by decide +kernel, rfl⟩
theorem zd_14_22_294 : zz_D zy_reaches_14_22 294 (.idiv) 1 295 := ⟨by decide +kernel, rfl⟩
theorem zd_14_22_295 : zz_D zy_reaches_14_22 295 (.iconst 1) 1 296 := ⟨by decide +kernel, rfl⟩
theorem zd_14_22_296 : zz_D zy_reaches_14_22 296 (.isub) 1 297 := ⟨by decide +kernel, rfl⟩
theorem zd_14_22_297 : zz_D zy_reaches_14_22 297 (.aload_n 0) 1 298 := ⟨by decide +kernel, rfl⟩
theorem zd_14_22_298 : zz_D zy_reaches_14_22 298 (.getfield 7) 3 301 := ⟨by decide +kernel, rfl⟩
theorem zd_14_22_301 : zz_D zy_reaches_14_22 301 (.imul) 1 302 := ⟨by decide +kernel, rfl⟩
theorem zd_14_22_302 : zz_D zy_reaches_14_22 302 (.iadd) 1 303 := ⟨by decide +kernel, rfl⟩
theorem zd_14_22_303 : zz_D zy_reaches_14_22 303 (.iload_n 1) 1 304 := ⟨by decide +kernel, rfl⟩
theorem zd_14_22_304 : zz_D zy_reaches_14_22 304 (.iadd) 1 305 := ⟨by decide +kernel, rfl⟩
theorem zd_14_22_305 : zz_D zy_reaches_14_22 305 (.iconst 1) 1 306 := ⟨by decide +kernel, rfl⟩
theorem zd_14_22_306 : zz_D zy_reaches_14_22 306 (.isub) 1 307 := ⟨by decide +kernel, rfl⟩
theorem zd_14_22_307 : zz_D zy_reaches_14_22 307 (.invokevirtual 227) 3 310 := ⟨by decide +kernel, rfl⟩
theorem zd_14_22_310 : zz_D zy_reaches_14_22 310 (.aload_n 0) 1 311 := ⟨by decide +kernel, rfl⟩
theorem zd_14_22_311 : zz_D zy_reaches_14_22 311 (.aload_n 0) 1 312 := ⟨by decide +kernel, rfl⟩
theorem zd_14_22_312 : zz_D zy_reaches_14_22 312 (.getfield 42) 3 315 := ⟨by decide +kernel, rfl⟩
theorem zd_14_22_315 : zz_D zy_reaches_14_22 315 (.iconst 3) 1 316 := ⟨by decide +kernel, rfl⟩
theorem zd_14_22_316 : zz_D zy_reaches_14_22 316 (.iload_n 3) 1 317 := ⟨by decide +kernel, rfl⟩
theorem zd_14_22_317 : zz_D zy_reaches_14_22 317 (.aload_n 0) 1 318 := ⟨by decide +kernel, rfl⟩
theorem zd_14_22_318 : zz_D zy_reaches_14_22 318 (.iload_n 3) 1 319 := ⟨by decide +kernel, rfl⟩
theorem zd_14_22_319 : zz_D zy_reaches_14_22 319 (.iload_n 1) 1 320 := ⟨by decide +kernel, rfl⟩
theorem zd_14_22_320 : zz_D zy_reaches_14_22 320 (.invokevirtual 231) 3 323 := ⟨by decide +kernel, rfl⟩
theorem zd_14_22_323 : zz_D zy_reaches_14_22 323 (.invokevirtual 227) 3 326 := ⟨by decide +kernel, rfl⟩
theorem zd_14_22_326 : zz_D zy_reaches_14_22 326 (.aload_n 0) 1 327 := ⟨by decide +kernel, rfl⟩
theorem zd_14_22_327 : zz_D zy_reaches_14_22 327 (.getfield 36) 3 330 := ⟨by decide +kernel, rfl⟩
theorem zd_14_22_330 : zz_D zy_reaches_14_22 330 (.bipush 11) 2 332 := ⟨by decide +kernel, rfl⟩
theorem zd_14_22_332 : zz_D zy_reaches_14_22 332 (.iaload) 1 333 := ⟨by decide +kernel, rfl⟩
theorem zd_14_22_333 : zz_D zy_reaches_14_22 333 (.iconst 2) 1 334 := ⟨by decide +kernel, rfl⟩
theorem zd_14_22_334 : zz_D zy_reaches_14_22 334 (.irem) 1 335 := ⟨by decide +kernel, rfl⟩
theorem zd_14_22_335 : zz_D zy_reaches_14_22 335 (.iconst 1) 1 336 := ⟨by decide +kernel, rfl⟩
theorem zd_14_22_336 : zz_B zy_reaches_14_22 336 (Instr.if_icmp .ne) 494 339 := ⟨158, by decide +kernel, rfl, rfl⟩
theorem zd_14_22_339 : zz_D zy_reaches_14_22 339 (.aload_n 0) 1 340 := ⟨by decide +kernel, rfl⟩
theorem zd_14_22_340 : zz_D zy_reaches_14_22 340 (.aload_n 0) 1 341 := ⟨by decide +kernel, rfl⟩
theorem zd_14_22_341 : zz_D zy_reaches_14_22 341 (.getfield 39) 3 344 := ⟨by decide +kernel, rfl⟩
theorem zd_14_22_344 : zz_D zy_reaches_14_22 344 (.iconst 3) 1 345 := ⟨by decide +kernel, rfl⟩
theorem zd_14_22_345 : zz_D zy_reaches_14_22 345 (.iload_n 3) 1 346 := ⟨by decide +kernel, rfl⟩
theorem zd_14_22_346 : zz_D zy_reaches_14_22 346 (.aload_n 0) 1 347 := ⟨by decide +kernel, rfl⟩
theorem zd_14_22_347 : zz_D zy_reaches_14_22 347 (.iload_n 3) 1 348 := ⟨by decide +kernel, rfl⟩
theorem zd_14_22_348 : zz_D zy_reaches_14_22 348 (.iload_n 1) 1 349 := ⟨by decide +kernel, rfl⟩
theorem zd_14_22_349 : zz_D zy_reaches_14_22 349 (.invokevirtual 231) 3 352 := ⟨by decide +kernel, rfl⟩
theorem zd_14_22_352 : zz_D zy_reaches_14_22 352 (.invokevirtual 227) 3 355 := ⟨by decide +kernel, rfl⟩
theorem zd_14_22_355 : zz_B zy_reaches_14_22 355 Instr.goto 494 358 := ⟨139, by decide +kernel, rfl, rfl⟩
theorem zd_14_22_358 : zz_D zy_reaches_14_22 358 (.aload_n 0) 1 359 := ⟨by decide +kernel, rfl⟩
theorem zd_14_22_359 : zz_D zy_reaches_14_22 359 (.aload_n 0) 1 360 := ⟨by decide +kernel, rfl⟩
theorem zd_14_22_360 : zz_D zy_reaches_14_22 360 (.getfield 39) 3 363 := ⟨by decide +kernel, rfl⟩
theorem zd_14_22_363 : zz_D zy_reaches_14_22 363 (.iconst 1) 1 364 := ⟨by decide +kernel, rfl⟩
theorem zd_14_22_364 : zz_D zy_reaches_14_22 364 (.iload_n 2) 1 365 := ⟨by decide +kernel, rfl⟩
theorem zd_14_22_365 : zz_D zy_reaches_14_22 365 (.aload_n 0) 1 366 := ⟨by decide +kernel, rfl⟩
theorem zd_14_22_366 : zz_D zy_reaches_14_22 366 (.iload_n 2) 1 367 := ⟨by decide +kernel, rfl⟩
theorem zd_14_22_367 : zz_D zy_reaches_14_22 367 (.iload_n 1) 1 368 := ⟨by decide +kernel, rfl⟩
theorem zd_14_22_368 : zz_D zy_reaches_14_22 368 (.invokevirtual 231) 3 371 := ⟨by decide +kernel, rfl⟩
theorem zd_14_22_371 : zz_D zy_reaches_14_22 371 (.invokevirtual 227) 3 374 := ⟨by decide +kernel, rfl⟩
theorem zd_14_22_374 : zz_D zy_reaches_14_22 374 (.aload_n 0) 1 375 := ⟨by decide +kernel, rfl⟩
theorem zd_14_22_375 : zz_D zy_reaches_14_22 375 (.aload_n 0) 1 376 := ⟨by decide +kernel, rfl⟩
theorem zd_14_22_376 : zz_D zy_reaches_14_22 376 (.getfield 42) 3 379 := ⟨by decide +kernel, rfl⟩
theorem zd_14_22_379 : zz_D zy_reaches_14_22 379 (.iconst 3) 1 380 := ⟨by decide +kernel, rfl⟩
theorem zd_14_22_380 : zz_D zy_reaches_14_22 380 (.iload_n 3) 1 381 := ⟨by decide +kernel, rfl⟩
theorem zd_14_22_381 : zz_D zy_reaches_14_22 381 (.aload_n 0) 1 382 := ⟨by decide +kernel, rfl⟩
theorem zd_14_22_382 : zz_D zy_reaches_14_22 382 (.iload_n 3) 1 383 := ⟨by decide +kernel, rfl⟩
theorem zd_14_22_383 : zz_D zy_reaches_14_22 383 (.iload_n 1) 1 384 := ⟨by decide +kernel, rfl⟩
theorem zd_14_22_384 : zz_D zy_reaches_14_22 384 (.invokevirtual 231) 3 387 := ⟨by decide +kernel, rfl⟩
theorem zd_14_22_387 : zz_D zy_reaches_14_22 387 (.invokevirtual 227) 3 390 := ⟨by decide +kernel, rfl⟩
theorem zd_14_22_390 : zz_D zy_reaches_14_22 390 (.aload_n 0) 1 391 := ⟨by decide +kernel, rfl⟩
theorem zd_14_22_391 : zz_D zy_reaches_14_22 391 (.getfield 36) 3 394 := ⟨by decide +kernel, rfl⟩
theorem zd_14_22_394 : zz_D zy_reaches_14_22 394 (.bipush 11) 2 396 := ⟨by decide +kernel, rfl⟩
theorem zd_14_22_396 : zz_D zy_reaches_14_22 396 (.iaload) 1 397 := ⟨by decide +kernel, rfl⟩
theorem zd_14_22_397 : zz_B zy_reaches_14_22 397 (Instr.ifCond .le) 494 400 := ⟨97, by decide +kernel, rfl, rfl⟩
theorem zd_14_22_400 : zz_D zy_reaches_14_22 400 (.aload_n 0) 1 401 := ⟨by decide +kernel, rfl⟩
theorem zd_14_22_401 : zz_D zy_reaches_14_22 401 (.aload_n 0) 1 402 := ⟨by decide +kernel, rfl⟩
theorem zd_14_22_402 : zz_D zy_reaches_14_22 402 (.getfield 39) 3 405 := ⟨by decide +kernel, rfl⟩
theorem zd_14_22_405 : zz_D zy_reaches_14_22 405 (.iconst 3) 1 406 := ⟨by decide +kernel, rfl⟩
theorem zd_14_22_406 : zz_D zy_reaches_14_22 406 (.iload_n 3) 1 407 := ⟨by decide +kernel, rfl⟩
theorem zd_14_22_407 : zz_D zy_reaches_14_22 407 (.aload_n 0) 1 408 := ⟨by decide +kernel, rfl⟩
theorem zd_14_22_408 : zz_D zy_reaches_14_22 408 (.iload_n 3) 1 409 := ⟨by decide +kernel, rfl⟩
theorem zd_14_22_409 : zz_D zy_reaches_14_22 409 (.iload_n 1) 1 410 := ⟨by decide +kernel, rfl⟩
theorem zd_14_22_410 : zz_D zy_reaches_14_22 410 (.invokevirtual 231) 3 413 := ⟨by decide +kernel, rfl⟩
theorem zd_14_22_413 : zz_D zy_reaches_14_22 413 (.invokevirtual 227) 3 416 := ⟨by decide +kernel, rfl⟩
theorem zd_14_22_416 : zz_B zy_reaches_14_22 416 Instr.goto 494 419 := ⟨78, by decide +kernel, rfl, rfl⟩
theorem zd_14_22_419 : zz_D zy_reaches_14_22 419 (.aload_n 0) 1 420 := ⟨by decide +kernel, rfl⟩
theorem zd_14_22_420 : zz_D zy_reaches_14_22 420 (.aload_n 0) 1 421 := ⟨by decide +kernel, rfl⟩
theorem zd_14_22_421 : zz_D zy_reaches_14_22 421 (.getfield 39) 3 424 := ⟨by decide +kernel, rfl⟩
theorem zd_14_22_424 : zz_D zy_reaches_14_22 424 (.iconst 3) 1 425 := ⟨by decide +kernel, rfl⟩
theorem zd_14_22_425 : zz_D zy_reaches_14_22 425 (.iload_n 2) 1 426 := ⟨by decide +kernel, rfl⟩
theorem zd_14_22_426 : zz_D zy_reaches_14_22 426 (.aload_n 0) 1 427 := ⟨by decide +kernel, rfl⟩
theorem zd_14_22_427 : zz_D zy_reaches_14_22 427 (.iload_n 2) 1 428 := ⟨by decide +kernel, rfl⟩
theorem zd_14_22_428 : zz_D zy_reaches_14_22 428 (.iload_n 1) 1 429 := ⟨by decide +kernel, rfl⟩
theorem zd_14_22_429 : zz_D zy_reaches_14_22 429 (.invokevirtual 231) 3 432 := ⟨by decide +kernel, rfl⟩
theorem zd_14_22_432 : zz_D zy_reaches_14_22 432 (.invokevirtual 227) 3 435 := ⟨by decide +kernel, rfl⟩
theorem zd_14_22_435 : zz_D zy_reaches_14_22 435 (.aload_n 0) 1 436 := ⟨by decide +kernel, rfl⟩
theorem zd_14_22_436 : zz_D zy_reaches_14_22 436 (.aload_n 0) 1 437 := ⟨by decide +kernel, rfl⟩
theorem zd_14_22_437 : zz_D zy_reaches_14_22 437 (.getfield 42) 3 440 := ⟨by decide +kernel, rfl⟩
theorem zd_14_22_440 : zz_D zy_reaches_14_22 440 (.iconst 4) 1 441 := ⟨by decide +kernel, rfl⟩
theorem zd_14_22_441 : zz_D zy_reaches_14_22 441 (.iload_n 3) 1 442 := ⟨by decide +kernel, rfl⟩
theorem zd_14_22_442 : zz_D zy_reaches_14_22 442 (.aload_n 0) 1 443 := ⟨by decide +kernel, rfl⟩
theorem zd_14_22_443 : zz_D zy_reaches_14_22 443 (.iload_n 3) 1 444 := ⟨by decide +kernel, rfl⟩
theorem zd_14_22_444 : zz_D zy_reaches_14_22 444 (.iload_n 1) 1 445 := ⟨by decide +kernel, rfl⟩
theorem zd_14_22_445 : zz_D zy_reaches_14_22 445 (.invokevirtual 231) 3 448 := ⟨by decide +kernel, rfl⟩
theorem zd_14_22_448 : zz_D zy_reaches_14_22 448 (.invokevirtual 227) 3 451 := ⟨by decide +kernel, rfl⟩
theorem zd_14_22_451 : zz_B zy_reaches_14_22 451 Instr.goto 494 454 := ⟨43, by decide +kernel, rfl, rfl⟩
theorem zd_14_22_454 : zz_D zy_reaches_14_22 454 (.aload_n 0) 1 455 := ⟨by decide +kernel, rfl⟩
theorem zd_14_22_455 : zz_D zy_reaches_14_22 455 (.aload_n 0) 1 456 := ⟨by decide +kernel, rfl⟩
theorem zd_14_22_456 : zz_D zy_reaches_14_22 456 (.getfield 39) 3 459 := ⟨by decide +kernel, rfl⟩
theorem zd_14_22_459 : zz_D zy_reaches_14_22 459 (.iconst 4) 1 460 := ⟨by decide +kernel, rfl⟩
theorem zd_14_22_460 : zz_D zy_reaches_14_22 460 (.iload_n 2) 1 461 := ⟨by decide +kernel, rfl⟩
theorem zd_14_22_461 : zz_D zy_reaches_14_22 461 (.aload_n 0) 1 462 := ⟨by decide +kernel, rfl⟩
theorem zd_14_22_462 : zz_D zy_reaches_14_22 462 (.iload_n 2) 1 463 := ⟨by decide +kernel, rfl⟩
theorem zd_14_22_463 : zz_D zy_reaches_14_22 463 (.iload_n 1) 1 464 := ⟨by decide +kernel, rfl⟩
theorem zd_14_22_464 : zz_D zy_reaches_14_22 464 (.invokevirtual 231) 3 467 := ⟨by decide +kernel, rfl⟩
theorem zd_14_22_467 : zz_D zy_reaches_14_22 467 (.invokevirtual 227) 3 470 := ⟨by decide +kernel, rfl⟩
theorem zd_14_22_470 : zz_D zy_reaches_14_22 470 (.aload_n 0) 1 471 := ⟨by decide +kernel, rfl⟩
theorem zd_14_22_471 : zz_D zy_reaches_14_22 471 (.aload_n 0) 1 472 := ⟨by decide +kernel, rfl⟩
theorem zd_14_22_472 : zz_D zy_reaches_14_22 472 (.getfield 42) 3 475 := ⟨by decide +kernel, rfl⟩
theorem zd_14_22_475 : zz_D zy_reaches_14_22 475 (.iconst 0) 1 476 := ⟨by decide +kernel, rfl⟩
theorem zd_14_22_476 : zz_D zy_reaches_14_22 476 (.aload_n 0) 1 477 := ⟨by decide +kernel, rfl⟩
theorem zd_14_22_477 : zz_D zy_reaches_14_22 477 (.getfield 36) 3 480 := ⟨by decide +kernel, rfl⟩
theorem zd_14_22_480 : zz_D zy_reaches_14_22 480 (.iconst 5) 1 481 := ⟨by decide +kernel, rfl⟩
theorem zd_14_22_481 : zz_D zy_reaches_14_22 481 (.iaload) 1 482 := ⟨by decide +kernel, rfl⟩
theorem zd_14_22_482 : zz_D zy_reaches_14_22 482 (.iload 4) 2 484 := ⟨by decide +kernel, rfl⟩
theorem zd_14_22_484 : zz_D zy_reaches_14_22 484 (.iload_n 1) 1 485 := ⟨by decide +kernel, rfl⟩
theorem zd_14_22_485 : zz_D zy_reaches_14_22 485 (.iadd) 1 486 := ⟨by decide +kernel, rfl⟩
theorem zd_14_22_486 : zz_D zy_reaches_14_22 486 (.iconst 1) 1 487 := ⟨by decide +kernel, rfl⟩
theorem zd_14_22_487 : zz_D zy_reaches_14_22 487 (.isub) 1 488 := ⟨by decide +kernel, rfl⟩
theorem zd_14_22_488 : zz_D zy_reaches_14_22 488 (.invokevirtual 227) 3 491 := ⟨by decide +kernel, rfl⟩
theorem zd_14_22_491 : zz_B zy_reaches_14_22 491 Instr.goto 494 494 := ⟨3, by decide +kernel, rfl, rfl⟩
theorem zd_14_22_7 : zz_D zy_reaches_14_22 7 (.aload_n 0) 1 8 := ⟨by decide +kernel, rfl⟩
theorem zd_14_22_8 : zz_D zy_reaches_14_22 8 (.aload_n 0) 1 9 := ⟨by decide +kernel, rfl⟩
theorem zd_14_22_9 : zz_D zy_reaches_14_22 9 (.getfield 39) 3 12 := ⟨by decide +kernel, rfl⟩
theorem zd_14_22_12 : zz_D zy_reaches_14_22 12 (.iload_n 1) 1 13 := ⟨by decide +kernel, rfl⟩
theorem zd_14_22_13 : zz_D zy_reaches_14_22 13 (.iconst 0) 1 14 := ⟨by decide +kernel, rfl⟩
theorem zd_14_22_14 : zz_D zy_reaches_14_22 14 (.iconst (-1)) 1 15 := ⟨by decide +kernel, rfl⟩
theorem zd_14_22_15 : zz_D zy_reaches_14_22 15 (.invokevirtual 227) 3 18 := ⟨by decide +kernel, rfl⟩
theorem zd_14_22_18 : zz_D zy_reaches_14_22 18 (.aload_n 0) 1 19 := ⟨by decide +kernel, rfl⟩
theorem zd_14_22_19 : zz_D zy_reaches_14_22 19 (.aload_n 0) 1 20 := ⟨by decide +kernel, rfl⟩
theorem zd_14_22_20 : zz_D zy_reaches_14_22 20 (.getfield 42) 3 23 := ⟨by decide +kernel, rfl⟩
theorem zd_14_22_23 : zz_D zy_reaches_14_22 23 (.iload_n 1) 1 24 := ⟨by decide +kernel, rfl⟩
theorem zd_14_22_24 : zz_D zy_reaches_14_22 24 (.iconst 0) 1 25 := ⟨by decide +kernel, rfl⟩
theorem zd_14_22_25 : zz_D zy_reaches_14_22 25 (.iconst (-1)) 1 26 := ⟨by decide +kernel, rfl⟩
theorem zd_14_22_26 : zz_D zy_reaches_14_22 26 (.invokevirtual 227) 3 29 := ⟨by decide +kernel, rfl⟩
theorem zd_14_22_29 : zz_D zy_reaches_14_22 29 (.iinc 1 1) 3 32 := ⟨by decide +kernel, rfl⟩
theorem zd_14_22_32 : zz_B zy_reaches_14_22 32 Instr.goto 2 35 := ⟨(-30), by decide +kernel, rfl, rfl⟩
-- TensorForgeModel reaches ()V
abbrev zr_reaches_14_22 : Room := { frames := 1, cells := 0, slots := 0, locals := 18 }
def zp_reaches_14_22  (S0 : zz_S) : zz_S → Prop := fun S => zz_G S ∧ zz_fr [] [1088, 1089] (fun _ _ => False) S0 S
theorem zb_reaches_14_22_2 {g : mm_G} {l : Launch}  (S0 : zz_S) (n : Nat) (hn : zz_end ≤ n) (G_S0 : zz_G S0)  (x1 : Int) (S : zz_S) (G_S : zz_G S) (F_S : zz_fr [] [1088, 1089] (fun _ _ => False) S0 S) (i2_0 : 0 ≤ x1 ∧ x1 ≤ 2147483647) (R : Nat) (hR : (5 - x1).toNat = R) (k2 : ∀ (x1 : Int) (S : zz_S), zz_G S → zz_fr [] [1088, 1089] (fun _ _ => False) S0 S → (0 ≤ x1 ∧ x1 ≤ 2147483647) → (5 - x1).toNat < R → zz_E g l zy_reaches_14_22 zr_reaches_14_22 (zz_QV n (zp_reaches_14_22  S0)) S n 2 [some (.ref 1079), some (zi x1)] [] 0 0) : zz_E g l zy_reaches_14_22 zr_reaches_14_22 (zz_QV n (zp_reaches_14_22  S0)) S n 2 [some (.ref 1079), some (zi x1)] [] 0 0 := by
  refine zz_iload_n (x := x1) rfl zd_14_22_2 ?_
  refine zz_iconst zd_14_22_3 ?_
  refine zz_icmp_ge (by omega) (by omega) zd_14_22_4 (fun c1 => ?_) (fun c1 => ?_)
  · refine zz_aload_n (x := 1079) rfl zd_14_22_35 ?_
    refine zz_getr (kd := 0) (z := 1087) zd_14_22_36 zf_Md_36 zT_1079 rfl (zz_ltn hn rfl) (zz_G.eq G_S 1079 11 1087 rfl rfl) (by decide) 1087 rfl ?_
    refine zz_bipush (by decide) zd_14_22_39 ?_
    have g2 := zz_G.r G_S 1087 7 (-2147483648) 2147483647 rfl rfl
    refine zz_iald (z := S 1087 7) zd_14_22_41 zT_1087 rfl (zz_ltn hn rfl) (by decide) (by decide) rfl ?_
    refine zz_istore_n [some (.ref 1079), some (zi (S 1087 7))] zd_14_22_42 (by decide) rfl ?_
    refine zz_aload_n (x := 1079) rfl zd_14_22_43 ?_
    refine zz_getr (kd := 0) (z := 1087) zd_14_22_44 zf_Md_36 zT_1079 rfl (zz_ltn hn rfl) (zz_G.eq G_S 1079 11 1087 rfl rfl) (by decide) 1087 rfl ?_
    refine zz_bipush (by decide) zd_14_22_47 ?_
    have g3 := zz_G.r G_S 1087 8 (-2147483648) 2147483647 rfl rfl
    refine zz_iald (z := S 1087 8) zd_14_22_49 zT_1087 rfl (zz_ltn hn rfl) (by decide) (by decide) rfl ?_
    refine zz_istore_n [some (.ref 1079), some (zi (S 1087 7)), some (zi (S 1087 8))] zd_14_22_50 (by decide) rfl ?_
    refine zz_aload_n (x := 1079) rfl zd_14_22_51 ?_
    refine zz_getr (kd := 0) (z := 1087) zd_14_22_52 zf_Md_36 zT_1079 rfl (zz_ltn hn rfl) (zz_G.eq G_S 1079 11 1087 rfl rfl) (by decide) 1087 rfl ?_
    refine zz_bipush (by decide) zd_14_22_55 ?_
    have g4 := zz_G.r G_S 1087 9 (-2147483648) 2147483647 rfl rfl
    refine zz_iald (z := S 1087 9) zd_14_22_57 zT_1087 rfl (zz_ltn hn rfl) (by decide) (by decide) rfl ?_
    refine zz_istore_n [some (.ref 1079), some (zi (S 1087 7)), some (zi (S 1087 8)), some (zi (S 1087 9))] zd_14_22_58 (by decide) rfl ?_
    refine zz_aload_n (x := 1079) rfl zd_14_22_59 ?_
    refine zz_getr (kd := 0) (z := 1087) zd_14_22_60 zf_Md_36 zT_1079 rfl (zz_ltn hn rfl) (zz_G.eq G_S 1079 11 1087 rfl rfl) (by decide) 1087 rfl ?_
    refine zz_iconst zd_14_22_63 ?_
    have g5 := zz_G.r G_S 1087 5 (-2147483648) 2147483647 rfl rfl
    refine zz_iald (z := S 1087 5) zd_14_22_64 zT_1087 rfl (zz_ltn hn rfl) (by decide) (by decide) rfl ?_
    refine zz_aload_n (x := 1079) rfl zd_14_22_65 ?_
    refine zz_getr (kd := 0) (z := 1087) zd_14_22_66 zf_Md_36 zT_1079 rfl (zz_ltn hn rfl) (zz_G.eq G_S 1079 11 1087 rfl rfl) (by decide) 1087 rfl ?_
    refine zz_bipush (by decide) zd_14_22_69 ?_
    have g6 := zz_G.r G_S 1087 6 (-2147483648) 2147483647 rfl rfl
    refine zz_iald (z := S 1087 6) zd_14_22_71 zT_1087 rfl (zz_ltn hn rfl) (by decide) (by decide) rfl ?_
    refine zz_iconst zd_14_22_72 ?_
    refine zz_isub zd_14_22_73 ?_
    refine zz_nrm (fun v7 hv7 ev7 => ?_)
    refine zz_aload_n (x := 1079) rfl zd_14_22_74 ?_
    refine zz_getr (kd := 0) (z := 1087) zd_14_22_75 zf_Md_36 zT_1079 rfl (zz_ltn hn rfl) (zz_G.eq G_S 1079 11 1087 rfl rfl) (by decide) 1087 rfl ?_
    refine zz_bipush (by decide) zd_14_22_78 ?_
    have g8 := zz_G.r G_S 1087 10 (-2147483648) 2147483647 rfl rfl
    refine zz_iald (z := S 1087 10) zd_14_22_80 zT_1087 rfl (zz_ltn hn rfl) (by decide) (by decide) rfl ?_
    refine zz_imul zd_14_22_81 ?_
    refine zz_nrm (fun v9 hv9 ev9 => ?_)
    refine zz_iadd zd_14_22_82 ?_
    refine zz_nrm (fun v10 hv10 ev10 => ?_)
    refine zz_istore [some (.ref 1079), some (zi (S 1087 7)), some (zi (S 1087 8)), some (zi (S 1087 9)), some (zi v10)] zd_14_22_83 (by decide) rfl ?_
    refine zz_aload_n (x := 1079) rfl zd_14_22_85 ?_
    refine zz_getr (kd := 0) (z := 1087) zd_14_22_86 zf_Md_36 zT_1079 rfl (zz_ltn hn rfl) (zz_G.eq G_S 1079 11 1087 rfl rfl) (by decide) 1087 rfl ?_
    refine zz_iconst zd_14_22_89 ?_
    have g11 := zz_G.r G_S 1087 0 (-2147483648) 2147483647 rfl rfl
    refine zz_iald (z := S 1087 0) zd_14_22_90 zT_1087 rfl (zz_ltn hn rfl) (by decide) (by decide) rfl ?_
    by_cases c12 : S 1087 0 = 1
    · refine zz_swIn 1 45 c12 (by decide) zd_14_22_91 rfl rfl ?_
      refine zz_aload_n (x := 1079) rfl zd_14_22_136 ?_
      refine zz_aload_n (x := 1079) rfl zd_14_22_137 ?_
      refine zz_getr (kd := 0) (z := 1088) zd_14_22_138 zf_Md_39 zT_1079 rfl (zz_ltn hn rfl) (zz_G.eq G_S 1079 12 1088 rfl rfl) (by decide) 1088 rfl ?_
      refine zz_iconst zd_14_22_141 ?_
      refine zz_aload_n (x := 1079) rfl zd_14_22_142 ?_
      refine zz_getr (kd := 0) (z := 1087) zd_14_22_143 zf_Md_36 zT_1079 rfl (zz_ltn hn rfl) (zz_G.eq G_S 1079 11 1087 rfl rfl) (by decide) 1087 rfl ?_
      refine zz_iconst zd_14_22_146 ?_
      refine zz_iald (z := S 1087 5) zd_14_22_147 zT_1087 rfl (zz_ltn hn rfl) (by decide) (by decide) rfl ?_
      refine zz_iload (x := v10) rfl zd_14_22_148 ?_
      refine zz_iload_n (x := S 1087 7) rfl zd_14_22_150 ?_
      refine zz_iadd zd_14_22_151 ?_
      refine zz_nrm (fun v13 hv13 ev13 => ?_)
      refine zz_iconst zd_14_22_152 ?_
      refine zz_isub zd_14_22_153 ?_
      refine zz_nrm (fun v14 hv14 ev14 => ?_)
      refine zz_callVV [.ref 1088, zi 0, zi (S 1087 5), zi v14] zd_14_22_154 zk_Md_227 zT_1079 (zz_ltn hn rfl) rfl rfl ⟨Nat.le_of_ble_eq_true rfl, Nat.le_of_ble_eq_true rfl⟩ ⟨rfl, rfl⟩ (Nat.zero_le _) (Nat.zero_le _) (zc_reach_14_20_1088 0 (S 1087 5) v14 S n hn G_S (by omega) (by omega) (by omega)) (fun S15 hP => ?_)
      obtain ⟨G_S15, fS15⟩ := hP
      have F_S15 := zz_fr.trans F_S fS15 rfl zz_nv
      refine zz_aload_n (x := 1079) rfl zd_14_22_157 ?_
      refine zz_aload_n (x := 1079) rfl zd_14_22_158 ?_
      refine zz_getr (kd := 0) (z := 1089) zd_14_22_159 zf_Md_42 zT_1079 rfl (zz_ltn hn rfl) (zz_G.eq G_S15 1079 13 1089 rfl rfl) (by decide) 1089 rfl ?_
      refine zz_aload_n (x := 1079) rfl zd_14_22_162 ?_
      refine zz_getr (kd := 0) (z := 1087) zd_14_22_163 zf_Md_36 zT_1079 rfl (zz_ltn hn rfl) (zz_G.eq G_S15 1079 11 1087 rfl rfl) (by decide) 1087 rfl ?_
      refine zz_iconst zd_14_22_166 ?_
      refine zz_iald (z := S 1087 0) zd_14_22_167 zT_1087 rfl (zz_ltn hn rfl) (by decide) (by decide) (zz_rc fS15 (zz_nc1 rfl) rfl (fun h => h) rfl) ?_
      refine zz_iload_n (x := S 1087 8) rfl zd_14_22_168 ?_
      refine zz_aload_n (x := 1079) rfl zd_14_22_169 ?_
      refine zz_iload_n (x := S 1087 8) rfl zd_14_22_170 ?_
      refine zz_iload_n (x := S 1087 7) rfl zd_14_22_171 ?_
      refine zz_callVI [zi (S 1087 8), zi (S 1087 7)] zd_14_22_172 zk_Md_231 zT_1079 (zz_ltn hn rfl) rfl rfl ⟨Nat.le_of_ble_eq_true rfl, Nat.le_of_ble_eq_true rfl⟩ ⟨rfl, rfl⟩ (Nat.zero_le _) (Nat.zero_le _) (zc_rowsEnd_14_21 (S 1087 8) (S 1087 7) S15 n hn G_S15 (by omega) (by omega)) (fun v18 S17 hP => ?_)
      obtain ⟨rfl, o19⟩ := hP
      refine zz_callVV [.ref 1089, zi (S 1087 0), zi (S 1087 8), zi v18] zd_14_22_175 zk_Md_227 zT_1079 (zz_ltn hn rfl) rfl rfl ⟨Nat.le_of_ble_eq_true rfl, Nat.le_of_ble_eq_true rfl⟩ ⟨rfl, rfl⟩ (Nat.zero_le _) (Nat.zero_le _) (zc_reach_14_20_1089 (S 1087 0) (S 1087 8) v18 S15 n hn G_S15 (by omega) (by omega) (by omega)) (fun S20 hP => ?_)
      obtain ⟨G_S20, fS20⟩ := hP
      have F_S20 := zz_fr.trans F_S15 fS20 rfl zz_nv
      refine zz_goto zd_14_22_178 ?_
      exact zz_vret zd_14_22_494 rfl (Nat.zero_le _) (Nat.zero_le _) ⟨_, rfl, G_S20, F_S20⟩
    by_cases c22 : S 1087 0 = 2
    · refine zz_swIn 2 45 c22 (by decide) zd_14_22_91 rfl rfl ?_
      refine zz_aload_n (x := 1079) rfl zd_14_22_136 ?_
      refine zz_aload_n (x := 1079) rfl zd_14_22_137 ?_
      refine zz_getr (kd := 0) (z := 1088) zd_14_22_138 zf_Md_39 zT_1079 rfl (zz_ltn hn rfl) (zz_G.eq G_S 1079 12 1088 rfl rfl) (by decide) 1088 rfl ?_
      refine zz_iconst zd_14_22_141 ?_
      refine zz_aload_n (x := 1079) rfl zd_14_22_142 ?_
      refine zz_getr (kd := 0) (z := 1087) zd_14_22_143 zf_Md_36 zT_1079 rfl (zz_ltn hn rfl) (zz_G.eq G_S 1079 11 1087 rfl rfl) (by decide) 1087 rfl ?_
      refine zz_iconst zd_14_22_146 ?_
      refine zz_iald (z := S 1087 5) zd_14_22_147 zT_1087 rfl (zz_ltn hn rfl) (by decide) (by decide) rfl ?_
      refine zz_iload (x := v10) rfl zd_14_22_148 ?_
      refine zz_iload_n (x := S 1087 7) rfl zd_14_22_150 ?_
      refine zz_iadd zd_14_22_151 ?_
      refine zz_nrm (fun v23 hv23 ev23 => ?_)
      refine zz_iconst zd_14_22_152 ?_
      refine zz_isub zd_14_22_153 ?_
      refine zz_nrm (fun v24 hv24 ev24 => ?_)
      refine zz_callVV [.ref 1088, zi 0, zi (S 1087 5), zi v24] zd_14_22_154 zk_Md_227 zT_1079 (zz_ltn hn rfl) rfl rfl ⟨Nat.le_of_ble_eq_true rfl, Nat.le_of_ble_eq_true rfl⟩ ⟨rfl, rfl⟩ (Nat.zero_le _) (Nat.zero_le _) (zc_reach_14_20_1088 0 (S 1087 5) v24 S n hn G_S (by omega) (by omega) (by omega)) (fun S25 hP => ?_)
      obtain ⟨G_S25, fS25⟩ := hP
      have F_S25 := zz_fr.trans F_S fS25 rfl zz_nv
      refine zz_aload_n (x := 1079) rfl zd_14_22_157 ?_
      refine zz_aload_n (x := 1079) rfl zd_14_22_158 ?_
      refine zz_getr (kd := 0) (z := 1089) zd_14_22_159 zf_Md_42 zT_1079 rfl (zz_ltn hn rfl) (zz_G.eq G_S25 1079 13 1089 rfl rfl) (by decide) 1089 rfl ?_
      refine zz_aload_n (x := 1079) rfl zd_14_22_162 ?_
      refine zz_getr (kd := 0) (z := 1087) zd_14_22_163 zf_Md_36 zT_1079 rfl (zz_ltn hn rfl) (zz_G.eq G_S25 1079 11 1087 rfl rfl) (by decide) 1087 rfl ?_
      refine zz_iconst zd_14_22_166 ?_
      refine zz_iald (z := S 1087 0) zd_14_22_167 zT_1087 rfl (zz_ltn hn rfl) (by decide) (by decide) (zz_rc fS25 (zz_nc1 rfl) rfl (fun h => h) rfl) ?_
      refine zz_iload_n (x := S 1087 8) rfl zd_14_22_168 ?_
      refine zz_aload_n (x := 1079) rfl zd_14_22_169 ?_
      refine zz_iload_n (x := S 1087 8) rfl zd_14_22_170 ?_
      refine zz_iload_n (x := S 1087 7) rfl zd_14_22_171 ?_
      refine zz_callVI [zi (S 1087 8), zi (S 1087 7)] zd_14_22_172 zk_Md_231 zT_1079 (zz_ltn hn rfl) rfl rfl ⟨Nat.le_of_ble_eq_true rfl, Nat.le_of_ble_eq_true rfl⟩ ⟨rfl, rfl⟩ (Nat.zero_le _) (Nat.zero_le _) (zc_rowsEnd_14_21 (S 1087 8) (S 1087 7) S25 n hn G_S25 (by omega) (by omega)) (fun v28 S27 hP => ?_)
      obtain ⟨rfl, o29⟩ := hP
      refine zz_callVV [.ref 1089, zi (S 1087 0), zi (S 1087 8), zi v28] zd_14_22_175 zk_Md_227 zT_1079 (zz_ltn hn rfl) rfl rfl ⟨Nat.le_of_ble_eq_true rfl, Nat.le_of_ble_eq_true rfl⟩ ⟨rfl, rfl⟩ (Nat.zero_le _) (Nat.zero_le _) (zc_reach_14_20_1089 (S 1087 0) (S 1087 8) v28 S25 n hn G_S25 (by omega) (by omega) (by omega)) (fun S30 hP => ?_)
      obtain ⟨G_S30, fS30⟩ := hP
      have F_S30 := zz_fr.trans F_S25 fS30 rfl zz_nv
      refine zz_goto zd_14_22_178 ?_
      exact zz_vret zd_14_22_494 rfl (Nat.zero_le _) (Nat.zero_le _) ⟨_, rfl, G_S30, F_S30⟩
    by_cases c32 : S 1087 0 = 3
    · refine zz_swIn 3 90 c32 (by decide) zd_14_22_91 rfl rfl ?_
      refine zz_aload_n (x := 1079) rfl zd_14_22_181 ?_
      refine zz_aload_n (x := 1079) rfl zd_14_22_182 ?_
      refine zz_getr (kd := 0) (z := 1089) zd_14_22_183 zf_Md_42 zT_1079 rfl (zz_ltn hn rfl) (zz_G.eq G_S 1079 13 1089 rfl rfl) (by decide) 1089 rfl ?_
      refine zz_iconst zd_14_22_186 ?_
      refine zz_iload_n (x := S 1087 8) rfl zd_14_22_187 ?_
      refine zz_aload_n (x := 1079) rfl zd_14_22_188 ?_
      refine zz_iload_n (x := S 1087 8) rfl zd_14_22_189 ?_
      refine zz_iload_n (x := S 1087 7) rfl zd_14_22_190 ?_
      refine zz_callVI [zi (S 1087 8), zi (S 1087 7)] zd_14_22_191 zk_Md_231 zT_1079 (zz_ltn hn rfl) rfl rfl ⟨Nat.le_of_ble_eq_true rfl, Nat.le_of_ble_eq_true rfl⟩ ⟨rfl, rfl⟩ (Nat.zero_le _) (Nat.zero_le _) (zc_rowsEnd_14_21 (S 1087 8) (S 1087 7) S n hn G_S (by omega) (by omega)) (fun v34 S33 hP => ?_)
      obtain ⟨rfl, o35⟩ := hP
      refine zz_callVV [.ref 1089, zi 1, zi (S 1087 8), zi v34] zd_14_22_194 zk_Md_227 zT_1079 (zz_ltn hn rfl) rfl rfl ⟨Nat.le_of_ble_eq_true rfl, Nat.le_of_ble_eq_true rfl⟩ ⟨rfl, rfl⟩ (Nat.zero_le _) (Nat.zero_le _) (zc_reach_14_20_1089 1 (S 1087 8) v34 S n hn G_S (by omega) (by omega) (by omega)) (fun S36 hP => ?_)
      obtain ⟨G_S36, fS36⟩ := hP
      have F_S36 := zz_fr.trans F_S fS36 rfl zz_nv
      refine zz_goto zd_14_22_197 ?_
      exact zz_vret zd_14_22_494 rfl (Nat.zero_le _) (Nat.zero_le _) ⟨_, rfl, G_S36, F_S36⟩
    by_cases c38 : S 1087 0 = 4
    · refine zz_swIn 4 109 c38 (by decide) zd_14_22_91 rfl rfl ?_
      refine zz_aload_n (x := 1079) rfl zd_14_22_200 ?_
      refine zz_aload_n (x := 1079) rfl zd_14_22_201 ?_
      refine zz_getr (kd := 0) (z := 1088) zd_14_22_202 zf_Md_39 zT_1079 rfl (zz_ltn hn rfl) (zz_G.eq G_S 1079 12 1088 rfl rfl) (by decide) 1088 rfl ?_
      refine zz_iconst zd_14_22_205 ?_
      refine zz_aload_n (x := 1079) rfl zd_14_22_206 ?_
      refine zz_getr (kd := 0) (z := 1087) zd_14_22_207 zf_Md_36 zT_1079 rfl (zz_ltn hn rfl) (zz_G.eq G_S 1079 11 1087 rfl rfl) (by decide) 1087 rfl ?_
      refine zz_iconst zd_14_22_210 ?_
      refine zz_iald (z := S 1087 5) zd_14_22_211 zT_1087 rfl (zz_ltn hn rfl) (by decide) (by decide) rfl ?_
      refine zz_iload (x := v10) rfl zd_14_22_212 ?_
      refine zz_iconst zd_14_22_214 ?_
      refine zz_iload_n (x := S 1087 7) rfl zd_14_22_215 ?_
      refine zz_imul zd_14_22_216 ?_
      refine zz_nrm (fun v39 hv39 ev39 => ?_)
      refine zz_iadd zd_14_22_217 ?_
      refine zz_nrm (fun v40 hv40 ev40 => ?_)
      refine zz_iconst zd_14_22_218 ?_
      refine zz_isub zd_14_22_219 ?_
      refine zz_nrm (fun v41 hv41 ev41 => ?_)
      refine zz_callVV [.ref 1088, zi 0, zi (S 1087 5), zi v41] zd_14_22_220 zk_Md_227 zT_1079 (zz_ltn hn rfl) rfl rfl ⟨Nat.le_of_ble_eq_true rfl, Nat.le_of_ble_eq_true rfl⟩ ⟨rfl, rfl⟩ (Nat.zero_le _) (Nat.zero_le _) (zc_reach_14_20_1088 0 (S 1087 5) v41 S n hn G_S (by omega) (by omega) (by omega)) (fun S42 hP => ?_)
      obtain ⟨G_S42, fS42⟩ := hP
      have F_S42 := zz_fr.trans F_S fS42 rfl zz_nv
      refine zz_aload_n (x := 1079) rfl zd_14_22_223 ?_
      refine zz_aload_n (x := 1079) rfl zd_14_22_224 ?_
      refine zz_getr (kd := 0) (z := 1089) zd_14_22_225 zf_Md_42 zT_1079 rfl (zz_ltn hn rfl) (zz_G.eq G_S42 1079 13 1089 rfl rfl) (by decide) 1089 rfl ?_
      refine zz_iconst zd_14_22_228 ?_
      refine zz_iload_n (x := S 1087 8) rfl zd_14_22_229 ?_
      refine zz_aload_n (x := 1079) rfl zd_14_22_230 ?_
      refine zz_iload_n (x := S 1087 8) rfl zd_14_22_231 ?_
      refine zz_iload_n (x := S 1087 7) rfl zd_14_22_232 ?_
      refine zz_callVI [zi (S 1087 8), zi (S 1087 7)] zd_14_22_233 zk_Md_231 zT_1079 (zz_ltn hn rfl) rfl rfl ⟨Nat.le_of_ble_eq_true rfl, Nat.le_of_ble_eq_true rfl⟩ ⟨rfl, rfl⟩ (Nat.zero_le _) (Nat.zero_le _) (zc_rowsEnd_14_21 (S 1087 8) (S 1087 7) S42 n hn G_S42 (by omega) (by omega)) (fun v45 S44 hP => ?_)
      obtain ⟨rfl, o46⟩ := hP
      refine zz_callVV [.ref 1089, zi 3, zi (S 1087 8), zi v45] zd_14_22_236 zk_Md_227 zT_1079 (zz_ltn hn rfl) rfl rfl ⟨Nat.le_of_ble_eq_true rfl, Nat.le_of_ble_eq_true rfl⟩ ⟨rfl, rfl⟩ (Nat.zero_le _) (Nat.zero_le _) (zc_reach_14_20_1089 3 (S 1087 8) v45 S42 n hn G_S42 (by omega) (by omega) (by omega)) (fun S47 hP => ?_)
      obtain ⟨G_S47, fS47⟩ := hP
      have F_S47 := zz_fr.trans F_S42 fS47 rfl zz_nv
      refine zz_goto zd_14_22_239 ?_
      exact zz_vret zd_14_22_494 rfl (Nat.zero_le _) (Nat.zero_le _) ⟨_, rfl, G_S47, F_S47⟩
    by_cases c49 : S 1087 0 = 5
    · refine zz_swIn 5 151 c49 (by decide) zd_14_22_91 rfl rfl ?_
      refine zz_aload_n (x := 1079) rfl zd_14_22_242 ?_
      refine zz_aload_n (x := 1079) rfl zd_14_22_243 ?_
      refine zz_getr (kd := 0) (z := 1088) zd_14_22_244 zf_Md_39 zT_1079 rfl (zz_ltn hn rfl) (zz_G.eq G_S 1079 12 1088 rfl rfl) (by decide) 1088 rfl ?_
      refine zz_iconst zd_14_22_247 ?_
      refine zz_iload_n (x := S 1087 8) rfl zd_14_22_248 ?_
      refine zz_aload_n (x := 1079) rfl zd_14_22_249 ?_
      refine zz_iload_n (x := S 1087 8) rfl zd_14_22_250 ?_
      refine zz_aload_n (x := 1079) rfl zd_14_22_251 ?_
      refine zz_getr (kd := 0) (z := 1087) zd_14_22_252 zf_Md_36 zT_1079 rfl (zz_ltn hn rfl) (zz_G.eq G_S 1079 11 1087 rfl rfl) (by decide) 1087 rfl ?_
      refine zz_bipush (by decide) zd_14_22_255 ?_
      have g50 := zz_G.r G_S 1087 11 (-2147483648) 2147483647 rfl rfl
      refine zz_iald (z := S 1087 11) zd_14_22_257 zT_1087 rfl (zz_ltn hn rfl) (by decide) (by decide) rfl ?_
      refine zz_iconst zd_14_22_258 ?_
      refine zz_idiv (by omega) (by omega) zd_14_22_259 (fun v51 hv51 av51 bv51 cv51 => ?_)
      refine zz_callVI [zi (S 1087 8), zi v51] zd_14_22_260 zk_Md_231 zT_1079 (zz_ltn hn rfl) rfl rfl ⟨Nat.le_of_ble_eq_true rfl, Nat.le_of_ble_eq_true rfl⟩ ⟨rfl, rfl⟩ (Nat.zero_le _) (Nat.zero_le _) (zc_rowsEnd_14_21 (S 1087 8) v51 S n hn G_S (by omega) (by omega)) (fun v53 S52 hP => ?_)
      obtain ⟨rfl, o54⟩ := hP
      refine zz_callVV [.ref 1088, zi 1, zi (S 1087 8), zi v53] zd_14_22_263 zk_Md_227 zT_1079 (zz_ltn hn rfl) rfl rfl ⟨Nat.le_of_ble_eq_true rfl, Nat.le_of_ble_eq_true rfl⟩ ⟨rfl, rfl⟩ (Nat.zero_le _) (Nat.zero_le _) (zc_reach_14_20_1088 1 (S 1087 8) v53 S n hn G_S (by omega) (by omega) (by omega)) (fun S55 hP => ?_)
      obtain ⟨G_S55, fS55⟩ := hP
      have F_S55 := zz_fr.trans F_S fS55 rfl zz_nv
      refine zz_aload_n (x := 1079) rfl zd_14_22_266 ?_
      refine zz_aload_n (x := 1079) rfl zd_14_22_267 ?_
      refine zz_getr (kd := 0) (z := 1088) zd_14_22_268 zf_Md_39 zT_1079 rfl (zz_ltn hn rfl) (zz_G.eq G_S55 1079 12 1088 rfl rfl) (by decide) 1088 rfl ?_
      refine zz_iconst zd_14_22_271 ?_
      refine zz_aload_n (x := 1079) rfl zd_14_22_272 ?_
      refine zz_getr (kd := 0) (z := 1087) zd_14_22_273 zf_Md_36 zT_1079 rfl (zz_ltn hn rfl) (zz_G.eq G_S55 1079 11 1087 rfl rfl) (by decide) 1087 rfl ?_
      refine zz_bipush (by decide) zd_14_22_276 ?_
      refine zz_iald (z := S 1087 10) zd_14_22_278 zT_1087 rfl (zz_ltn hn rfl) (by decide) (by decide) (zz_rc fS55 (zz_nc1 rfl) rfl (fun h => h) rfl) ?_
      refine zz_aload_n (x := 1079) rfl zd_14_22_279 ?_
      refine zz_getr (kd := 0) (z := 1087) zd_14_22_280 zf_Md_36 zT_1079 rfl (zz_ltn hn rfl) (zz_G.eq G_S55 1079 11 1087 rfl rfl) (by decide) 1087 rfl ?_
      refine zz_bipush (by decide) zd_14_22_283 ?_
      refine zz_iald (z := S 1087 10) zd_14_22_285 zT_1087 rfl (zz_ltn hn rfl) (by decide) (by decide) (zz_rc fS55 (zz_nc1 rfl) rfl (fun h => h) rfl) ?_
      refine zz_aload_n (x := 1079) rfl zd_14_22_286 ?_
      refine zz_getr (kd := 0) (z := 1087) zd_14_22_287 zf_Md_36 zT_1079 rfl (zz_ltn hn rfl) (zz_G.eq G_S55 1079 11 1087 rfl rfl) (by decide) 1087 rfl ?_
      refine zz_bipush (by decide) zd_14_22_290 ?_
      refine zz_iald (z := S 1087 11) zd_14_22_292 zT_1087 rfl (zz_ltn hn rfl) (by decide) (by decide) (zz_rc fS55 (zz_nc1 rfl) rfl (fun h => h) rfl) ?_
      refine zz_iconst zd_14_22_293 ?_
      refine zz_idiv (by omega) (by omega) zd_14_22_294 (fun v57 hv57 av57 bv57 cv57 => ?_)
      refine zz_iconst zd_14_22_295 ?_
      refine zz_isub zd_14_22_296 ?_
      refine zz_nrm (fun v58 hv58 ev58 => ?_)
      refine zz_aload_n (x := 1079) rfl zd_14_22_297 ?_
      have g59 := zz_G.r G_S0 1079 1 2 8 rfl rfl
      refine zz_geti (z := S0 1079 1) zd_14_22_298 zf_Md_7 zT_1079 rfl (zz_ltn hn rfl) (zz_rc fS55 rfl rfl (fun h => h) (zz_rc F_S rfl rfl (fun h => h) rfl)) ?_
      refine zz_imul zd_14_22_301 ?_
      refine zz_nrm (fun v60 hv60 ev60 => ?_)
      refine zz_iadd zd_14_22_302 ?_
      refine zz_nrm (fun v61 hv61 ev61 => ?_)
      refine zz_iload_n (x := S 1087 7) rfl zd_14_22_303 ?_
      refine zz_iadd zd_14_22_304 ?_
      refine zz_nrm (fun v62 hv62 ev62 => ?_)
      refine zz_iconst zd_14_22_305 ?_
      refine zz_isub zd_14_22_306 ?_
      refine zz_nrm (fun v63 hv63 ev63 => ?_)
      refine zz_callVV [.ref 1088, zi 2, zi (S 1087 10), zi v63] zd_14_22_307 zk_Md_227 zT_1079 (zz_ltn hn rfl) rfl rfl ⟨Nat.le_of_ble_eq_true rfl, Nat.le_of_ble_eq_true rfl⟩ ⟨rfl, rfl⟩ (Nat.zero_le _) (Nat.zero_le _) (zc_reach_14_20_1088 2 (S 1087 10) v63 S55 n hn G_S55 (by omega) (by omega) (by omega)) (fun S64 hP => ?_)
      obtain ⟨G_S64, fS64⟩ := hP
      have F_S64 := zz_fr.trans F_S55 fS64 rfl zz_nv
      refine zz_aload_n (x := 1079) rfl zd_14_22_310 ?_
      refine zz_aload_n (x := 1079) rfl zd_14_22_311 ?_
      refine zz_getr (kd := 0) (z := 1089) zd_14_22_312 zf_Md_42 zT_1079 rfl (zz_ltn hn rfl) (zz_G.eq G_S64 1079 13 1089 rfl rfl) (by decide) 1089 rfl ?_
      refine zz_iconst zd_14_22_315 ?_
      refine zz_iload_n (x := S 1087 9) rfl zd_14_22_316 ?_
      refine zz_aload_n (x := 1079) rfl zd_14_22_317 ?_
      refine zz_iload_n (x := S 1087 9) rfl zd_14_22_318 ?_
      refine zz_iload_n (x := S 1087 7) rfl zd_14_22_319 ?_
      refine zz_callVI [zi (S 1087 9), zi (S 1087 7)] zd_14_22_320 zk_Md_231 zT_1079 (zz_ltn hn rfl) rfl rfl ⟨Nat.le_of_ble_eq_true rfl, Nat.le_of_ble_eq_true rfl⟩ ⟨rfl, rfl⟩ (Nat.zero_le _) (Nat.zero_le _) (zc_rowsEnd_14_21 (S 1087 9) (S 1087 7) S64 n hn G_S64 (by omega) (by omega)) (fun v67 S66 hP => ?_)
      obtain ⟨rfl, o68⟩ := hP
      refine zz_callVV [.ref 1089, zi 3, zi (S 1087 9), zi v67] zd_14_22_323 zk_Md_227 zT_1079 (zz_ltn hn rfl) rfl rfl ⟨Nat.le_of_ble_eq_true rfl, Nat.le_of_ble_eq_true rfl⟩ ⟨rfl, rfl⟩ (Nat.zero_le _) (Nat.zero_le _) (zc_reach_14_20_1089 3 (S 1087 9) v67 S64 n hn G_S64 (by omega) (by omega) (by omega)) (fun S69 hP => ?_)
      obtain ⟨G_S69, fS69⟩ := hP
      have F_S69 := zz_fr.trans F_S64 fS69 rfl zz_nv
      refine zz_aload_n (x := 1079) rfl zd_14_22_326 ?_
      refine zz_getr (kd := 0) (z := 1087) zd_14_22_327 zf_Md_36 zT_1079 rfl (zz_ltn hn rfl) (zz_G.eq G_S69 1079 11 1087 rfl rfl) (by decide) 1087 rfl ?_
      refine zz_bipush (by decide) zd_14_22_330 ?_
      refine zz_iald (z := S 1087 11) zd_14_22_332 zT_1087 rfl (zz_ltn hn rfl) (by decide) (by decide) (zz_rc fS69 (zz_nc1 rfl) rfl (fun h => h) (zz_rc fS64 (zz_nc1 rfl) rfl (fun h => h) (zz_rc fS55 (zz_nc1 rfl) rfl (fun h => h) rfl))) ?_
      refine zz_iconst zd_14_22_333 ?_
      refine zz_irem (by omega) (by omega) zd_14_22_334 (fun v71 hv71 av71 bv71 cv71 => ?_)
      refine zz_iconst zd_14_22_335 ?_
      refine zz_icmp_ne (by omega) (by omega) zd_14_22_336 (fun c72 => ?_) (fun c72 => ?_)
      · exact zz_vret zd_14_22_494 rfl (Nat.zero_le _) (Nat.zero_le _) ⟨_, rfl, G_S69, F_S69⟩
      · refine zz_aload_n (x := 1079) rfl zd_14_22_339 ?_
        refine zz_aload_n (x := 1079) rfl zd_14_22_340 ?_
        refine zz_getr (kd := 0) (z := 1088) zd_14_22_341 zf_Md_39 zT_1079 rfl (zz_ltn hn rfl) (zz_G.eq G_S69 1079 12 1088 rfl rfl) (by decide) 1088 rfl ?_
        refine zz_iconst zd_14_22_344 ?_
        refine zz_iload_n (x := S 1087 9) rfl zd_14_22_345 ?_
        refine zz_aload_n (x := 1079) rfl zd_14_22_346 ?_
        refine zz_iload_n (x := S 1087 9) rfl zd_14_22_347 ?_
        refine zz_iload_n (x := S 1087 7) rfl zd_14_22_348 ?_
        refine zz_callVI [zi (S 1087 9), zi (S 1087 7)] zd_14_22_349 zk_Md_231 zT_1079 (zz_ltn hn rfl) rfl rfl ⟨Nat.le_of_ble_eq_true rfl, Nat.le_of_ble_eq_true rfl⟩ ⟨rfl, rfl⟩ (Nat.zero_le _) (Nat.zero_le _) (zc_rowsEnd_14_21 (S 1087 9) (S 1087 7) S69 n hn G_S69 (by omega) (by omega)) (fun v74 S73 hP => ?_)
        obtain ⟨rfl, o75⟩ := hP
        refine zz_callVV [.ref 1088, zi 3, zi (S 1087 9), zi v74] zd_14_22_352 zk_Md_227 zT_1079 (zz_ltn hn rfl) rfl rfl ⟨Nat.le_of_ble_eq_true rfl, Nat.le_of_ble_eq_true rfl⟩ ⟨rfl, rfl⟩ (Nat.zero_le _) (Nat.zero_le _) (zc_reach_14_20_1088 3 (S 1087 9) v74 S69 n hn G_S69 (by omega) (by omega) (by omega)) (fun S76 hP => ?_)
        obtain ⟨G_S76, fS76⟩ := hP
        have F_S76 := zz_fr.trans F_S69 fS76 rfl zz_nv
        refine zz_goto zd_14_22_355 ?_
        exact zz_vret zd_14_22_494 rfl (Nat.zero_le _) (Nat.zero_le _) ⟨_, rfl, G_S76, F_S76⟩
    by_cases c78 : S 1087 0 = 6
    · refine zz_swIn 6 267 c78 (by decide) zd_14_22_91 rfl rfl ?_
      refine zz_aload_n (x := 1079) rfl zd_14_22_358 ?_
      refine zz_aload_n (x := 1079) rfl zd_14_22_359 ?_
      refine zz_getr (kd := 0) (z := 1088) zd_14_22_360 zf_Md_39 zT_1079 rfl (zz_ltn hn rfl) (zz_G.eq G_S 1079 12 1088 rfl rfl) (by decide) 1088 rfl ?_
      refine zz_iconst zd_14_22_363 ?_
      refine zz_iload_n (x := S 1087 8) rfl zd_14_22_364 ?_
      refine zz_aload_n (x := 1079) rfl zd_14_22_365 ?_
      refine zz_iload_n (x := S 1087 8) rfl zd_14_22_366 ?_
      refine zz_iload_n (x := S 1087 7) rfl zd_14_22_367 ?_
      refine zz_callVI [zi (S 1087 8), zi (S 1087 7)] zd_14_22_368 zk_Md_231 zT_1079 (zz_ltn hn rfl) rfl rfl ⟨Nat.le_of_ble_eq_true rfl, Nat.le_of_ble_eq_true rfl⟩ ⟨rfl, rfl⟩ (Nat.zero_le _) (Nat.zero_le _) (zc_rowsEnd_14_21 (S 1087 8) (S 1087 7) S n hn G_S (by omega) (by omega)) (fun v80 S79 hP => ?_)
      obtain ⟨rfl, o81⟩ := hP
      refine zz_callVV [.ref 1088, zi 1, zi (S 1087 8), zi v80] zd_14_22_371 zk_Md_227 zT_1079 (zz_ltn hn rfl) rfl rfl ⟨Nat.le_of_ble_eq_true rfl, Nat.le_of_ble_eq_true rfl⟩ ⟨rfl, rfl⟩ (Nat.zero_le _) (Nat.zero_le _) (zc_reach_14_20_1088 1 (S 1087 8) v80 S n hn G_S (by omega) (by omega) (by omega)) (fun S82 hP => ?_)
      obtain ⟨G_S82, fS82⟩ := hP
      have F_S82 := zz_fr.trans F_S fS82 rfl zz_nv
      refine zz_aload_n (x := 1079) rfl zd_14_22_374 ?_
      refine zz_aload_n (x := 1079) rfl zd_14_22_375 ?_
      refine zz_getr (kd := 0) (z := 1089) zd_14_22_376 zf_Md_42 zT_1079 rfl (zz_ltn hn rfl) (zz_G.eq G_S82 1079 13 1089 rfl rfl) (by decide) 1089 rfl ?_
      refine zz_iconst zd_14_22_379 ?_
      refine zz_iload_n (x := S 1087 9) rfl zd_14_22_380 ?_
      refine zz_aload_n (x := 1079) rfl zd_14_22_381 ?_
      refine zz_iload_n (x := S 1087 9) rfl zd_14_22_382 ?_
      refine zz_iload_n (x := S 1087 7) rfl zd_14_22_383 ?_
      refine zz_callVI [zi (S 1087 9), zi (S 1087 7)] zd_14_22_384 zk_Md_231 zT_1079 (zz_ltn hn rfl) rfl rfl ⟨Nat.le_of_ble_eq_true rfl, Nat.le_of_ble_eq_true rfl⟩ ⟨rfl, rfl⟩ (Nat.zero_le _) (Nat.zero_le _) (zc_rowsEnd_14_21 (S 1087 9) (S 1087 7) S82 n hn G_S82 (by omega) (by omega)) (fun v85 S84 hP => ?_)
      obtain ⟨rfl, o86⟩ := hP
      refine zz_callVV [.ref 1089, zi 3, zi (S 1087 9), zi v85] zd_14_22_387 zk_Md_227 zT_1079 (zz_ltn hn rfl) rfl rfl ⟨Nat.le_of_ble_eq_true rfl, Nat.le_of_ble_eq_true rfl⟩ ⟨rfl, rfl⟩ (Nat.zero_le _) (Nat.zero_le _) (zc_reach_14_20_1089 3 (S 1087 9) v85 S82 n hn G_S82 (by omega) (by omega) (by omega)) (fun S87 hP => ?_)
      obtain ⟨G_S87, fS87⟩ := hP
      have F_S87 := zz_fr.trans F_S82 fS87 rfl zz_nv
      refine zz_aload_n (x := 1079) rfl zd_14_22_390 ?_
      refine zz_getr (kd := 0) (z := 1087) zd_14_22_391 zf_Md_36 zT_1079 rfl (zz_ltn hn rfl) (zz_G.eq G_S87 1079 11 1087 rfl rfl) (by decide) 1087 rfl ?_
      refine zz_bipush (by decide) zd_14_22_394 ?_
      have g89 := zz_G.r G_S 1087 11 (-2147483648) 2147483647 rfl rfl
      refine zz_iald (z := S 1087 11) zd_14_22_396 zT_1087 rfl (zz_ltn hn rfl) (by decide) (by decide) (zz_rc fS87 (zz_nc1 rfl) rfl (fun h => h) (zz_rc fS82 (zz_nc1 rfl) rfl (fun h => h) rfl)) ?_
      refine zz_if_le (by omega) zd_14_22_397 (fun c90 => ?_) (fun c90 => ?_)
      · exact zz_vret zd_14_22_494 rfl (Nat.zero_le _) (Nat.zero_le _) ⟨_, rfl, G_S87, F_S87⟩
      · refine zz_aload_n (x := 1079) rfl zd_14_22_400 ?_
        refine zz_aload_n (x := 1079) rfl zd_14_22_401 ?_
        refine zz_getr (kd := 0) (z := 1088) zd_14_22_402 zf_Md_39 zT_1079 rfl (zz_ltn hn rfl) (zz_G.eq G_S87 1079 12 1088 rfl rfl) (by decide) 1088 rfl ?_
        refine zz_iconst zd_14_22_405 ?_
        refine zz_iload_n (x := S 1087 9) rfl zd_14_22_406 ?_
        refine zz_aload_n (x := 1079) rfl zd_14_22_407 ?_
        refine zz_iload_n (x := S 1087 9) rfl zd_14_22_408 ?_
        refine zz_iload_n (x := S 1087 7) rfl zd_14_22_409 ?_
        refine zz_callVI [zi (S 1087 9), zi (S 1087 7)] zd_14_22_410 zk_Md_231 zT_1079 (zz_ltn hn rfl) rfl rfl ⟨Nat.le_of_ble_eq_true rfl, Nat.le_of_ble_eq_true rfl⟩ ⟨rfl, rfl⟩ (Nat.zero_le _) (Nat.zero_le _) (zc_rowsEnd_14_21 (S 1087 9) (S 1087 7) S87 n hn G_S87 (by omega) (by omega)) (fun v92 S91 hP => ?_)
        obtain ⟨rfl, o93⟩ := hP
        refine zz_callVV [.ref 1088, zi 3, zi (S 1087 9), zi v92] zd_14_22_413 zk_Md_227 zT_1079 (zz_ltn hn rfl) rfl rfl ⟨Nat.le_of_ble_eq_true rfl, Nat.le_of_ble_eq_true rfl⟩ ⟨rfl, rfl⟩ (Nat.zero_le _) (Nat.zero_le _) (zc_reach_14_20_1088 3 (S 1087 9) v92 S87 n hn G_S87 (by omega) (by omega) (by omega)) (fun S94 hP => ?_)
        obtain ⟨G_S94, fS94⟩ := hP
        have F_S94 := zz_fr.trans F_S87 fS94 rfl zz_nv
        refine zz_goto zd_14_22_416 ?_
        exact zz_vret zd_14_22_494 rfl (Nat.zero_le _) (Nat.zero_le _) ⟨_, rfl, G_S94, F_S94⟩
    by_cases c96 : S 1087 0 = 7
    · refine zz_swIn 7 328 c96 (by decide) zd_14_22_91 rfl rfl ?_
      refine zz_aload_n (x := 1079) rfl zd_14_22_419 ?_
      refine zz_aload_n (x := 1079) rfl zd_14_22_420 ?_
      refine zz_getr (kd := 0) (z := 1088) zd_14_22_421 zf_Md_39 zT_1079 rfl (zz_ltn hn rfl) (zz_G.eq G_S 1079 12 1088 rfl rfl) (by decide) 1088 rfl ?_
      refine zz_iconst zd_14_22_424 ?_
      refine zz_iload_n (x := S 1087 8) rfl zd_14_22_425 ?_
      refine zz_aload_n (x := 1079) rfl zd_14_22_426 ?_
      refine zz_iload_n (x := S 1087 8) rfl zd_14_22_427 ?_
      refine zz_iload_n (x := S 1087 7) rfl zd_14_22_428 ?_
      refine zz_callVI [zi (S 1087 8), zi (S 1087 7)] zd_14_22_429 zk_Md_231 zT_1079 (zz_ltn hn rfl) rfl rfl ⟨Nat.le_of_ble_eq_true rfl, Nat.le_of_ble_eq_true rfl⟩ ⟨rfl, rfl⟩ (Nat.zero_le _) (Nat.zero_le _) (zc_rowsEnd_14_21 (S 1087 8) (S 1087 7) S n hn G_S (by omega) (by omega)) (fun v98 S97 hP => ?_)
      obtain ⟨rfl, o99⟩ := hP
      refine zz_callVV [.ref 1088, zi 3, zi (S 1087 8), zi v98] zd_14_22_432 zk_Md_227 zT_1079 (zz_ltn hn rfl) rfl rfl ⟨Nat.le_of_ble_eq_true rfl, Nat.le_of_ble_eq_true rfl⟩ ⟨rfl, rfl⟩ (Nat.zero_le _) (Nat.zero_le _) (zc_reach_14_20_1088 3 (S 1087 8) v98 S n hn G_S (by omega) (by omega) (by omega)) (fun S100 hP => ?_)
      obtain ⟨G_S100, fS100⟩ := hP
      have F_S100 := zz_fr.trans F_S fS100 rfl zz_nv
      refine zz_aload_n (x := 1079) rfl zd_14_22_435 ?_
      refine zz_aload_n (x := 1079) rfl zd_14_22_436 ?_
      refine zz_getr (kd := 0) (z := 1089) zd_14_22_437 zf_Md_42 zT_1079 rfl (zz_ltn hn rfl) (zz_G.eq G_S100 1079 13 1089 rfl rfl) (by decide) 1089 rfl ?_
      refine zz_iconst zd_14_22_440 ?_
      refine zz_iload_n (x := S 1087 9) rfl zd_14_22_441 ?_
      refine zz_aload_n (x := 1079) rfl zd_14_22_442 ?_
      refine zz_iload_n (x := S 1087 9) rfl zd_14_22_443 ?_
      refine zz_iload_n (x := S 1087 7) rfl zd_14_22_444 ?_
      refine zz_callVI [zi (S 1087 9), zi (S 1087 7)] zd_14_22_445 zk_Md_231 zT_1079 (zz_ltn hn rfl) rfl rfl ⟨Nat.le_of_ble_eq_true rfl, Nat.le_of_ble_eq_true rfl⟩ ⟨rfl, rfl⟩ (Nat.zero_le _) (Nat.zero_le _) (zc_rowsEnd_14_21 (S 1087 9) (S 1087 7) S100 n hn G_S100 (by omega) (by omega)) (fun v103 S102 hP => ?_)
      obtain ⟨rfl, o104⟩ := hP
      refine zz_callVV [.ref 1089, zi 4, zi (S 1087 9), zi v103] zd_14_22_448 zk_Md_227 zT_1079 (zz_ltn hn rfl) rfl rfl ⟨Nat.le_of_ble_eq_true rfl, Nat.le_of_ble_eq_true rfl⟩ ⟨rfl, rfl⟩ (Nat.zero_le _) (Nat.zero_le _) (zc_reach_14_20_1089 4 (S 1087 9) v103 S100 n hn G_S100 (by omega) (by omega) (by omega)) (fun S105 hP => ?_)
      obtain ⟨G_S105, fS105⟩ := hP
      have F_S105 := zz_fr.trans F_S100 fS105 rfl zz_nv
      refine zz_goto zd_14_22_451 ?_
      exact zz_vret zd_14_22_494 rfl (Nat.zero_le _) (Nat.zero_le _) ⟨_, rfl, G_S105, F_S105⟩
    by_cases c107 : S 1087 0 = 8
    · refine zz_swIn 8 363 c107 (by decide) zd_14_22_91 rfl rfl ?_
      refine zz_aload_n (x := 1079) rfl zd_14_22_454 ?_
      refine zz_aload_n (x := 1079) rfl zd_14_22_455 ?_
      refine zz_getr (kd := 0) (z := 1088) zd_14_22_456 zf_Md_39 zT_1079 rfl (zz_ltn hn rfl) (zz_G.eq G_S 1079 12 1088 rfl rfl) (by decide) 1088 rfl ?_
      refine zz_iconst zd_14_22_459 ?_
      refine zz_iload_n (x := S 1087 8) rfl zd_14_22_460 ?_
      refine zz_aload_n (x := 1079) rfl zd_14_22_461 ?_
      refine zz_iload_n (x := S 1087 8) rfl zd_14_22_462 ?_
      refine zz_iload_n (x := S 1087 7) rfl zd_14_22_463 ?_
      refine zz_callVI [zi (S 1087 8), zi (S 1087 7)] zd_14_22_464 zk_Md_231 zT_1079 (zz_ltn hn rfl) rfl rfl ⟨Nat.le_of_ble_eq_true rfl, Nat.le_of_ble_eq_true rfl⟩ ⟨rfl, rfl⟩ (Nat.zero_le _) (Nat.zero_le _) (zc_rowsEnd_14_21 (S 1087 8) (S 1087 7) S n hn G_S (by omega) (by omega)) (fun v109 S108 hP => ?_)
      obtain ⟨rfl, o110⟩ := hP
      refine zz_callVV [.ref 1088, zi 4, zi (S 1087 8), zi v109] zd_14_22_467 zk_Md_227 zT_1079 (zz_ltn hn rfl) rfl rfl ⟨Nat.le_of_ble_eq_true rfl, Nat.le_of_ble_eq_true rfl⟩ ⟨rfl, rfl⟩ (Nat.zero_le _) (Nat.zero_le _) (zc_reach_14_20_1088 4 (S 1087 8) v109 S n hn G_S (by omega) (by omega) (by omega)) (fun S111 hP => ?_)
      obtain ⟨G_S111, fS111⟩ := hP
      have F_S111 := zz_fr.trans F_S fS111 rfl zz_nv
      refine zz_aload_n (x := 1079) rfl zd_14_22_470 ?_
      refine zz_aload_n (x := 1079) rfl zd_14_22_471 ?_
      refine zz_getr (kd := 0) (z := 1089) zd_14_22_472 zf_Md_42 zT_1079 rfl (zz_ltn hn rfl) (zz_G.eq G_S111 1079 13 1089 rfl rfl) (by decide) 1089 rfl ?_
      refine zz_iconst zd_14_22_475 ?_
      refine zz_aload_n (x := 1079) rfl zd_14_22_476 ?_
      refine zz_getr (kd := 0) (z := 1087) zd_14_22_477 zf_Md_36 zT_1079 rfl (zz_ltn hn rfl) (zz_G.eq G_S111 1079 11 1087 rfl rfl) (by decide) 1087 rfl ?_
      refine zz_iconst zd_14_22_480 ?_
      refine zz_iald (z := S 1087 5) zd_14_22_481 zT_1087 rfl (zz_ltn hn rfl) (by decide) (by decide) (zz_rc fS111 (zz_nc1 rfl) rfl (fun h => h) rfl) ?_
      refine zz_iload (x := v10) rfl zd_14_22_482 ?_
      refine zz_iload_n (x := S 1087 7) rfl zd_14_22_484 ?_
      refine zz_iadd zd_14_22_485 ?_
      refine zz_nrm (fun v113 hv113 ev113 => ?_)
      refine zz_iconst zd_14_22_486 ?_
      refine zz_isub zd_14_22_487 ?_
      refine zz_nrm (fun v114 hv114 ev114 => ?_)
      refine zz_callVV [.ref 1089, zi 0, zi (S 1087 5), zi v114] zd_14_22_488 zk_Md_227 zT_1079 (zz_ltn hn rfl) rfl rfl ⟨Nat.le_of_ble_eq_true rfl, Nat.le_of_ble_eq_true rfl⟩ ⟨rfl, rfl⟩ (Nat.zero_le _) (Nat.zero_le _) (zc_reach_14_20_1089 0 (S 1087 5) v114 S111 n hn G_S111 (by omega) (by omega) (by omega)) (fun S115 hP => ?_)
      obtain ⟨G_S115, fS115⟩ := hP
      have F_S115 := zz_fr.trans F_S111 fS115 rfl zz_nv
      refine zz_goto zd_14_22_491 ?_
      exact zz_vret zd_14_22_494 rfl (Nat.zero_le _) (Nat.zero_le _) ⟨_, rfl, G_S115, F_S115⟩
    refine zz_swOut (by omega) (by omega) zd_14_22_91 rfl ?_
    exact zz_vret zd_14_22_494 rfl (Nat.zero_le _) (Nat.zero_le _) ⟨_, rfl, G_S, F_S⟩
  · refine zz_aload_n (x := 1079) rfl zd_14_22_7 ?_
    refine zz_aload_n (x := 1079) rfl zd_14_22_8 ?_
    refine zz_getr (kd := 0) (z := 1088) zd_14_22_9 zf_Md_39 zT_1079 rfl (zz_ltn hn rfl) (zz_G.eq G_S 1079 12 1088 rfl rfl) (by decide) 1088 rfl ?_
    refine zz_iload_n (x := x1) rfl zd_14_22_12 ?_
    refine zz_iconst zd_14_22_13 ?_
    refine zz_iconst zd_14_22_14 ?_
    refine zz_callVV [.ref 1088, zi x1, zi 0, zi (-1)] zd_14_22_15 zk_Md_227 zT_1079 (zz_ltn hn rfl) rfl rfl ⟨Nat.le_of_ble_eq_true rfl, Nat.le_of_ble_eq_true rfl⟩ ⟨rfl, rfl⟩ (Nat.zero_le _) (Nat.zero_le _) (zc_reach_14_20_1088 x1 0 (-1) S n hn G_S (by omega) (by omega) (by omega)) (fun S118 hP => ?_)
    obtain ⟨G_S118, fS118⟩ := hP
    have F_S118 := zz_fr.trans F_S fS118 rfl zz_nv
    refine zz_aload_n (x := 1079) rfl zd_14_22_18 ?_
    refine zz_aload_n (x := 1079) rfl zd_14_22_19 ?_
    refine zz_getr (kd := 0) (z := 1089) zd_14_22_20 zf_Md_42 zT_1079 rfl (zz_ltn hn rfl) (zz_G.eq G_S118 1079 13 1089 rfl rfl) (by decide) 1089 rfl ?_
    refine zz_iload_n (x := x1) rfl zd_14_22_23 ?_
    refine zz_iconst zd_14_22_24 ?_
    refine zz_iconst zd_14_22_25 ?_
    refine zz_callVV [.ref 1089, zi x1, zi 0, zi (-1)] zd_14_22_26 zk_Md_227 zT_1079 (zz_ltn hn rfl) rfl rfl ⟨Nat.le_of_ble_eq_true rfl, Nat.le_of_ble_eq_true rfl⟩ ⟨rfl, rfl⟩ (Nat.zero_le _) (Nat.zero_le _) (zc_reach_14_20_1089 x1 0 (-1) S118 n hn G_S118 (by omega) (by omega) (by omega)) (fun S120 hP => ?_)
    obtain ⟨G_S120, fS120⟩ := hP
    have F_S120 := zz_fr.trans F_S118 fS120 rfl zz_nv
    refine zz_iinc [some (.ref 1079), some (zi (x1 + 1))] zd_14_22_29 rfl rfl ?_
    refine zz_goto zd_14_22_32 ?_
    refine zz_less (ls1 := [some (.ref 1079), some (zi (x1 + 1))]) ⟨rfl, ⟨rfl, trivial⟩⟩ ?_
    exact k2 (x1 + 1) S120 G_S120 F_S120 (by omega) (by omega)
theorem zi_reaches_14_22 {g : mm_G} {l : Launch}  (S0 : zz_S) (n : Nat) (hn : zz_end ≤ n) (G_S0 : zz_G S0)  : ∀ N : Nat, (∀ (x1 : Int) (S : zz_S), zz_G S → zz_fr [] [1088, 1089] (fun _ _ => False) S0 S → (0 ≤ x1 ∧ x1 ≤ 2147483647) → (5 - x1).toNat < N → zz_E g l zy_reaches_14_22 zr_reaches_14_22 (zz_QV n (zp_reaches_14_22  S0)) S n 2 [some (.ref 1079), some (zi x1)] [] 0 0) := by
  intro N
  induction N with
  | zero => exact fun x1 S _ _ _ h => absurd h (Nat.not_lt_zero _)
  | succ N ih =>
    exact fun x1 S a b j0 hR => zb_reaches_14_22_2  S0 n hn G_S0  x1 S a b j0 _ rfl (fun x1 S a b j0 h => ih x1 S a b j0 (Nat.lt_of_lt_of_le h (Nat.le_of_lt_succ hR)))
theorem zc_reaches_14_22 {g : mm_G} {l : Launch}  (S0 : zz_S) (n : Nat) (hn : zz_end ≤ n) (G_S0 : zz_G S0)  : mm_Met g l zy_reaches_14_22 zr_reaches_14_22 [.ref 1079] (zz_M S0 n) n (zz_QV n (zp_reaches_14_22  S0)) := by
  refine zz_enter (by decide) (Nat.le_of_ble_eq_true rfl) (zz_less (ls1 := [some (.ref 1079)]) ⟨rfl, trivial⟩ ?_)
  have F_S0 : zz_fr [] [1088, 1089] (fun _ _ => False) S0 S0 := zz_fr.refl
  have k2 : ∀ (x1 : Int) (S : zz_S), zz_G S → zz_fr [] [1088, 1089] (fun _ _ => False) S0 S → (0 ≤ x1 ∧ x1 ≤ 2147483647) → zz_E g l zy_reaches_14_22 zr_reaches_14_22 (zz_QV n (zp_reaches_14_22  S0)) S n 2 [some (.ref 1079), some (zi x1)] [] 0 0 := fun x1 S a b j0 => (zi_reaches_14_22 (g := g) (l := l)  S0 n hn G_S0  _) x1 S a b j0 (Nat.lt_succ_self _)
  refine zz_iconst zd_14_22_0 ?_
  refine zz_istore_n [some (.ref 1079), some (zi 0)] zd_14_22_1 (by decide) rfl ?_
  refine zz_less (ls1 := [some (.ref 1079), some (zi 0)]) ⟨rfl, ⟨rfl, trivial⟩⟩ ?_
  exact k2 0 S0 G_S0 F_S0 (by omega)
end
section
abbrev zy_names_14_23 : mm_Y := (⟨"TensorForgeModel", "names", "(II)Z"⟩, prog_14_method_23_code, 4, (some .boolean))
theorem zyw_names_14_23 : mm_Yw zy_names_14_23 2 := ⟨mm_tb_1 1898 (by decide +kernel) rfl, mm_tb_1 12 (by decide +kernel) rfl, ⟨by decide, by decide⟩, by decide +kernel⟩
theorem zd_14_23_0 : zz_D zy_names_14_23 0 (.iload_n 0) 1 1 := ⟨by decide +kernel, rfl⟩
theorem zd_14_23_1 : zz_D zy_names_14_23 1 (.iconst 1) 1 2 := ⟨by decide +kernel, rfl⟩
theorem zd_14_23_2 : zz_B zy_names_14_23 2 (Instr.if_icmp .eq) 21 5 := ⟨19, by decide +kernel, rfl, rfl⟩
theorem zd_14_23_21 : zz_D zy_names_14_23 21 (.iconst 1) 1 22 := ⟨by decide +kernel, rfl⟩
theorem zd_14_23_22 : zz_B zy_names_14_23 22 Instr.goto 26 25 := ⟨4, by decide +kernel, rfl, rfl⟩
theorem zd_14_23_26 : zz_D zy_names_14_23 26 (.istore_n 2) 1 27 := ⟨by decide +kernel, rfl⟩
theorem zd_14_23_27 : zz_D zy_names_14_23 27 (.iload_n 0) 1 28 := ⟨by decide +kernel, rfl⟩
theorem zd_14_23_28 : zz_D zy_names_14_23 28 (.iconst 5) 1 29 := ⟨by decide +kernel, rfl⟩
theorem zd_14_23_29 : zz_B zy_names_14_23 29 (Instr.if_icmp .eq) 44 32 := ⟨15, by decide +kernel, rfl, rfl⟩
theorem zd_14_23_32 : zz_D zy_names_14_23 32 (.iload_n 0) 1 33 := ⟨by decide +kernel, rfl⟩
theorem zd_14_23_33 : zz_D zy_names_14_23 33 (.bipush 6) 2 35 := ⟨by decide +kernel, rfl⟩
theorem zd_14_23_35 : zz_B zy_names_14_23 35 (Instr.if_icmp .eq) 44 38 := ⟨9, by decide +kernel, rfl, rfl⟩
theorem zd_14_23_38 : zz_D zy_names_14_23 38 (.iload_n 0) 1 39 := ⟨by decide +kernel, rfl⟩
theorem zd_14_23_39 : zz_D zy_names_14_23 39 (.bipush 7) 2 41 := ⟨by decide +kernel, rfl⟩
theorem zd_14_23_41 : zz_B zy_names_14_23 41 (Instr.if_icmp .ne) 48 44 := ⟨7, by decide +kernel, rfl, rfl⟩
theorem zd_14_23_48 : zz_D zy_names_14_23 48 (.iconst 0) 1 49 := ⟨by decide +kernel, rfl⟩
theorem zd_14_23_49 : zz_D zy_names_14_23 49 (.istore_n 3) 1 50 := ⟨by decide +kernel, rfl⟩
theorem zd_14_23_50 : zz_D zy_names_14_23 50 (.iload_n 1) 1 51 := ⟨by decide +kernel, rfl⟩
theorem zd_14_23_51 : zz_W zy_names_14_23 51 68 5 10 #[37, 68, 68, 39, 51, 53] := ⟨37, by decide +kernel⟩
theorem zd_14_23_88 : zz_D zy_names_14_23 88 (.iload_n 2) 1 89 := ⟨by decide +kernel, rfl⟩
theorem zd_14_23_89 : zz_D zy_names_14_23 89 (.ireturn) 1 90 := ⟨by decide +kernel, rfl⟩
theorem zd_14_23_119 : zz_D zy_names_14_23 119 (.iload_n 3) 1 120 := ⟨by decide +kernel, rfl⟩
theorem zd_14_23_120 : zz_B zy_names_14_23 120 (Instr.ifCond .ne) 129 123 := ⟨9, by decide +kernel, rfl, rfl⟩
theorem zd_14_23_123 : zz_D zy_names_14_23 123 (.iload_n 0) 1 124 := ⟨by decide +kernel, rfl⟩
theorem zd_14_23_124 : zz_D zy_names_14_23 124 (.bipush 9) 2 126 := ⟨by decide +kernel, rfl⟩
theorem zd_14_23_126 : zz_B zy_names_14_23 126 (Instr.if_icmp .ne) 133 129 := ⟨7, by decide +kernel, rfl, rfl⟩
theorem zd_14_23_133 : zz_D zy_names_14_23 133 (.iconst 0) 1 134 := ⟨by decide +kernel, rfl⟩
theorem zd_14_23_134 : zz_D zy_names_14_23 134 (.ireturn) 1 135 := ⟨by decide +kernel, rfl⟩
theorem zd_14_23_90 : zz_D zy_names_14_23 90 (.iload_n 0) 1 91 := ⟨by decide +kernel, rfl⟩
theorem zd_14_23_91 : zz_D zy_names_14_23 91 (.bipush 9) 2 93 := ⟨by decide +kernel, rfl⟩
theorem zd_14_23_93 : zz_B zy_names_14_23 93 (Instr.if_icmp .eq) 100 96 := ⟨7, by decide +kernel, rfl, rfl⟩
theorem zd_14_23_96 : zz_D zy_names_14_23 96 (.iconst 1) 1 97 := ⟨by decide +kernel, rfl⟩
theorem zd_14_23_97 : zz_B zy_names_14_23 97 Instr.goto 101 100 := ⟨4, by decide +kernel, rfl, rfl⟩
theorem zd_14_23_101 : zz_D zy_names_14_23 101 (.ireturn) 1 102 := ⟨by decide +kernel, rfl⟩
theorem zd_14_23_102 : zz_D zy_names_14_23 102 (.iload_n 3) 1 103 := ⟨by decide +kernel, rfl⟩
theorem zd_14_23_103 : zz_D zy_names_14_23 103 (.ireturn) 1 104 := ⟨by decide +kernel, rfl⟩
theorem zd_14_23_104 : zz_D zy_names_14_23 104 (.iload_n 2) 1 105 := ⟨by decide +kernel, rfl⟩
theorem zd_14_23_105 : zz_B zy_names_14_23 105 (Instr.ifCond .ne) 113 108 := ⟨8, by decide +kernel, rfl, rfl⟩
theorem zd_14_23_113 : zz_D zy_names_14_23 113 (.iconst 1) 1 114 := ⟨by decide +kernel, rfl⟩
theorem zd_14_23_114 : zz_B zy_names_14_23 114 Instr.goto 118 117 := ⟨4, by decide +kernel, rfl, rfl⟩
theorem zd_14_23_118 : zz_D zy_names_14_23 118 (.ireturn) 1 119 := ⟨by decide +kernel, rfl⟩
theorem zd_14_23_5 : zz_D zy_names_14_23 5 (.iload_n 0) 1 6 := ⟨by decide +kernel, rfl⟩
theorem zd_14_23_6 : zz_D zy_names_14_23 6 (.iconst 2) 1 7 := ⟨by decide +kernel, rfl⟩
theorem zd_14_23_7 : zz_B zy_names_14_23 7 (Instr.if_icmp .eq) 21 10 := ⟨14, by decide +kernel, rfl, rfl⟩
theorem zd_14_23_10 : zz_D zy_names_14_23 10 (.iload_n 0) 1 11 := ⟨by decide +kernel, rfl⟩
theorem zd_14_23_11 : zz_D zy_names_14_23 11 (.iconst 4) 1 12 := ⟨by decide +kernel, rfl⟩
theorem zd_14_23_12 : zz_B zy_names_14_23 12 (Instr.if_icmp .eq) 21 15 := ⟨9, by decide +kernel, rfl, rfl⟩
theorem zd_14_23_15 : zz_D zy_names_14_23 15 (.iload_n 0) 1 16 := ⟨by decide +kernel, rfl⟩
theorem zd_14_23_16 : zz_D zy_names_14_23 16 (.bipush 8) 2 18 := ⟨by decide +kernel, rfl⟩
theorem zd_14_23_18 : zz_B zy_names_14_23 18 (Instr.if_icmp .ne) 25 21 := ⟨7, by decide +kernel, rfl, rfl⟩
theorem zd_14_23_25 : zz_D zy_names_14_23 25 (.iconst 0) 1 26 := ⟨by decide +kernel, rfl⟩
theorem zd_14_23_44 : zz_D zy_names_14_23 44 (.iconst 1) 1 45 := ⟨by decide +kernel, rfl⟩
theorem zd_14_23_45 : zz_B zy_names_14_23 45 Instr.goto 49 48 := ⟨4, by decide +kernel, rfl, rfl⟩
theorem zd_14_23_129 : zz_D zy_names_14_23 129 (.iconst 1) 1 130 := ⟨by decide +kernel, rfl⟩
theorem zd_14_23_130 : zz_B zy_names_14_23 130 Instr.goto 134 133 := ⟨4, by decide +kernel, rfl, rfl⟩
theorem zd_14_23_108 : zz_D zy_names_14_23 108 (.iload_n 0) 1 109 := ⟨by decide +kernel, rfl⟩
theorem zd_14_23_109 : zz_D zy_names_14_23 109 (.iconst 5) 1 110 := ⟨by decide +kernel, rfl⟩
theorem zd_14_23_110 : zz_B zy_names_14_23 110 (Instr.if_icmp .ne) 117 113 := ⟨7, by decide +kernel, rfl, rfl⟩
theorem zd_14_23_117 : zz_D zy_names_14_23 117 (.iconst 0) 1 118 := ⟨by decide +kernel, rfl⟩
theorem zd_14_23_100 : zz_D zy_names_14_23 100 (.iconst 0) 1 101 := ⟨by decide +kernel, rfl⟩
-- TensorForgeModel names (II)Z
abbrev zr_names_14_23 : Room := { frames := 0, cells := 0, slots := 0, locals := 0 }
def zp_names_14_23 (p0 : Int) (p1 : Int) (S0 : zz_S) : Int → zz_S → Prop := fun r S => S0 = S ∧ (0 ≤ r ∧ r ≤ 1)
theorem zc_names_14_23 {g : mm_G} {l : Launch} (p0 : Int) (p1 : Int) (S0 : zz_S) (n : Nat) (hn : zz_end ≤ n) (G_S0 : zz_G S0) (hp0 : (-2147483648) ≤ p0 ∧ p0 ≤ 2147483647) (hp1 : (-2147483648) ≤ p1 ∧ p1 ≤ 2147483647) : mm_Met g l zy_names_14_23 zr_names_14_23 [zi p0, zi p1] (zz_M S0 n) n (zz_QI n (zp_names_14_23 p0 p1 S0)) := by
  refine zz_enter (by decide) (Nat.le_of_ble_eq_true rfl) (zz_less (ls1 := [some (zi p0), some (zi p1)]) ⟨rfl, ⟨rfl, trivial⟩⟩ ?_)
  refine zz_iload_n (x := p0) rfl zd_14_23_0 ?_
  refine zz_iconst zd_14_23_1 ?_
  refine zz_icmp_eq (by omega) (by omega) zd_14_23_2 (fun c1 => ?_) (fun c1 => ?_)
  · refine zz_iconst zd_14_23_21 ?_
    refine zz_goto zd_14_23_22 ?_
    refine zz_istore_n [some (zi p0), some (zi p1), some (zi 1)] zd_14_23_26 (by decide) rfl ?_
    refine zz_iload_n (x := p0) rfl zd_14_23_27 ?_
    refine zz_iconst zd_14_23_28 ?_
    refine zz_icmp_eq (by omega) (by omega) zd_14_23_29 (fun c2 => ?_) (fun c2 => ?_)
    · exfalso; omega
    · refine zz_iload_n (x := p0) rfl zd_14_23_32 ?_
      refine zz_bipush (by decide) zd_14_23_33 ?_
      refine zz_icmp_eq (by omega) (by omega) zd_14_23_35 (fun c3 => ?_) (fun c3 => ?_)
      · exfalso; omega
      · refine zz_iload_n (x := p0) rfl zd_14_23_38 ?_
        refine zz_bipush (by decide) zd_14_23_39 ?_
        refine zz_icmp_ne (by omega) (by omega) zd_14_23_41 (fun c4 => ?_) (fun c4 => ?_)
        · refine zz_iconst zd_14_23_48 ?_
          refine zz_istore_n [some (zi p0), some (zi p1), some (zi 1), some (zi 0)] zd_14_23_49 (by decide) rfl ?_
          refine zz_iload_n (x := p1) rfl zd_14_23_50 ?_
          by_cases c5 : p1 = 5
          · refine zz_swIn 5 37 c5 (by decide) zd_14_23_51 rfl rfl ?_
            refine zz_iload_n (x := 1) rfl zd_14_23_88 ?_
            exact zz_zret zd_14_23_89 rfl (by omega) (Nat.zero_le _) (Nat.zero_le _) ⟨_, _, rfl, rfl, by omega⟩
          by_cases c6 : p1 = 6
          · refine zz_swIn 6 68 c6 (by decide) zd_14_23_51 rfl rfl ?_
            refine zz_iload_n (x := 0) rfl zd_14_23_119 ?_
            refine zz_if_ne (by omega) zd_14_23_120 (fun c7 => ?_) (fun c7 => ?_)
            · exfalso; omega
            · refine zz_iload_n (x := p0) rfl zd_14_23_123 ?_
              refine zz_bipush (by decide) zd_14_23_124 ?_
              refine zz_icmp_ne (by omega) (by omega) zd_14_23_126 (fun c8 => ?_) (fun c8 => ?_)
              · refine zz_iconst zd_14_23_133 ?_
                exact zz_zret zd_14_23_134 rfl (by omega) (Nat.zero_le _) (Nat.zero_le _) ⟨_, _, rfl, rfl, by omega⟩
              · exfalso; omega
          by_cases c9 : p1 = 7
          · refine zz_swIn 7 68 c9 (by decide) zd_14_23_51 rfl rfl ?_
            refine zz_iload_n (x := 0) rfl zd_14_23_119 ?_
            refine zz_if_ne (by omega) zd_14_23_120 (fun c10 => ?_) (fun c10 => ?_)
            · exfalso; omega
            · refine zz_iload_n (x := p0) rfl zd_14_23_123 ?_
              refine zz_bipush (by decide) zd_14_23_124 ?_
              refine zz_icmp_ne (by omega) (by omega) zd_14_23_126 (fun c11 => ?_) (fun c11 => ?_)
              · refine zz_iconst zd_14_23_133 ?_
                exact zz_zret zd_14_23_134 rfl (by omega) (Nat.zero_le _) (Nat.zero_le _) ⟨_, _, rfl, rfl, by omega⟩
              · exfalso; omega
          by_cases c12 : p1 = 8
          · refine zz_swIn 8 39 c12 (by decide) zd_14_23_51 rfl rfl ?_
            refine zz_iload_n (x := p0) rfl zd_14_23_90 ?_
            refine zz_bipush (by decide) zd_14_23_91 ?_
            refine zz_icmp_eq (by omega) (by omega) zd_14_23_93 (fun c13 => ?_) (fun c13 => ?_)
            · exfalso; omega
            · refine zz_iconst zd_14_23_96 ?_
              refine zz_goto zd_14_23_97 ?_
              exact zz_zret zd_14_23_101 rfl (by omega) (Nat.zero_le _) (Nat.zero_le _) ⟨_, _, rfl, rfl, by omega⟩
          by_cases c14 : p1 = 9
          · refine zz_swIn 9 51 c14 (by decide) zd_14_23_51 rfl rfl ?_
            refine zz_iload_n (x := 0) rfl zd_14_23_102 ?_
            exact zz_zret zd_14_23_103 rfl (by omega) (Nat.zero_le _) (Nat.zero_le _) ⟨_, _, rfl, rfl, by omega⟩
          by_cases c15 : p1 = 10
          · refine zz_swIn 10 53 c15 (by decide) zd_14_23_51 rfl rfl ?_
            refine zz_iload_n (x := 1) rfl zd_14_23_104 ?_
            refine zz_if_ne (by omega) zd_14_23_105 (fun c16 => ?_) (fun c16 => ?_)
            · refine zz_iconst zd_14_23_113 ?_
              refine zz_goto zd_14_23_114 ?_
              exact zz_zret zd_14_23_118 rfl (by omega) (Nat.zero_le _) (Nat.zero_le _) ⟨_, _, rfl, rfl, by omega⟩
            · exfalso; omega
          refine zz_swOut (by omega) (by omega) zd_14_23_51 rfl ?_
          refine zz_iload_n (x := 0) rfl zd_14_23_119 ?_
          refine zz_if_ne (by omega) zd_14_23_120 (fun c18 => ?_) (fun c18 => ?_)
          · exfalso; omega
          · refine zz_iload_n (x := p0) rfl zd_14_23_123 ?_
            refine zz_bipush (by decide) zd_14_23_124 ?_
            refine zz_icmp_ne (by omega) (by omega) zd_14_23_126 (fun c19 => ?_) (fun c19 => ?_)
            · refine zz_iconst zd_14_23_133 ?_
              exact zz_zret zd_14_23_134 rfl (by omega) (Nat.zero_le _) (Nat.zero_le _) ⟨_, _, rfl, rfl, by omega⟩
            · exfalso; omega
        · exfalso; omega
  · refine zz_iload_n (x := p0) rfl zd_14_23_5 ?_
    refine zz_iconst zd_14_23_6 ?_
    refine zz_icmp_eq (by omega) (by omega) zd_14_23_7 (fun c20 => ?_) (fun c20 => ?_)
    · refine zz_iconst zd_14_23_21 ?_
      refine zz_goto zd_14_23_22 ?_
      refine zz_istore_n [some (zi p0), some (zi p1), some (zi 1)] zd_14_23_26 (by decide) rfl ?_
      refine zz_iload_n (x := p0) rfl zd_14_23_27 ?_
      refine zz_iconst zd_14_23_28 ?_
      refine zz_icmp_eq (by omega) (by omega) zd_14_23_29 (fun c21 => ?_) (fun c21 => ?_)
      · exfalso; omega
      · refine zz_iload_n (x := p0) rfl zd_14_23_32 ?_
        refine zz_bipush (by decide) zd_14_23_33 ?_
        refine zz_icmp_eq (by omega) (by omega) zd_14_23_35 (fun c22 => ?_) (fun c22 => ?_)
        · exfalso; omega
        · refine zz_iload_n (x := p0) rfl zd_14_23_38 ?_
          refine zz_bipush (by decide) zd_14_23_39 ?_
          refine zz_icmp_ne (by omega) (by omega) zd_14_23_41 (fun c23 => ?_) (fun c23 => ?_)
          · refine zz_iconst zd_14_23_48 ?_
            refine zz_istore_n [some (zi p0), some (zi p1), some (zi 1), some (zi 0)] zd_14_23_49 (by decide) rfl ?_
            refine zz_iload_n (x := p1) rfl zd_14_23_50 ?_
            by_cases c24 : p1 = 5
            · refine zz_swIn 5 37 c24 (by decide) zd_14_23_51 rfl rfl ?_
              refine zz_iload_n (x := 1) rfl zd_14_23_88 ?_
              exact zz_zret zd_14_23_89 rfl (by omega) (Nat.zero_le _) (Nat.zero_le _) ⟨_, _, rfl, rfl, by omega⟩
            by_cases c25 : p1 = 6
            · refine zz_swIn 6 68 c25 (by decide) zd_14_23_51 rfl rfl ?_
              refine zz_iload_n (x := 0) rfl zd_14_23_119 ?_
              refine zz_if_ne (by omega) zd_14_23_120 (fun c26 => ?_) (fun c26 => ?_)
              · exfalso; omega
              · refine zz_iload_n (x := p0) rfl zd_14_23_123 ?_
                refine zz_bipush (by decide) zd_14_23_124 ?_
                refine zz_icmp_ne (by omega) (by omega) zd_14_23_126 (fun c27 => ?_) (fun c27 => ?_)
                · refine zz_iconst zd_14_23_133 ?_
                  exact zz_zret zd_14_23_134 rfl (by omega) (Nat.zero_le _) (Nat.zero_le _) ⟨_, _, rfl, rfl, by omega⟩
                · exfalso; omega
            by_cases c28 : p1 = 7
            · refine zz_swIn 7 68 c28 (by decide) zd_14_23_51 rfl rfl ?_
              refine zz_iload_n (x := 0) rfl zd_14_23_119 ?_
              refine zz_if_ne (by omega) zd_14_23_120 (fun c29 => ?_) (fun c29 => ?_)
              · exfalso; omega
              · refine zz_iload_n (x := p0) rfl zd_14_23_123 ?_
                refine zz_bipush (by decide) zd_14_23_124 ?_
                refine zz_icmp_ne (by omega) (by omega) zd_14_23_126 (fun c30 => ?_) (fun c30 => ?_)
                · refine zz_iconst zd_14_23_133 ?_
                  exact zz_zret zd_14_23_134 rfl (by omega) (Nat.zero_le _) (Nat.zero_le _) ⟨_, _, rfl, rfl, by omega⟩
                · exfalso; omega
            by_cases c31 : p1 = 8
            · refine zz_swIn 8 39 c31 (by decide) zd_14_23_51 rfl rfl ?_
              refine zz_iload_n (x := p0) rfl zd_14_23_90 ?_
              refine zz_bipush (by decide) zd_14_23_91 ?_
              refine zz_icmp_eq (by omega) (by omega) zd_14_23_93 (fun c32 => ?_) (fun c32 => ?_)
              · exfalso; omega
              · refine zz_iconst zd_14_23_96 ?_
                refine zz_goto zd_14_23_97 ?_
                exact zz_zret zd_14_23_101 rfl (by omega) (Nat.zero_le _) (Nat.zero_le _) ⟨_, _, rfl, rfl, by omega⟩
            by_cases c33 : p1 = 9
            · refine zz_swIn 9 51 c33 (by decide) zd_14_23_51 rfl rfl ?_
              refine zz_iload_n (x := 0) rfl zd_14_23_102 ?_
              exact zz_zret zd_14_23_103 rfl (by omega) (Nat.zero_le _) (Nat.zero_le _) ⟨_, _, rfl, rfl, by omega⟩
            by_cases c34 : p1 = 10
            · refine zz_swIn 10 53 c34 (by decide) zd_14_23_51 rfl rfl ?_
              refine zz_iload_n (x := 1) rfl zd_14_23_104 ?_
              refine zz_if_ne (by omega) zd_14_23_105 (fun c35 => ?_) (fun c35 => ?_)
              · refine zz_iconst zd_14_23_113 ?_
                refine zz_goto zd_14_23_114 ?_
                exact zz_zret zd_14_23_118 rfl (by omega) (Nat.zero_le _) (Nat.zero_le _) ⟨_, _, rfl, rfl, by omega⟩
              · exfalso; omega
            refine zz_swOut (by omega) (by omega) zd_14_23_51 rfl ?_
            refine zz_iload_n (x := 0) rfl zd_14_23_119 ?_
            refine zz_if_ne (by omega) zd_14_23_120 (fun c37 => ?_) (fun c37 => ?_)
            · exfalso; omega
            · refine zz_iload_n (x := p0) rfl zd_14_23_123 ?_
              refine zz_bipush (by decide) zd_14_23_124 ?_
              refine zz_icmp_ne (by omega) (by omega) zd_14_23_126 (fun c38 => ?_) (fun c38 => ?_)
              · refine zz_iconst zd_14_23_133 ?_
                exact zz_zret zd_14_23_134 rfl (by omega) (Nat.zero_le _) (Nat.zero_le _) ⟨_, _, rfl, rfl, by omega⟩
              · exfalso; omega
          · exfalso; omega
    · refine zz_iload_n (x := p0) rfl zd_14_23_10 ?_
      refine zz_iconst zd_14_23_11 ?_
      refine zz_icmp_eq (by omega) (by omega) zd_14_23_12 (fun c39 => ?_) (fun c39 => ?_)
      · refine zz_iconst zd_14_23_21 ?_
        refine zz_goto zd_14_23_22 ?_
        refine zz_istore_n [some (zi p0), some (zi p1), some (zi 1)] zd_14_23_26 (by decide) rfl ?_
        refine zz_iload_n (x := p0) rfl zd_14_23_27 ?_
        refine zz_iconst zd_14_23_28 ?_
        refine zz_icmp_eq (by omega) (by omega) zd_14_23_29 (fun c40 => ?_) (fun c40 => ?_)
        · exfalso; omega
        · refine zz_iload_n (x := p0) rfl zd_14_23_32 ?_
          refine zz_bipush (by decide) zd_14_23_33 ?_
          refine zz_icmp_eq (by omega) (by omega) zd_14_23_35 (fun c41 => ?_) (fun c41 => ?_)
          · exfalso; omega
          · refine zz_iload_n (x := p0) rfl zd_14_23_38 ?_
            refine zz_bipush (by decide) zd_14_23_39 ?_
            refine zz_icmp_ne (by omega) (by omega) zd_14_23_41 (fun c42 => ?_) (fun c42 => ?_)
            · refine zz_iconst zd_14_23_48 ?_
              refine zz_istore_n [some (zi p0), some (zi p1), some (zi 1), some (zi 0)] zd_14_23_49 (by decide) rfl ?_
              refine zz_iload_n (x := p1) rfl zd_14_23_50 ?_
              by_cases c43 : p1 = 5
              · refine zz_swIn 5 37 c43 (by decide) zd_14_23_51 rfl rfl ?_
                refine zz_iload_n (x := 1) rfl zd_14_23_88 ?_
                exact zz_zret zd_14_23_89 rfl (by omega) (Nat.zero_le _) (Nat.zero_le _) ⟨_, _, rfl, rfl, by omega⟩
              by_cases c44 : p1 = 6
              · refine zz_swIn 6 68 c44 (by decide) zd_14_23_51 rfl rfl ?_
                refine zz_iload_n (x := 0) rfl zd_14_23_119 ?_
                refine zz_if_ne (by omega) zd_14_23_120 (fun c45 => ?_) (fun c45 => ?_)
                · exfalso; omega
                · refine zz_iload_n (x := p0) rfl zd_14_23_123 ?_
                  refine zz_bipush (by decide) zd_14_23_124 ?_
                  refine zz_icmp_ne (by omega) (by omega) zd_14_23_126 (fun c46 => ?_) (fun c46 => ?_)
                  · refine zz_iconst zd_14_23_133 ?_
                    exact zz_zret zd_14_23_134 rfl (by omega) (Nat.zero_le _) (Nat.zero_le _) ⟨_, _, rfl, rfl, by omega⟩
                  · exfalso; omega
              by_cases c47 : p1 = 7
              · refine zz_swIn 7 68 c47 (by decide) zd_14_23_51 rfl rfl ?_
                refine zz_iload_n (x := 0) rfl zd_14_23_119 ?_
                refine zz_if_ne (by omega) zd_14_23_120 (fun c48 => ?_) (fun c48 => ?_)
                · exfalso; omega
                · refine zz_iload_n (x := p0) rfl zd_14_23_123 ?_
                  refine zz_bipush (by decide) zd_14_23_124 ?_
                  refine zz_icmp_ne (by omega) (by omega) zd_14_23_126 (fun c49 => ?_) (fun c49 => ?_)
                  · refine zz_iconst zd_14_23_133 ?_
                    exact zz_zret zd_14_23_134 rfl (by omega) (Nat.zero_le _) (Nat.zero_le _) ⟨_, _, rfl, rfl, by omega⟩
                  · exfalso; omega
              by_cases c50 : p1 = 8
              · refine zz_swIn 8 39 c50 (by decide) zd_14_23_51 rfl rfl ?_
                refine zz_iload_n (x := p0) rfl zd_14_23_90 ?_
                refine zz_bipush (by decide) zd_14_23_91 ?_
                refine zz_icmp_eq (by omega) (by omega) zd_14_23_93 (fun c51 => ?_) (fun c51 => ?_)
                · exfalso; omega
                · refine zz_iconst zd_14_23_96 ?_
                  refine zz_goto zd_14_23_97 ?_
                  exact zz_zret zd_14_23_101 rfl (by omega) (Nat.zero_le _) (Nat.zero_le _) ⟨_, _, rfl, rfl, by omega⟩
              by_cases c52 : p1 = 9
              · refine zz_swIn 9 51 c52 (by decide) zd_14_23_51 rfl rfl ?_
                refine zz_iload_n (x := 0) rfl zd_14_23_102 ?_
                exact zz_zret zd_14_23_103 rfl (by omega) (Nat.zero_le _) (Nat.zero_le _) ⟨_, _, rfl, rfl, by omega⟩
              by_cases c53 : p1 = 10
              · refine zz_swIn 10 53 c53 (by decide) zd_14_23_51 rfl rfl ?_
                refine zz_iload_n (x := 1) rfl zd_14_23_104 ?_
                refine zz_if_ne (by omega) zd_14_23_105 (fun c54 => ?_) (fun c54 => ?_)
                · refine zz_iconst zd_14_23_113 ?_
                  refine zz_goto zd_14_23_114 ?_
                  exact zz_zret zd_14_23_118 rfl (by omega) (Nat.zero_le _) (Nat.zero_le _) ⟨_, _, rfl, rfl, by omega⟩
                · exfalso; omega
              refine zz_swOut (by omega) (by omega) zd_14_23_51 rfl ?_
              refine zz_iload_n (x := 0) rfl zd_14_23_119 ?_
              refine zz_if_ne (by omega) zd_14_23_120 (fun c56 => ?_) (fun c56 => ?_)
              · exfalso; omega
              · refine zz_iload_n (x := p0) rfl zd_14_23_123 ?_
                refine zz_bipush (by decide) zd_14_23_124 ?_
                refine zz_icmp_ne (by omega) (by omega) zd_14_23_126 (fun c57 => ?_) (fun c57 => ?_)
                · refine zz_iconst zd_14_23_133 ?_
                  exact zz_zret zd_14_23_134 rfl (by omega) (Nat.zero_le _) (Nat.zero_le _) ⟨_, _, rfl, rfl, by omega⟩
                · exfalso; omega
            · exfalso; omega
      · refine zz_iload_n (x := p0) rfl zd_14_23_15 ?_
        refine zz_bipush (by decide) zd_14_23_16 ?_
        refine zz_icmp_ne (by omega) (by omega) zd_14_23_18 (fun c58 => ?_) (fun c58 => ?_)
        · refine zz_iconst zd_14_23_25 ?_
          refine zz_istore_n [some (zi p0), some (zi p1), some (zi 0)] zd_14_23_26 (by decide) rfl ?_
          refine zz_iload_n (x := p0) rfl zd_14_23_27 ?_
          refine zz_iconst zd_14_23_28 ?_
          refine zz_icmp_eq (by omega) (by omega) zd_14_23_29 (fun c59 => ?_) (fun c59 => ?_)
          · refine zz_iconst zd_14_23_44 ?_
            refine zz_goto zd_14_23_45 ?_
            refine zz_istore_n [some (zi p0), some (zi p1), some (zi 0), some (zi 1)] zd_14_23_49 (by decide) rfl ?_
            refine zz_iload_n (x := p1) rfl zd_14_23_50 ?_
            by_cases c60 : p1 = 5
            · refine zz_swIn 5 37 c60 (by decide) zd_14_23_51 rfl rfl ?_
              refine zz_iload_n (x := 0) rfl zd_14_23_88 ?_
              exact zz_zret zd_14_23_89 rfl (by omega) (Nat.zero_le _) (Nat.zero_le _) ⟨_, _, rfl, rfl, by omega⟩
            by_cases c61 : p1 = 6
            · refine zz_swIn 6 68 c61 (by decide) zd_14_23_51 rfl rfl ?_
              refine zz_iload_n (x := 1) rfl zd_14_23_119 ?_
              refine zz_if_ne (by omega) zd_14_23_120 (fun c62 => ?_) (fun c62 => ?_)
              · refine zz_iconst zd_14_23_129 ?_
                refine zz_goto zd_14_23_130 ?_
                exact zz_zret zd_14_23_134 rfl (by omega) (Nat.zero_le _) (Nat.zero_le _) ⟨_, _, rfl, rfl, by omega⟩
              · exfalso; omega
            by_cases c63 : p1 = 7
            · refine zz_swIn 7 68 c63 (by decide) zd_14_23_51 rfl rfl ?_
              refine zz_iload_n (x := 1) rfl zd_14_23_119 ?_
              refine zz_if_ne (by omega) zd_14_23_120 (fun c64 => ?_) (fun c64 => ?_)
              · refine zz_iconst zd_14_23_129 ?_
                refine zz_goto zd_14_23_130 ?_
                exact zz_zret zd_14_23_134 rfl (by omega) (Nat.zero_le _) (Nat.zero_le _) ⟨_, _, rfl, rfl, by omega⟩
              · exfalso; omega
            by_cases c65 : p1 = 8
            · refine zz_swIn 8 39 c65 (by decide) zd_14_23_51 rfl rfl ?_
              refine zz_iload_n (x := p0) rfl zd_14_23_90 ?_
              refine zz_bipush (by decide) zd_14_23_91 ?_
              refine zz_icmp_eq (by omega) (by omega) zd_14_23_93 (fun c66 => ?_) (fun c66 => ?_)
              · exfalso; omega
              · refine zz_iconst zd_14_23_96 ?_
                refine zz_goto zd_14_23_97 ?_
                exact zz_zret zd_14_23_101 rfl (by omega) (Nat.zero_le _) (Nat.zero_le _) ⟨_, _, rfl, rfl, by omega⟩
            by_cases c67 : p1 = 9
            · refine zz_swIn 9 51 c67 (by decide) zd_14_23_51 rfl rfl ?_
              refine zz_iload_n (x := 1) rfl zd_14_23_102 ?_
              exact zz_zret zd_14_23_103 rfl (by omega) (Nat.zero_le _) (Nat.zero_le _) ⟨_, _, rfl, rfl, by omega⟩
            by_cases c68 : p1 = 10
            · refine zz_swIn 10 53 c68 (by decide) zd_14_23_51 rfl rfl ?_
              refine zz_iload_n (x := 0) rfl zd_14_23_104 ?_
              refine zz_if_ne (by omega) zd_14_23_105 (fun c69 => ?_) (fun c69 => ?_)
              · exfalso; omega
              · refine zz_iload_n (x := p0) rfl zd_14_23_108 ?_
                refine zz_iconst zd_14_23_109 ?_
                refine zz_icmp_ne (by omega) (by omega) zd_14_23_110 (fun c70 => ?_) (fun c70 => ?_)
                · exfalso; omega
                · refine zz_iconst zd_14_23_113 ?_
                  refine zz_goto zd_14_23_114 ?_
                  exact zz_zret zd_14_23_118 rfl (by omega) (Nat.zero_le _) (Nat.zero_le _) ⟨_, _, rfl, rfl, by omega⟩
            refine zz_swOut (by omega) (by omega) zd_14_23_51 rfl ?_
            refine zz_iload_n (x := 1) rfl zd_14_23_119 ?_
            refine zz_if_ne (by omega) zd_14_23_120 (fun c72 => ?_) (fun c72 => ?_)
            · refine zz_iconst zd_14_23_129 ?_
              refine zz_goto zd_14_23_130 ?_
              exact zz_zret zd_14_23_134 rfl (by omega) (Nat.zero_le _) (Nat.zero_le _) ⟨_, _, rfl, rfl, by omega⟩
            · exfalso; omega
          · refine zz_iload_n (x := p0) rfl zd_14_23_32 ?_
            refine zz_bipush (by decide) zd_14_23_33 ?_
            refine zz_icmp_eq (by omega) (by omega) zd_14_23_35 (fun c73 => ?_) (fun c73 => ?_)
            · refine zz_iconst zd_14_23_44 ?_
              refine zz_goto zd_14_23_45 ?_
              refine zz_istore_n [some (zi p0), some (zi p1), some (zi 0), some (zi 1)] zd_14_23_49 (by decide) rfl ?_
              refine zz_iload_n (x := p1) rfl zd_14_23_50 ?_
              by_cases c74 : p1 = 5
              · refine zz_swIn 5 37 c74 (by decide) zd_14_23_51 rfl rfl ?_
                refine zz_iload_n (x := 0) rfl zd_14_23_88 ?_
                exact zz_zret zd_14_23_89 rfl (by omega) (Nat.zero_le _) (Nat.zero_le _) ⟨_, _, rfl, rfl, by omega⟩
              by_cases c75 : p1 = 6
              · refine zz_swIn 6 68 c75 (by decide) zd_14_23_51 rfl rfl ?_
                refine zz_iload_n (x := 1) rfl zd_14_23_119 ?_
                refine zz_if_ne (by omega) zd_14_23_120 (fun c76 => ?_) (fun c76 => ?_)
                · refine zz_iconst zd_14_23_129 ?_
                  refine zz_goto zd_14_23_130 ?_
                  exact zz_zret zd_14_23_134 rfl (by omega) (Nat.zero_le _) (Nat.zero_le _) ⟨_, _, rfl, rfl, by omega⟩
                · exfalso; omega
              by_cases c77 : p1 = 7
              · refine zz_swIn 7 68 c77 (by decide) zd_14_23_51 rfl rfl ?_
                refine zz_iload_n (x := 1) rfl zd_14_23_119 ?_
                refine zz_if_ne (by omega) zd_14_23_120 (fun c78 => ?_) (fun c78 => ?_)
                · refine zz_iconst zd_14_23_129 ?_
                  refine zz_goto zd_14_23_130 ?_
                  exact zz_zret zd_14_23_134 rfl (by omega) (Nat.zero_le _) (Nat.zero_le _) ⟨_, _, rfl, rfl, by omega⟩
                · exfalso; omega
              by_cases c79 : p1 = 8
              · refine zz_swIn 8 39 c79 (by decide) zd_14_23_51 rfl rfl ?_
                refine zz_iload_n (x := p0) rfl zd_14_23_90 ?_
                refine zz_bipush (by decide) zd_14_23_91 ?_
                refine zz_icmp_eq (by omega) (by omega) zd_14_23_93 (fun c80 => ?_) (fun c80 => ?_)
                · exfalso; omega
                · refine zz_iconst zd_14_23_96 ?_
                  refine zz_goto zd_14_23_97 ?_
                  exact zz_zret zd_14_23_101 rfl (by omega) (Nat.zero_le _) (Nat.zero_le _) ⟨_, _, rfl, rfl, by omega⟩
              by_cases c81 : p1 = 9
              · refine zz_swIn 9 51 c81 (by decide) zd_14_23_51 rfl rfl ?_
                refine zz_iload_n (x := 1) rfl zd_14_23_102 ?_
                exact zz_zret zd_14_23_103 rfl (by omega) (Nat.zero_le _) (Nat.zero_le _) ⟨_, _, rfl, rfl, by omega⟩
              by_cases c82 : p1 = 10
              · refine zz_swIn 10 53 c82 (by decide) zd_14_23_51 rfl rfl ?_
                refine zz_iload_n (x := 0) rfl zd_14_23_104 ?_
                refine zz_if_ne (by omega) zd_14_23_105 (fun c83 => ?_) (fun c83 => ?_)
                · exfalso; omega
                · refine zz_iload_n (x := p0) rfl zd_14_23_108 ?_
                  refine zz_iconst zd_14_23_109 ?_
                  refine zz_icmp_ne (by omega) (by omega) zd_14_23_110 (fun c84 => ?_) (fun c84 => ?_)
                  · refine zz_iconst zd_14_23_117 ?_
                    exact zz_zret zd_14_23_118 rfl (by omega) (Nat.zero_le _) (Nat.zero_le _) ⟨_, _, rfl, rfl, by omega⟩
                  · exfalso; omega
              refine zz_swOut (by omega) (by omega) zd_14_23_51 rfl ?_
              refine zz_iload_n (x := 1) rfl zd_14_23_119 ?_
              refine zz_if_ne (by omega) zd_14_23_120 (fun c86 => ?_) (fun c86 => ?_)
              · refine zz_iconst zd_14_23_129 ?_
                refine zz_goto zd_14_23_130 ?_
                exact zz_zret zd_14_23_134 rfl (by omega) (Nat.zero_le _) (Nat.zero_le _) ⟨_, _, rfl, rfl, by omega⟩
              · exfalso; omega
            · refine zz_iload_n (x := p0) rfl zd_14_23_38 ?_
              refine zz_bipush (by decide) zd_14_23_39 ?_
              refine zz_icmp_ne (by omega) (by omega) zd_14_23_41 (fun c87 => ?_) (fun c87 => ?_)
              · refine zz_iconst zd_14_23_48 ?_
                refine zz_istore_n [some (zi p0), some (zi p1), some (zi 0), some (zi 0)] zd_14_23_49 (by decide) rfl ?_
                refine zz_iload_n (x := p1) rfl zd_14_23_50 ?_
                by_cases c88 : p1 = 5
                · refine zz_swIn 5 37 c88 (by decide) zd_14_23_51 rfl rfl ?_
                  refine zz_iload_n (x := 0) rfl zd_14_23_88 ?_
                  exact zz_zret zd_14_23_89 rfl (by omega) (Nat.zero_le _) (Nat.zero_le _) ⟨_, _, rfl, rfl, by omega⟩
                by_cases c89 : p1 = 6
                · refine zz_swIn 6 68 c89 (by decide) zd_14_23_51 rfl rfl ?_
                  refine zz_iload_n (x := 0) rfl zd_14_23_119 ?_
                  refine zz_if_ne (by omega) zd_14_23_120 (fun c90 => ?_) (fun c90 => ?_)
                  · exfalso; omega
                  · refine zz_iload_n (x := p0) rfl zd_14_23_123 ?_
                    refine zz_bipush (by decide) zd_14_23_124 ?_
                    refine zz_icmp_ne (by omega) (by omega) zd_14_23_126 (fun c91 => ?_) (fun c91 => ?_)
                    · refine zz_iconst zd_14_23_133 ?_
                      exact zz_zret zd_14_23_134 rfl (by omega) (Nat.zero_le _) (Nat.zero_le _) ⟨_, _, rfl, rfl, by omega⟩
                    · refine zz_iconst zd_14_23_129 ?_
                      refine zz_goto zd_14_23_130 ?_
                      exact zz_zret zd_14_23_134 rfl (by omega) (Nat.zero_le _) (Nat.zero_le _) ⟨_, _, rfl, rfl, by omega⟩
                by_cases c92 : p1 = 7
                · refine zz_swIn 7 68 c92 (by decide) zd_14_23_51 rfl rfl ?_
                  refine zz_iload_n (x := 0) rfl zd_14_23_119 ?_
                  refine zz_if_ne (by omega) zd_14_23_120 (fun c93 => ?_) (fun c93 => ?_)
                  · exfalso; omega
                  · refine zz_iload_n (x := p0) rfl zd_14_23_123 ?_
                    refine zz_bipush (by decide) zd_14_23_124 ?_
                    refine zz_icmp_ne (by omega) (by omega) zd_14_23_126 (fun c94 => ?_) (fun c94 => ?_)
                    · refine zz_iconst zd_14_23_133 ?_
                      exact zz_zret zd_14_23_134 rfl (by omega) (Nat.zero_le _) (Nat.zero_le _) ⟨_, _, rfl, rfl, by omega⟩
                    · refine zz_iconst zd_14_23_129 ?_
                      refine zz_goto zd_14_23_130 ?_
                      exact zz_zret zd_14_23_134 rfl (by omega) (Nat.zero_le _) (Nat.zero_le _) ⟨_, _, rfl, rfl, by omega⟩
                by_cases c95 : p1 = 8
                · refine zz_swIn 8 39 c95 (by decide) zd_14_23_51 rfl rfl ?_
                  refine zz_iload_n (x := p0) rfl zd_14_23_90 ?_
                  refine zz_bipush (by decide) zd_14_23_91 ?_
                  refine zz_icmp_eq (by omega) (by omega) zd_14_23_93 (fun c96 => ?_) (fun c96 => ?_)
                  · refine zz_iconst zd_14_23_100 ?_
                    exact zz_zret zd_14_23_101 rfl (by omega) (Nat.zero_le _) (Nat.zero_le _) ⟨_, _, rfl, rfl, by omega⟩
                  · refine zz_iconst zd_14_23_96 ?_
                    refine zz_goto zd_14_23_97 ?_
                    exact zz_zret zd_14_23_101 rfl (by omega) (Nat.zero_le _) (Nat.zero_le _) ⟨_, _, rfl, rfl, by omega⟩
                by_cases c97 : p1 = 9
                · refine zz_swIn 9 51 c97 (by decide) zd_14_23_51 rfl rfl ?_
                  refine zz_iload_n (x := 0) rfl zd_14_23_102 ?_
                  exact zz_zret zd_14_23_103 rfl (by omega) (Nat.zero_le _) (Nat.zero_le _) ⟨_, _, rfl, rfl, by omega⟩
                by_cases c98 : p1 = 10
                · refine zz_swIn 10 53 c98 (by decide) zd_14_23_51 rfl rfl ?_
                  refine zz_iload_n (x := 0) rfl zd_14_23_104 ?_
                  refine zz_if_ne (by omega) zd_14_23_105 (fun c99 => ?_) (fun c99 => ?_)
                  · exfalso; omega
                  · refine zz_iload_n (x := p0) rfl zd_14_23_108 ?_
                    refine zz_iconst zd_14_23_109 ?_
                    refine zz_icmp_ne (by omega) (by omega) zd_14_23_110 (fun c100 => ?_) (fun c100 => ?_)
                    · refine zz_iconst zd_14_23_117 ?_
                      exact zz_zret zd_14_23_118 rfl (by omega) (Nat.zero_le _) (Nat.zero_le _) ⟨_, _, rfl, rfl, by omega⟩
                    · refine zz_iconst zd_14_23_113 ?_
                      refine zz_goto zd_14_23_114 ?_
                      exact zz_zret zd_14_23_118 rfl (by omega) (Nat.zero_le _) (Nat.zero_le _) ⟨_, _, rfl, rfl, by omega⟩
                refine zz_swOut (by omega) (by omega) zd_14_23_51 rfl ?_
                refine zz_iload_n (x := 0) rfl zd_14_23_119 ?_
                refine zz_if_ne (by omega) zd_14_23_120 (fun c102 => ?_) (fun c102 => ?_)
                · exfalso; omega
                · refine zz_iload_n (x := p0) rfl zd_14_23_123 ?_
                  refine zz_bipush (by decide) zd_14_23_124 ?_
                  refine zz_icmp_ne (by omega) (by omega) zd_14_23_126 (fun c103 => ?_) (fun c103 => ?_)
                  · refine zz_iconst zd_14_23_133 ?_
                    exact zz_zret zd_14_23_134 rfl (by omega) (Nat.zero_le _) (Nat.zero_le _) ⟨_, _, rfl, rfl, by omega⟩
                  · refine zz_iconst zd_14_23_129 ?_
                    refine zz_goto zd_14_23_130 ?_
                    exact zz_zret zd_14_23_134 rfl (by omega) (Nat.zero_le _) (Nat.zero_le _) ⟨_, _, rfl, rfl, by omega⟩
              · refine zz_iconst zd_14_23_44 ?_
                refine zz_goto zd_14_23_45 ?_
                refine zz_istore_n [some (zi p0), some (zi p1), some (zi 0), some (zi 1)] zd_14_23_49 (by decide) rfl ?_
                refine zz_iload_n (x := p1) rfl zd_14_23_50 ?_
                by_cases c104 : p1 = 5
                · refine zz_swIn 5 37 c104 (by decide) zd_14_23_51 rfl rfl ?_
                  refine zz_iload_n (x := 0) rfl zd_14_23_88 ?_
                  exact zz_zret zd_14_23_89 rfl (by omega) (Nat.zero_le _) (Nat.zero_le _) ⟨_, _, rfl, rfl, by omega⟩
                by_cases c105 : p1 = 6
                · refine zz_swIn 6 68 c105 (by decide) zd_14_23_51 rfl rfl ?_
                  refine zz_iload_n (x := 1) rfl zd_14_23_119 ?_
                  refine zz_if_ne (by omega) zd_14_23_120 (fun c106 => ?_) (fun c106 => ?_)
                  · refine zz_iconst zd_14_23_129 ?_
                    refine zz_goto zd_14_23_130 ?_
                    exact zz_zret zd_14_23_134 rfl (by omega) (Nat.zero_le _) (Nat.zero_le _) ⟨_, _, rfl, rfl, by omega⟩
                  · exfalso; omega
                by_cases c107 : p1 = 7
                · refine zz_swIn 7 68 c107 (by decide) zd_14_23_51 rfl rfl ?_
                  refine zz_iload_n (x := 1) rfl zd_14_23_119 ?_
                  refine zz_if_ne (by omega) zd_14_23_120 (fun c108 => ?_) (fun c108 => ?_)
                  · refine zz_iconst zd_14_23_129 ?_
                    refine zz_goto zd_14_23_130 ?_
                    exact zz_zret zd_14_23_134 rfl (by omega) (Nat.zero_le _) (Nat.zero_le _) ⟨_, _, rfl, rfl, by omega⟩
                  · exfalso; omega
                by_cases c109 : p1 = 8
                · refine zz_swIn 8 39 c109 (by decide) zd_14_23_51 rfl rfl ?_
                  refine zz_iload_n (x := p0) rfl zd_14_23_90 ?_
                  refine zz_bipush (by decide) zd_14_23_91 ?_
                  refine zz_icmp_eq (by omega) (by omega) zd_14_23_93 (fun c110 => ?_) (fun c110 => ?_)
                  · exfalso; omega
                  · refine zz_iconst zd_14_23_96 ?_
                    refine zz_goto zd_14_23_97 ?_
                    exact zz_zret zd_14_23_101 rfl (by omega) (Nat.zero_le _) (Nat.zero_le _) ⟨_, _, rfl, rfl, by omega⟩
                by_cases c111 : p1 = 9
                · refine zz_swIn 9 51 c111 (by decide) zd_14_23_51 rfl rfl ?_
                  refine zz_iload_n (x := 1) rfl zd_14_23_102 ?_
                  exact zz_zret zd_14_23_103 rfl (by omega) (Nat.zero_le _) (Nat.zero_le _) ⟨_, _, rfl, rfl, by omega⟩
                by_cases c112 : p1 = 10
                · refine zz_swIn 10 53 c112 (by decide) zd_14_23_51 rfl rfl ?_
                  refine zz_iload_n (x := 0) rfl zd_14_23_104 ?_
                  refine zz_if_ne (by omega) zd_14_23_105 (fun c113 => ?_) (fun c113 => ?_)
                  · exfalso; omega
                  · refine zz_iload_n (x := p0) rfl zd_14_23_108 ?_
                    refine zz_iconst zd_14_23_109 ?_
                    refine zz_icmp_ne (by omega) (by omega) zd_14_23_110 (fun c114 => ?_) (fun c114 => ?_)
                    · refine zz_iconst zd_14_23_117 ?_
                      exact zz_zret zd_14_23_118 rfl (by omega) (Nat.zero_le _) (Nat.zero_le _) ⟨_, _, rfl, rfl, by omega⟩
                    · exfalso; omega
                refine zz_swOut (by omega) (by omega) zd_14_23_51 rfl ?_
                refine zz_iload_n (x := 1) rfl zd_14_23_119 ?_
                refine zz_if_ne (by omega) zd_14_23_120 (fun c116 => ?_) (fun c116 => ?_)
                · refine zz_iconst zd_14_23_129 ?_
                  refine zz_goto zd_14_23_130 ?_
                  exact zz_zret zd_14_23_134 rfl (by omega) (Nat.zero_le _) (Nat.zero_le _) ⟨_, _, rfl, rfl, by omega⟩
                · exfalso; omega
        · refine zz_iconst zd_14_23_21 ?_
          refine zz_goto zd_14_23_22 ?_
          refine zz_istore_n [some (zi p0), some (zi p1), some (zi 1)] zd_14_23_26 (by decide) rfl ?_
          refine zz_iload_n (x := p0) rfl zd_14_23_27 ?_
          refine zz_iconst zd_14_23_28 ?_
          refine zz_icmp_eq (by omega) (by omega) zd_14_23_29 (fun c117 => ?_) (fun c117 => ?_)
          · exfalso; omega
          · refine zz_iload_n (x := p0) rfl zd_14_23_32 ?_
            refine zz_bipush (by decide) zd_14_23_33 ?_
            refine zz_icmp_eq (by omega) (by omega) zd_14_23_35 (fun c118 => ?_) (fun c118 => ?_)
            · exfalso; omega
            · refine zz_iload_n (x := p0) rfl zd_14_23_38 ?_
              refine zz_bipush (by decide) zd_14_23_39 ?_
              refine zz_icmp_ne (by omega) (by omega) zd_14_23_41 (fun c119 => ?_) (fun c119 => ?_)
              · refine zz_iconst zd_14_23_48 ?_
                refine zz_istore_n [some (zi p0), some (zi p1), some (zi 1), some (zi 0)] zd_14_23_49 (by decide) rfl ?_
                refine zz_iload_n (x := p1) rfl zd_14_23_50 ?_
                by_cases c120 : p1 = 5
                · refine zz_swIn 5 37 c120 (by decide) zd_14_23_51 rfl rfl ?_
                  refine zz_iload_n (x := 1) rfl zd_14_23_88 ?_
                  exact zz_zret zd_14_23_89 rfl (by omega) (Nat.zero_le _) (Nat.zero_le _) ⟨_, _, rfl, rfl, by omega⟩
                by_cases c121 : p1 = 6
                · refine zz_swIn 6 68 c121 (by decide) zd_14_23_51 rfl rfl ?_
                  refine zz_iload_n (x := 0) rfl zd_14_23_119 ?_
                  refine zz_if_ne (by omega) zd_14_23_120 (fun c122 => ?_) (fun c122 => ?_)
                  · exfalso; omega
                  · refine zz_iload_n (x := p0) rfl zd_14_23_123 ?_
                    refine zz_bipush (by decide) zd_14_23_124 ?_
                    refine zz_icmp_ne (by omega) (by omega) zd_14_23_126 (fun c123 => ?_) (fun c123 => ?_)
                    · refine zz_iconst zd_14_23_133 ?_
                      exact zz_zret zd_14_23_134 rfl (by omega) (Nat.zero_le _) (Nat.zero_le _) ⟨_, _, rfl, rfl, by omega⟩
                    · exfalso; omega
                by_cases c124 : p1 = 7
                · refine zz_swIn 7 68 c124 (by decide) zd_14_23_51 rfl rfl ?_
                  refine zz_iload_n (x := 0) rfl zd_14_23_119 ?_
                  refine zz_if_ne (by omega) zd_14_23_120 (fun c125 => ?_) (fun c125 => ?_)
                  · exfalso; omega
                  · refine zz_iload_n (x := p0) rfl zd_14_23_123 ?_
                    refine zz_bipush (by decide) zd_14_23_124 ?_
                    refine zz_icmp_ne (by omega) (by omega) zd_14_23_126 (fun c126 => ?_) (fun c126 => ?_)
                    · refine zz_iconst zd_14_23_133 ?_
                      exact zz_zret zd_14_23_134 rfl (by omega) (Nat.zero_le _) (Nat.zero_le _) ⟨_, _, rfl, rfl, by omega⟩
                    · exfalso; omega
                by_cases c127 : p1 = 8
                · refine zz_swIn 8 39 c127 (by decide) zd_14_23_51 rfl rfl ?_
                  refine zz_iload_n (x := p0) rfl zd_14_23_90 ?_
                  refine zz_bipush (by decide) zd_14_23_91 ?_
                  refine zz_icmp_eq (by omega) (by omega) zd_14_23_93 (fun c128 => ?_) (fun c128 => ?_)
                  · exfalso; omega
                  · refine zz_iconst zd_14_23_96 ?_
                    refine zz_goto zd_14_23_97 ?_
                    exact zz_zret zd_14_23_101 rfl (by omega) (Nat.zero_le _) (Nat.zero_le _) ⟨_, _, rfl, rfl, by omega⟩
                by_cases c129 : p1 = 9
                · refine zz_swIn 9 51 c129 (by decide) zd_14_23_51 rfl rfl ?_
                  refine zz_iload_n (x := 0) rfl zd_14_23_102 ?_
                  exact zz_zret zd_14_23_103 rfl (by omega) (Nat.zero_le _) (Nat.zero_le _) ⟨_, _, rfl, rfl, by omega⟩
                by_cases c130 : p1 = 10
                · refine zz_swIn 10 53 c130 (by decide) zd_14_23_51 rfl rfl ?_
                  refine zz_iload_n (x := 1) rfl zd_14_23_104 ?_
                  refine zz_if_ne (by omega) zd_14_23_105 (fun c131 => ?_) (fun c131 => ?_)
                  · refine zz_iconst zd_14_23_113 ?_
                    refine zz_goto zd_14_23_114 ?_
                    exact zz_zret zd_14_23_118 rfl (by omega) (Nat.zero_le _) (Nat.zero_le _) ⟨_, _, rfl, rfl, by omega⟩
                  · exfalso; omega
                refine zz_swOut (by omega) (by omega) zd_14_23_51 rfl ?_
                refine zz_iload_n (x := 0) rfl zd_14_23_119 ?_
                refine zz_if_ne (by omega) zd_14_23_120 (fun c133 => ?_) (fun c133 => ?_)
                · exfalso; omega
                · refine zz_iload_n (x := p0) rfl zd_14_23_123 ?_
                  refine zz_bipush (by decide) zd_14_23_124 ?_
                  refine zz_icmp_ne (by omega) (by omega) zd_14_23_126 (fun c134 => ?_) (fun c134 => ?_)
                  · refine zz_iconst zd_14_23_133 ?_
                    exact zz_zret zd_14_23_134 rfl (by omega) (Nat.zero_le _) (Nat.zero_le _) ⟨_, _, rfl, rfl, by omega⟩
                  · exfalso; omega
              · exfalso; omega
abbrev zy_isIllegal_14_24 : mm_Y := (⟨"TensorForgeModel", "isIllegal", "(J)Z"⟩, prog_14_method_24_code, 7, (some .boolean))
theorem zyw_isIllegal_14_24 : mm_Yw zy_isIllegal_14_24 1 := ⟨mm_tb_1 1890 (by decide +kernel) rfl, mm_tb_1 12 (by decide +kernel) rfl, ⟨by decide, by decide⟩, by decide +kernel⟩
theorem zd_14_24_0 : zz_D zy_isIllegal_14_24 0 (.aload_n 0) 1 1 := ⟨by decide +kernel, rfl⟩
theorem zd_14_24_1 : zz_D zy_isIllegal_14_24 1 (.lload_n 1) 1 2 := ⟨by decide +kernel, rfl⟩
theorem zd_14_24_2 : zz_D zy_isIllegal_14_24 2 (.invokevirtual 234) 3 5 := ⟨by decide +kernel, rfl⟩
theorem zk_Md_234 : mm_Vl "TensorForgeModel" 234 11 1 zy_take_14_18 := ⟨zyw_take_14_18, (R_Md, F_Md, 69), rfl, mm_tb_1 1891 (by decide +kernel) rfl, mm_tb_1 1893 (by decide +kernel) rfl, mm_tb_s 89 (by decide +kernel) rfl⟩
theorem zd_14_24_5 : zz_D zy_isIllegal_14_24 5 (.aload_n 0) 1 6 := ⟨by decide +kernel, rfl⟩
theorem zd_14_24_6 : zz_D zy_isIllegal_14_24 6 (.getfield 36) 3 9 := ⟨by decide +kernel, rfl⟩
theorem zd_14_24_9 : zz_D zy_isIllegal_14_24 9 (.iconst 0) 1 10 := ⟨by decide +kernel, rfl⟩
theorem zd_14_24_10 : zz_D zy_isIllegal_14_24 10 (.iaload) 1 11 := ⟨by decide +kernel, rfl⟩
theorem zd_14_24_11 : zz_D zy_isIllegal_14_24 11 (.istore_n 3) 1 12 := ⟨by decide +kernel, rfl⟩
theorem zd_14_24_12 : zz_D zy_isIllegal_14_24 12 (.iload_n 3) 1 13 := ⟨by decide +kernel, rfl⟩
theorem zd_14_24_13 : zz_D zy_isIllegal_14_24 13 (.i2l) 1 14 := ⟨by decide +kernel, rfl⟩
theorem zd_14_24_14 : zz_D zy_isIllegal_14_24 14 (.lconst 1) 1 15 := ⟨by decide +kernel, rfl⟩
theorem zd_14_24_15 : zz_D zy_isIllegal_14_24 15 (.ldc2_w 238) 3 18 := ⟨by decide +kernel, rfl⟩
theorem zq_Md_238 : Cond.constantLong "TensorForgeModel" 238 (9 : Int64) ∈ mm_tb := mm_tb_1 1895 (by decide +kernel) rfl
theorem zd_14_24_18 : zz_D zy_isIllegal_14_24 18 (.invokestatic 192) 3 21 := ⟨by decide +kernel, rfl⟩
theorem zd_14_24_21 : zz_B zy_isIllegal_14_24 21 (Instr.ifCond .ne) 26 24 := ⟨5, by decide +kernel, rfl, rfl⟩
theorem zd_14_24_24 : zz_D zy_isIllegal_14_24 24 (.iconst 1) 1 25 := ⟨by decide +kernel, rfl⟩
theorem zd_14_24_25 : zz_D zy_isIllegal_14_24 25 (.ireturn) 1 26 := ⟨by decide +kernel, rfl⟩
theorem zd_14_24_26 : zz_D zy_isIllegal_14_24 26 (.iload_n 3) 1 27 := ⟨by decide +kernel, rfl⟩
theorem zd_14_24_27 : zz_D zy_isIllegal_14_24 27 (.bipush 9) 2 29 := ⟨by decide +kernel, rfl⟩
theorem zd_14_24_29 : zz_B zy_isIllegal_14_24 29 (Instr.if_icmp .ne) 71 32 := ⟨42, by decide +kernel, rfl, rfl⟩
theorem zd_14_24_71 : zz_D zy_isIllegal_14_24 71 (.aload_n 0) 1 72 := ⟨by decide +kernel, rfl⟩
theorem zd_14_24_72 : zz_D zy_isIllegal_14_24 72 (.getfield 36) 3 75 := ⟨by decide +kernel, rfl⟩
theorem zd_14_24_75 : zz_D zy_isIllegal_14_24 75 (.bipush 6) 2 77 := ⟨by decide +kernel, rfl⟩
theorem zd_14_24_77 : zz_D zy_isIllegal_14_24 77 (.iaload) 1 78 := ⟨by decide +kernel, rfl⟩
theorem zd_14_24_78 : zz_B zy_isIllegal_14_24 78 (Instr.ifCond .eq) 105 81 := ⟨27, by decide +kernel, rfl, rfl⟩
theorem zd_14_24_105 : zz_D zy_isIllegal_14_24 105 (.iconst 1) 1 106 := ⟨by decide +kernel, rfl⟩
theorem zd_14_24_106 : zz_B zy_isIllegal_14_24 106 Instr.goto 110 109 := ⟨4, by decide +kernel, rfl, rfl⟩
theorem zd_14_24_110 : zz_D zy_isIllegal_14_24 110 (.istore 4) 2 112 := ⟨by decide +kernel, rfl⟩
theorem zd_14_24_112 : zz_D zy_isIllegal_14_24 112 (.iconst 5) 1 113 := ⟨by decide +kernel, rfl⟩
theorem zd_14_24_113 : zz_D zy_isIllegal_14_24 113 (.istore 5) 2 115 := ⟨by decide +kernel, rfl⟩
theorem zd_14_24_81 : zz_D zy_isIllegal_14_24 81 (.aload_n 0) 1 82 := ⟨by decide +kernel, rfl⟩
theorem zd_14_24_82 : zz_D zy_isIllegal_14_24 82 (.getfield 36) 3 85 := ⟨by decide +kernel, rfl⟩
theorem zd_14_24_85 : zz_D zy_isIllegal_14_24 85 (.bipush 7) 2 87 := ⟨by decide +kernel, rfl⟩
theorem zd_14_24_87 : zz_D zy_isIllegal_14_24 87 (.iaload) 1 88 := ⟨by decide +kernel, rfl⟩
theorem zd_14_24_88 : zz_B zy_isIllegal_14_24 88 (Instr.ifCond .eq) 105 91 := ⟨17, by decide +kernel, rfl, rfl⟩
theorem zd_14_24_91 : zz_D zy_isIllegal_14_24 91 (.aload_n 0) 1 92 := ⟨by decide +kernel, rfl⟩
theorem zd_14_24_92 : zz_D zy_isIllegal_14_24 92 (.getfield 36) 3 95 := ⟨by decide +kernel, rfl⟩
theorem zd_14_24_95 : zz_D zy_isIllegal_14_24 95 (.bipush 7) 2 97 := ⟨by decide +kernel, rfl⟩
theorem zd_14_24_97 : zz_D zy_isIllegal_14_24 97 (.iaload) 1 98 := ⟨by decide +kernel, rfl⟩
theorem zd_14_24_98 : zz_D zy_isIllegal_14_24 98 (.aload_n 0) 1 99 := ⟨by decide +kernel, rfl⟩
theorem zd_14_24_99 : zz_D zy_isIllegal_14_24 99 (.getfield 7) 3 102 := ⟨by decide +kernel, rfl⟩
theorem zd_14_24_102 : zz_B zy_isIllegal_14_24 102 (Instr.if_icmp .le) 109 105 := ⟨7, by decide +kernel, rfl, rfl⟩
theorem zd_14_24_109 : zz_D zy_isIllegal_14_24 109 (.iconst 0) 1 110 := ⟨by decide +kernel, rfl⟩
theorem zd_14_24_32 : zz_D zy_isIllegal_14_24 32 (.aload_n 0) 1 33 := ⟨by decide +kernel, rfl⟩
theorem zd_14_24_33 : zz_D zy_isIllegal_14_24 33 (.getfield 36) 3 36 := ⟨by decide +kernel, rfl⟩
theorem zd_14_24_36 : zz_D zy_isIllegal_14_24 36 (.bipush 6) 2 38 := ⟨by decide +kernel, rfl⟩
theorem zd_14_24_38 : zz_D zy_isIllegal_14_24 38 (.iaload) 1 39 := ⟨by decide +kernel, rfl⟩
theorem zd_14_24_39 : zz_B zy_isIllegal_14_24 39 (Instr.ifCond .gt) 63 42 := ⟨24, by decide +kernel, rfl, rfl⟩
theorem zd_14_24_63 : zz_D zy_isIllegal_14_24 63 (.iconst 1) 1 64 := ⟨by decide +kernel, rfl⟩
theorem zd_14_24_64 : zz_B zy_isIllegal_14_24 64 Instr.goto 110 67 := ⟨46, by decide +kernel, rfl, rfl⟩
theorem zd_14_24_42 : zz_D zy_isIllegal_14_24 42 (.aload_n 0) 1 43 := ⟨by decide +kernel, rfl⟩
theorem zd_14_24_43 : zz_D zy_isIllegal_14_24 43 (.getfield 36) 3 46 := ⟨by decide +kernel, rfl⟩
theorem zd_14_24_46 : zz_D zy_isIllegal_14_24 46 (.bipush 7) 2 48 := ⟨by decide +kernel, rfl⟩
theorem zd_14_24_48 : zz_D zy_isIllegal_14_24 48 (.iaload) 1 49 := ⟨by decide +kernel, rfl⟩
theorem zd_14_24_49 : zz_B zy_isIllegal_14_24 49 (Instr.ifCond .gt) 63 52 := ⟨14, by decide +kernel, rfl, rfl⟩
theorem zd_14_24_52 : zz_D zy_isIllegal_14_24 52 (.aload_n 0) 1 53 := ⟨by decide +kernel, rfl⟩
theorem zd_14_24_53 : zz_D zy_isIllegal_14_24 53 (.getfield 36) 3 56 := ⟨by decide +kernel, rfl⟩
theorem zd_14_24_56 : zz_D zy_isIllegal_14_24 56 (.bipush 11) 2 58 := ⟨by decide +kernel, rfl⟩
theorem zd_14_24_58 : zz_D zy_isIllegal_14_24 58 (.iaload) 1 59 := ⟨by decide +kernel, rfl⟩
theorem zd_14_24_59 : zz_D zy_isIllegal_14_24 59 (.iconst 2) 1 60 := ⟨by decide +kernel, rfl⟩
theorem zd_14_24_60 : zz_B zy_isIllegal_14_24 60 (Instr.if_icmp .le) 67 63 := ⟨7, by decide +kernel, rfl, rfl⟩
theorem zd_14_24_67 : zz_D zy_isIllegal_14_24 67 (.iconst 0) 1 68 := ⟨by decide +kernel, rfl⟩
theorem zd_14_24_68 : zz_B zy_isIllegal_14_24 68 Instr.goto 110 71 := ⟨42, by decide +kernel, rfl, rfl⟩
theorem zd_14_24_115 : zz_D zy_isIllegal_14_24 115 (.iload 5) 2 117 := ⟨by decide +kernel, rfl⟩
theorem zd_14_24_117 : zz_D zy_isIllegal_14_24 117 (.bipush 12) 2 119 := ⟨by decide +kernel, rfl⟩
theorem zd_14_24_119 : zz_B zy_isIllegal_14_24 119 (Instr.if_icmp .ge) 173 122 := ⟨54, by decide +kernel, rfl, rfl⟩
theorem zd_14_24_173 : zz_D zy_isIllegal_14_24 173 (.iload 4) 2 175 := ⟨by decide +kernel, rfl⟩
theorem zd_14_24_175 : zz_B zy_isIllegal_14_24 175 (Instr.ifCond .ne) 222 178 := ⟨47, by decide +kernel, rfl, rfl⟩
theorem zd_14_24_222 : zz_D zy_isIllegal_14_24 222 (.iconst 1) 1 223 := ⟨by decide +kernel, rfl⟩
theorem zd_14_24_223 : zz_B zy_isIllegal_14_24 223 Instr.goto 227 226 := ⟨4, by decide +kernel, rfl, rfl⟩
theorem zd_14_24_227 : zz_D zy_isIllegal_14_24 227 (.istore 4) 2 229 := ⟨by decide +kernel, rfl⟩
theorem zd_14_24_229 : zz_D zy_isIllegal_14_24 229 (.iload 4) 2 231 := ⟨by decide +kernel, rfl⟩
theorem zd_14_24_231 : zz_B zy_isIllegal_14_24 231 (Instr.ifCond .eq) 236 234 := ⟨5, by decide +kernel, rfl, rfl⟩
theorem zd_14_24_234 : zz_D zy_isIllegal_14_24 234 (.iconst 1) 1 235 := ⟨by decide +kernel, rfl⟩
theorem zd_14_24_235 : zz_D zy_isIllegal_14_24 235 (.ireturn) 1 236 := ⟨by decide +kernel, rfl⟩
theorem zd_14_24_178 : zz_D zy_isIllegal_14_24 178 (.iload_n 3) 1 179 := ⟨by decide +kernel, rfl⟩
theorem zd_14_24_179 : zz_D zy_isIllegal_14_24 179 (.iconst 5) 1 180 := ⟨by decide +kernel, rfl⟩
theorem zd_14_24_180 : zz_B zy_isIllegal_14_24 180 (Instr.if_icmp .ne) 205 183 := ⟨25, by decide +kernel, rfl, rfl⟩
theorem zd_14_24_205 : zz_D zy_isIllegal_14_24 205 (.iload_n 3) 1 206 := ⟨by decide +kernel, rfl⟩
theorem zd_14_24_206 : zz_D zy_isIllegal_14_24 206 (.bipush 6) 2 208 := ⟨by decide +kernel, rfl⟩
theorem zd_14_24_208 : zz_B zy_isIllegal_14_24 208 (Instr.if_icmp .ne) 226 211 := ⟨18, by decide +kernel, rfl, rfl⟩
theorem zd_14_24_226 : zz_D zy_isIllegal_14_24 226 (.iconst 0) 1 227 := ⟨by decide +kernel, rfl⟩
theorem zd_14_24_236 : zz_D zy_isIllegal_14_24 236 (.aload_n 0) 1 237 := ⟨by decide +kernel, rfl⟩
theorem zd_14_24_237 : zz_D zy_isIllegal_14_24 237 (.invokevirtual 243) 3 240 := ⟨by decide +kernel, rfl⟩
theorem zk_Md_243 : mm_Vl "TensorForgeModel" 243 11 0 zy_unit_14_19 := ⟨zyw_unit_14_19, (R_Md, F_Md, 69), rfl, mm_tb_1 1899 (by decide +kernel) rfl, mm_tb_1 1901 (by decide +kernel) rfl, mm_tb_s 90 (by decide +kernel) rfl⟩
theorem zd_14_24_240 : zz_D zy_isIllegal_14_24 240 (.istore 5) 2 242 := ⟨by decide +kernel, rfl⟩
theorem zd_14_24_242 : zz_D zy_isIllegal_14_24 242 (.iload 5) 2 244 := ⟨by decide +kernel, rfl⟩
theorem zd_14_24_244 : zz_B zy_isIllegal_14_24 244 (Instr.ifCond .ne) 265 247 := ⟨21, by decide +kernel, rfl, rfl⟩
theorem zd_14_24_265 : zz_D zy_isIllegal_14_24 265 (.iload 5) 2 267 := ⟨by decide +kernel, rfl⟩
theorem zd_14_24_267 : zz_D zy_isIllegal_14_24 267 (.iconst 2) 1 268 := ⟨by decide +kernel, rfl⟩
theorem zd_14_24_268 : zz_B zy_isIllegal_14_24 268 (Instr.if_icmp .ne) 293 271 := ⟨25, by decide +kernel, rfl, rfl⟩
theorem zd_14_24_293 : zz_D zy_isIllegal_14_24 293 (.iconst 0) 1 294 := ⟨by decide +kernel, rfl⟩
theorem zd_14_24_294 : zz_D zy_isIllegal_14_24 294 (.istore 4) 2 296 := ⟨by decide +kernel, rfl⟩
theorem zd_14_24_296 : zz_D zy_isIllegal_14_24 296 (.aload_n 0) 1 297 := ⟨by decide +kernel, rfl⟩
theorem zd_14_24_297 : zz_D zy_isIllegal_14_24 297 (.invokevirtual 247) 3 300 := ⟨by decide +kernel, rfl⟩
theorem zk_Md_247 : mm_Vl "TensorForgeModel" 247 11 0 zy_reaches_14_22 := ⟨zyw_reaches_14_22, (R_Md, F_Md, 69), rfl, mm_tb_1 1903 (by decide +kernel) rfl, mm_tb_1 1905 (by decide +kernel) rfl, mm_tb_s 91 (by decide +kernel) rfl⟩
theorem zd_14_24_300 : zz_D zy_isIllegal_14_24 300 (.iconst 0) 1 301 := ⟨by decide +kernel, rfl⟩
theorem zd_14_24_301 : zz_D zy_isIllegal_14_24 301 (.istore 6) 2 303 := ⟨by decide +kernel, rfl⟩
theorem zd_14_24_271 : zz_D zy_isIllegal_14_24 271 (.aload_n 0) 1 272 := ⟨by decide +kernel, rfl⟩
theorem zd_14_24_272 : zz_D zy_isIllegal_14_24 272 (.getfield 36) 3 275 := ⟨by decide +kernel, rfl⟩
theorem zd_14_24_275 : zz_D zy_isIllegal_14_24 275 (.iconst 2) 1 276 := ⟨by decide +kernel, rfl⟩
theorem zd_14_24_276 : zz_D zy_isIllegal_14_24 276 (.iaload) 1 277 := ⟨by decide +kernel, rfl⟩
theorem zd_14_24_277 : zz_B zy_isIllegal_14_24 277 (Instr.ifCond .gt) 289 280 := ⟨12, by decide +kernel, rfl, rfl⟩
theorem zd_14_24_289 : zz_D zy_isIllegal_14_24 289 (.iconst 1) 1 290 := ⟨by decide +kernel, rfl⟩
theorem zd_14_24_290 : zz_B zy_isIllegal_14_24 290 Instr.goto 294 293 := ⟨4, by decide +kernel, rfl, rfl⟩
theorem zd_14_24_280 : zz_D zy_isIllegal_14_24 280 (.aload_n 0) 1 281 := ⟨by decide +kernel, rfl⟩
theorem zd_14_24_281 : zz_D zy_isIllegal_14_24 281 (.getfield 36) 3 284 := ⟨by decide +kernel, rfl⟩
theorem zd_14_24_284 : zz_D zy_isIllegal_14_24 284 (.iconst 4) 1 285 := ⟨by decide +kernel, rfl⟩
theorem zd_14_24_285 : zz_D zy_isIllegal_14_24 285 (.iaload) 1 286 := ⟨by decide +kernel, rfl⟩
theorem zd_14_24_286 : zz_B zy_isIllegal_14_24 286 (Instr.ifCond .le) 293 289 := ⟨7, by decide +kernel, rfl, rfl⟩
theorem zd_14_24_247 : zz_D zy_isIllegal_14_24 247 (.aload_n 0) 1 248 := ⟨by decide +kernel, rfl⟩
theorem zd_14_24_248 : zz_D zy_isIllegal_14_24 248 (.getfield 36) 3 251 := ⟨by decide +kernel, rfl⟩
theorem zd_14_24_251 : zz_D zy_isIllegal_14_24 251 (.iconst 1) 1 252 := ⟨by decide +kernel, rfl⟩
theorem zd_14_24_252 : zz_D zy_isIllegal_14_24 252 (.iaload) 1 253 := ⟨by decide +kernel, rfl⟩
theorem zd_14_24_253 : zz_B zy_isIllegal_14_24 253 (Instr.ifCond .gt) 289 256 := ⟨36, by decide +kernel, rfl, rfl⟩
theorem zd_14_24_256 : zz_D zy_isIllegal_14_24 256 (.aload_n 0) 1 257 := ⟨by decide +kernel, rfl⟩
theorem zd_14_24_257 : zz_D zy_isIllegal_14_24 257 (.getfield 36) 3 260 := ⟨by decide +kernel, rfl⟩
theorem zd_14_24_260 : zz_D zy_isIllegal_14_24 260 (.iconst 3) 1 261 := ⟨by decide +kernel, rfl⟩
theorem zd_14_24_261 : zz_D zy_isIllegal_14_24 261 (.iaload) 1 262 := ⟨by decide +kernel, rfl⟩
theorem zd_14_24_262 : zz_B zy_isIllegal_14_24 262 (Instr.ifCond .gt) 289 265 := ⟨27, by decide +kernel, rfl, rfl⟩
theorem zd_14_24_211 : zz_D zy_isIllegal_14_24 211 (.aload_n 0) 1 212 := ⟨by decide +kernel, rfl⟩
theorem zd_14_24_212 : zz_D zy_isIllegal_14_24 212 (.getfield 36) 3 215 := ⟨by decide +kernel, rfl⟩
theorem zd_14_24_215 : zz_D zy_isIllegal_14_24 215 (.bipush 11) 2 217 := ⟨by decide +kernel, rfl⟩
theorem zd_14_24_217 : zz_D zy_isIllegal_14_24 217 (.iaload) 1 218 := ⟨by decide +kernel, rfl⟩
theorem zd_14_24_218 : zz_D zy_isIllegal_14_24 218 (.iconst 2) 1 219 := ⟨by decide +kernel, rfl⟩
theorem zd_14_24_219 : zz_B zy_isIllegal_14_24 219 (Instr.if_icmp .le) 226 222 := ⟨7, by decide +kernel, rfl, rfl⟩
theorem zd_14_24_183 : zz_D zy_isIllegal_14_24 183 (.aload_n 0) 1 184 := ⟨by decide +kernel, rfl⟩
theorem zd_14_24_184 : zz_D zy_isIllegal_14_24 184 (.getfield 36) 3 187 := ⟨by decide +kernel, rfl⟩
theorem zd_14_24_187 : zz_D zy_isIllegal_14_24 187 (.bipush 11) 2 189 := ⟨by decide +kernel, rfl⟩
theorem zd_14_24_189 : zz_D zy_isIllegal_14_24 189 (.iaload) 1 190 := ⟨by decide +kernel, rfl⟩
theorem zd_14_24_190 : zz_D zy_isIllegal_14_24 190 (.iconst 2) 1 191 := ⟨by decide +kernel, rfl⟩
theorem zd_14_24_191 : zz_D zy_isIllegal_14_24 191 (.idiv) 1 192 := ⟨by decide +kernel, rfl⟩
theorem zd_14_24_192 : zz_D zy_isIllegal_14_24 192 (.i2l) 1 193 := ⟨by decide +kernel, rfl⟩
theorem zd_14_24_193 : zz_D zy_isIllegal_14_24 193 (.lconst 1) 1 194 := ⟨by decide +kernel, rfl⟩
theorem zd_14_24_194 : zz_D zy_isIllegal_14_24 194 (.aload_n 0) 1 195 := ⟨by decide +kernel, rfl⟩
theorem zd_14_24_195 : zz_D zy_isIllegal_14_24 195 (.getfield 7) 3 198 := ⟨by decide +kernel, rfl⟩
theorem zd_14_24_198 : zz_D zy_isIllegal_14_24 198 (.i2l) 1 199 := ⟨by decide +kernel, rfl⟩
theorem zd_14_24_199 : zz_D zy_isIllegal_14_24 199 (.invokestatic 192) 3 202 := ⟨by decide +kernel, rfl⟩
theorem zd_14_24_202 : zz_B zy_isIllegal_14_24 202 (Instr.ifCond .eq) 222 205 := ⟨20, by decide +kernel, rfl, rfl⟩
theorem zd_14_24_122 : zz_D zy_isIllegal_14_24 122 (.iload 4) 2 124 := ⟨by decide +kernel, rfl⟩
theorem zd_14_24_124 : zz_B zy_isIllegal_14_24 124 (Instr.ifCond .ne) 160 127 := ⟨36, by decide +kernel, rfl, rfl⟩
theorem zd_14_24_160 : zz_D zy_isIllegal_14_24 160 (.iconst 1) 1 161 := ⟨by decide +kernel, rfl⟩
theorem zd_14_24_161 : zz_B zy_isIllegal_14_24 161 Instr.goto 165 164 := ⟨4, by decide +kernel, rfl, rfl⟩
theorem zd_14_24_165 : zz_D zy_isIllegal_14_24 165 (.istore 4) 2 167 := ⟨by decide +kernel, rfl⟩
theorem zd_14_24_167 : zz_D zy_isIllegal_14_24 167 (.iinc 5 1) 3 170 := ⟨by decide +kernel, rfl⟩
theorem zd_14_24_170 : zz_B zy_isIllegal_14_24 170 Instr.goto 115 173 := ⟨(-55), by decide +kernel, rfl, rfl⟩
theorem zd_14_24_127 : zz_D zy_isIllegal_14_24 127 (.iload 5) 2 129 := ⟨by decide +kernel, rfl⟩
theorem zd_14_24_129 : zz_D zy_isIllegal_14_24 129 (.bipush 6) 2 131 := ⟨by decide +kernel, rfl⟩
theorem zd_14_24_131 : zz_B zy_isIllegal_14_24 131 (Instr.if_icmp .eq) 164 134 := ⟨33, by decide +kernel, rfl, rfl⟩
theorem zd_14_24_164 : zz_D zy_isIllegal_14_24 164 (.iconst 0) 1 165 := ⟨by decide +kernel, rfl⟩
theorem zd_14_24_134 : zz_D zy_isIllegal_14_24 134 (.iload 5) 2 136 := ⟨by decide +kernel, rfl⟩
theorem zd_14_24_136 : zz_D zy_isIllegal_14_24 136 (.bipush 7) 2 138 := ⟨by decide +kernel, rfl⟩
theorem zd_14_24_138 : zz_B zy_isIllegal_14_24 138 (Instr.if_icmp .eq) 164 141 := ⟨26, by decide +kernel, rfl, rfl⟩
theorem zd_14_24_141 : zz_D zy_isIllegal_14_24 141 (.iload_n 3) 1 142 := ⟨by decide +kernel, rfl⟩
theorem zd_14_24_142 : zz_D zy_isIllegal_14_24 142 (.iload 5) 2 144 := ⟨by decide +kernel, rfl⟩
theorem zd_14_24_144 : zz_D zy_isIllegal_14_24 144 (.invokestatic 240) 3 147 := ⟨by decide +kernel, rfl⟩
theorem zk_Md_240 : mm_Sl "TensorForgeModel" 240 2 zy_names_14_23 := ⟨zyw_names_14_23, mm_tb_1 1896 (by decide +kernel) rfl, mm_tb_1 1897 (by decide +kernel) rfl⟩
theorem zd_14_24_147 : zz_B zy_isIllegal_14_24 147 (Instr.ifCond .ne) 164 150 := ⟨17, by decide +kernel, rfl, rfl⟩
theorem zd_14_24_150 : zz_D zy_isIllegal_14_24 150 (.aload_n 0) 1 151 := ⟨by decide +kernel, rfl⟩
theorem zd_14_24_151 : zz_D zy_isIllegal_14_24 151 (.getfield 36) 3 154 := ⟨by decide +kernel, rfl⟩
theorem zd_14_24_154 : zz_D zy_isIllegal_14_24 154 (.iload 5) 2 156 := ⟨by decide +kernel, rfl⟩
theorem zd_14_24_156 : zz_D zy_isIllegal_14_24 156 (.iaload) 1 157 := ⟨by decide +kernel, rfl⟩
theorem zd_14_24_157 : zz_B zy_isIllegal_14_24 157 (Instr.ifCond .eq) 164 160 := ⟨7, by decide +kernel, rfl, rfl⟩
theorem zd_14_24_303 : zz_D zy_isIllegal_14_24 303 (.iload 6) 2 305 := ⟨by decide +kernel, rfl⟩
theorem zd_14_24_305 : zz_D zy_isIllegal_14_24 305 (.iconst 5) 1 306 := ⟨by decide +kernel, rfl⟩
theorem zd_14_24_306 : zz_B zy_isIllegal_14_24 306 (Instr.if_icmp .ge) 365 309 := ⟨59, by decide +kernel, rfl, rfl⟩
theorem zd_14_24_365 : zz_D zy_isIllegal_14_24 365 (.iload 4) 2 367 := ⟨by decide +kernel, rfl⟩
theorem zd_14_24_367 : zz_D zy_isIllegal_14_24 367 (.ireturn) 1 368 := ⟨by decide +kernel, rfl⟩
theorem zd_14_24_309 : zz_D zy_isIllegal_14_24 309 (.iload 4) 2 311 := ⟨by decide +kernel, rfl⟩
theorem zd_14_24_311 : zz_B zy_isIllegal_14_24 311 (Instr.ifCond .ne) 352 314 := ⟨41, by decide +kernel, rfl, rfl⟩
theorem zd_14_24_352 : zz_D zy_isIllegal_14_24 352 (.iconst 1) 1 353 := ⟨by decide +kernel, rfl⟩
theorem zd_14_24_353 : zz_B zy_isIllegal_14_24 353 Instr.goto 357 356 := ⟨4, by decide +kernel, rfl, rfl⟩
theorem zd_14_24_357 : zz_D zy_isIllegal_14_24 357 (.istore 4) 2 359 := ⟨by decide +kernel, rfl⟩
theorem zd_14_24_359 : zz_D zy_isIllegal_14_24 359 (.iinc 6 1) 3 362 := ⟨by decide +kernel, rfl⟩
theorem zd_14_24_362 : zz_B zy_isIllegal_14_24 362 Instr.goto 303 365 := ⟨(-59), by decide +kernel, rfl, rfl⟩
theorem zd_14_24_314 : zz_D zy_isIllegal_14_24 314 (.aload_n 0) 1 315 := ⟨by decide +kernel, rfl⟩
theorem zd_14_24_315 : zz_D zy_isIllegal_14_24 315 (.getfield 39) 3 318 := ⟨by decide +kernel, rfl⟩
theorem zd_14_24_318 : zz_D zy_isIllegal_14_24 318 (.iconst 2) 1 319 := ⟨by decide +kernel, rfl⟩
theorem zd_14_24_319 : zz_D zy_isIllegal_14_24 319 (.iload 6) 2 321 := ⟨by decide +kernel, rfl⟩
theorem zd_14_24_321 : zz_D zy_isIllegal_14_24 321 (.imul) 1 322 := ⟨by decide +kernel, rfl⟩
theorem zd_14_24_322 : zz_D zy_isIllegal_14_24 322 (.iconst 1) 1 323 := ⟨by decide +kernel, rfl⟩
theorem zd_14_24_323 : zz_D zy_isIllegal_14_24 323 (.iadd) 1 324 := ⟨by decide +kernel, rfl⟩
theorem zd_14_24_324 : zz_D zy_isIllegal_14_24 324 (.iaload) 1 325 := ⟨by decide +kernel, rfl⟩
theorem zd_14_24_325 : zz_D zy_isIllegal_14_24 325 (.iload 6) 2 327 := ⟨by decide +kernel, rfl⟩
theorem zd_14_24_327 : zz_D zy_isIllegal_14_24 327 (.invokestatic 212) 3 330 := ⟨by decide +kernel, rfl⟩
theorem zd_14_24_330 : zz_B zy_isIllegal_14_24 330 (Instr.if_icmp .ge) 352 333 := ⟨22, by decide +kernel, rfl, rfl⟩
theorem zd_14_24_333 : zz_D zy_isIllegal_14_24 333 (.aload_n 0) 1 334 := ⟨by decide +kernel, rfl⟩
theorem zd_14_24_334 : zz_D zy_isIllegal_14_24 334 (.getfield 42) 3 337 := ⟨by decide +kernel, rfl⟩
theorem zd_14_24_337 : zz_D zy_isIllegal_14_24 337 (.iconst 2) 1 338 := ⟨by decide +kernel, rfl⟩
theorem zd_14_24_338 : zz_D zy_isIllegal_14_24 338 (.iload 6) 2 340 := ⟨by decide +kernel, rfl⟩
theorem zd_14_24_340 : zz_D zy_isIllegal_14_24 340 (.imul) 1 341 := ⟨by decide +kernel, rfl⟩
theorem zd_14_24_341 : zz_D zy_isIllegal_14_24 341 (.iconst 1) 1 342 := ⟨by decide +kernel, rfl⟩
theorem zd_14_24_342 : zz_D zy_isIllegal_14_24 342 (.iadd) 1 343 := ⟨by decide +kernel, rfl⟩
theorem zd_14_24_343 : zz_D zy_isIllegal_14_24 343 (.iaload) 1 344 := ⟨by decide +kernel, rfl⟩
theorem zd_14_24_344 : zz_D zy_isIllegal_14_24 344 (.iload 6) 2 346 := ⟨by decide +kernel, rfl⟩
theorem zd_14_24_346 : zz_D zy_isIllegal_14_24 346 (.invokestatic 212) 3 349 := ⟨by decide +kernel, rfl⟩
theorem zd_14_24_349 : zz_B zy_isIllegal_14_24 349 (Instr.if_icmp .lt) 356 352 := ⟨7, by decide +kernel, rfl, rfl⟩
theorem zd_14_24_356 : zz_D zy_isIllegal_14_24 356 (.iconst 0) 1 357 := ⟨by decide +kernel, rfl⟩
-- TensorForgeModel isIllegal (J)Z
abbrev zr_isIllegal_14_24 : Room := { frames := 3, cells := 0, slots := 0, locals := 49 }
def zp_isIllegal_14_24 (p0 : Int) (S0 : zz_S) : Int → zz_S → Prop := fun r S => zz_G S ∧ zz_fr [] [1087, 1088, 1089] (fun _ _ => False) S0 S ∧ (0 ≤ r ∧ r ≤ 1)
theorem zb_isIllegal_14_24_115 {g : mm_G} {l : Launch} (p0 : Int) (S0 : zz_S) (n : Nat) (hn : zz_end ≤ n) (G_S0 : zz_G S0) (hp0 : (-9223372036854775808) ≤ p0 ∧ p0 ≤ 9223372036854775807) (x3 : Int) (x4 : Int) (x5 : Int) (S : zz_S) (G_S : zz_G S) (F_S : zz_fr [] [1087, 1088, 1089] (fun _ _ => False) S0 S) (i115_0 : 1 ≤ x3 ∧ x3 ≤ 8) (i115_1 : (-2147483648) ≤ x4 ∧ x4 ≤ 2147483647) (i115_2 : 5 ≤ x5 ∧ x5 ≤ 2147483647) (R : Nat) (hR : (34359738368 + (12 - x5).toNat) = R) (k115 : ∀ (x3 : Int) (x4 : Int) (x5 : Int) (S : zz_S), zz_G S → zz_fr [] [1087, 1088, 1089] (fun _ _ => False) S0 S → (1 ≤ x3 ∧ x3 ≤ 8) → ((-2147483648) ≤ x4 ∧ x4 ≤ 2147483647) → (5 ≤ x5 ∧ x5 ≤ 2147483647) → (34359738368 + (12 - x5).toNat) < R → zz_E g l zy_isIllegal_14_24 zr_isIllegal_14_24 (zz_QI n (zp_isIllegal_14_24 p0 S0)) S n 115 [some (.ref 1079), none, none, some (zi x3), some (zi x4), some (zi x5)] [] 0 0) (k303 : ∀ (x4 : Int) (x6 : Int) (S : zz_S), zz_G S → zz_fr [] [1087, 1088, 1089] (fun _ _ => False) S0 S → ((-2147483648) ≤ x4 ∧ x4 ≤ 2147483647) → (0 ≤ x6 ∧ x6 ≤ 2147483647) → (17179869184 + (5 - x6).toNat) < R → zz_E g l zy_isIllegal_14_24 zr_isIllegal_14_24 (zz_QI n (zp_isIllegal_14_24 p0 S0)) S n 303 [some (.ref 1079), none, none, none, some (zi x4), none, some (zi x6)] [] 0 0) : zz_E g l zy_isIllegal_14_24 zr_isIllegal_14_24 (zz_QI n (zp_isIllegal_14_24 p0 S0)) S n 115 [some (.ref 1079), none, none, some (zi x3), some (zi x4), some (zi x5)] [] 0 0 := by
  refine zz_iload (x := x5) rfl zd_14_24_115 ?_
  refine zz_bipush (by decide) zd_14_24_117 ?_
  refine zz_icmp_ge (by omega) (by omega) zd_14_24_119 (fun c23 => ?_) (fun c23 => ?_)
  · refine zz_iload (x := x4) rfl zd_14_24_173 ?_
    refine zz_if_ne (by omega) zd_14_24_175 (fun c24 => ?_) (fun c24 => ?_)
    · refine zz_iconst zd_14_24_222 ?_
      refine zz_goto zd_14_24_223 ?_
      refine zz_istore [some (.ref 1079), none, none, some (zi x3), some (zi 1), some (zi x5)] zd_14_24_227 (by decide) rfl ?_
      refine zz_iload (x := 1) rfl zd_14_24_229 ?_
      refine zz_if_eq (by omega) zd_14_24_231 (fun c25 => ?_) (fun c25 => ?_)
      · exfalso; omega
      · refine zz_iconst zd_14_24_234 ?_
        exact zz_zret zd_14_24_235 rfl (by omega) (Nat.zero_le _) (Nat.zero_le _) ⟨_, _, rfl, G_S, F_S, by omega⟩
    · refine zz_iload_n (x := x3) rfl zd_14_24_178 ?_
      refine zz_iconst zd_14_24_179 ?_
      refine zz_icmp_ne (by omega) (by omega) zd_14_24_180 (fun c26 => ?_) (fun c26 => ?_)
      · refine zz_iload_n (x := x3) rfl zd_14_24_205 ?_
        refine zz_bipush (by decide) zd_14_24_206 ?_
        refine zz_icmp_ne (by omega) (by omega) zd_14_24_208 (fun c27 => ?_) (fun c27 => ?_)
        · refine zz_iconst zd_14_24_226 ?_
          refine zz_istore [some (.ref 1079), none, none, some (zi x3), some (zi 0), some (zi x5)] zd_14_24_227 (by decide) rfl ?_
          refine zz_iload (x := 0) rfl zd_14_24_229 ?_
          refine zz_if_eq (by omega) zd_14_24_231 (fun c28 => ?_) (fun c28 => ?_)
          · refine zz_aload_n (x := 1079) rfl zd_14_24_236 ?_
            refine zz_callVI [] zd_14_24_237 zk_Md_243 zT_1079 (zz_ltn hn rfl) rfl rfl ⟨Nat.le_of_ble_eq_true rfl, Nat.le_of_ble_eq_true rfl⟩ ⟨rfl, rfl⟩ (Nat.zero_le _) (Nat.zero_le _) (zc_unit_14_19  S n hn G_S ) (fun v30 S29 hP => ?_)
            obtain ⟨rfl, o31⟩ := hP
            refine zz_istore [some (.ref 1079), none, none, some (zi x3), some (zi 0), some (zi v30)] zd_14_24_240 (by decide) rfl ?_
            refine zz_iload (x := v30) rfl zd_14_24_242 ?_
            refine zz_if_ne (by omega) zd_14_24_244 (fun c32 => ?_) (fun c32 => ?_)
            · refine zz_iload (x := v30) rfl zd_14_24_265 ?_
              refine zz_iconst zd_14_24_267 ?_
              refine zz_icmp_ne (by omega) (by omega) zd_14_24_268 (fun c33 => ?_) (fun c33 => ?_)
              · refine zz_iconst zd_14_24_293 ?_
                refine zz_istore [some (.ref 1079), none, none, some (zi x3), some (zi 0), some (zi v30)] zd_14_24_294 (by decide) rfl ?_
                refine zz_aload_n (x := 1079) rfl zd_14_24_296 ?_
                refine zz_callVV [] zd_14_24_297 zk_Md_247 zT_1079 (zz_ltn hn rfl) rfl rfl ⟨Nat.le_of_ble_eq_true rfl, Nat.le_of_ble_eq_true rfl⟩ ⟨rfl, rfl⟩ (Nat.zero_le _) (Nat.zero_le _) (zc_reaches_14_22  S n hn G_S ) (fun S34 hP => ?_)
                obtain ⟨G_S34, fS34⟩ := hP
                have F_S34 := zz_fr.trans F_S fS34 rfl zz_nv
                refine zz_iconst zd_14_24_300 ?_
                refine zz_istore [some (.ref 1079), none, none, some (zi x3), some (zi 0), some (zi v30), some (zi 0)] zd_14_24_301 (by decide) rfl ?_
                refine zz_less (ls1 := [some (.ref 1079), none, none, none, some (zi 0), none, some (zi 0)]) ⟨rfl, ⟨rfl, ⟨rfl, trivial⟩⟩⟩ ?_
                exact k303 0 0 S34 G_S34 F_S34 (by omega) (by omega) (by omega)
              · refine zz_aload_n (x := 1079) rfl zd_14_24_271 ?_
                refine zz_getr (kd := 0) (z := 1087) zd_14_24_272 zf_Md_36 zT_1079 rfl (zz_ltn hn rfl) (zz_G.eq G_S 1079 11 1087 rfl rfl) (by decide) 1087 rfl ?_
                refine zz_iconst zd_14_24_275 ?_
                have g36 := zz_G.r G_S 1087 2 (-2147483648) 2147483647 rfl rfl
                refine zz_iald (z := S 1087 2) zd_14_24_276 zT_1087 rfl (zz_ltn hn rfl) (by decide) (by decide) rfl ?_
                refine zz_if_gt (by omega) zd_14_24_277 (fun c37 => ?_) (fun c37 => ?_)
                · refine zz_iconst zd_14_24_289 ?_
                  refine zz_goto zd_14_24_290 ?_
                  refine zz_istore [some (.ref 1079), none, none, some (zi x3), some (zi 1), some (zi v30)] zd_14_24_294 (by decide) rfl ?_
                  refine zz_aload_n (x := 1079) rfl zd_14_24_296 ?_
                  refine zz_callVV [] zd_14_24_297 zk_Md_247 zT_1079 (zz_ltn hn rfl) rfl rfl ⟨Nat.le_of_ble_eq_true rfl, Nat.le_of_ble_eq_true rfl⟩ ⟨rfl, rfl⟩ (Nat.zero_le _) (Nat.zero_le _) (zc_reaches_14_22  S n hn G_S ) (fun S38 hP => ?_)
                  obtain ⟨G_S38, fS38⟩ := hP
                  have F_S38 := zz_fr.trans F_S fS38 rfl zz_nv
                  refine zz_iconst zd_14_24_300 ?_
                  refine zz_istore [some (.ref 1079), none, none, some (zi x3), some (zi 1), some (zi v30), some (zi 0)] zd_14_24_301 (by decide) rfl ?_
                  refine zz_less (ls1 := [some (.ref 1079), none, none, none, some (zi 1), none, some (zi 0)]) ⟨rfl, ⟨rfl, ⟨rfl, trivial⟩⟩⟩ ?_
                  exact k303 1 0 S38 G_S38 F_S38 (by omega) (by omega) (by omega)
                · refine zz_aload_n (x := 1079) rfl zd_14_24_280 ?_
                  refine zz_getr (kd := 0) (z := 1087) zd_14_24_281 zf_Md_36 zT_1079 rfl (zz_ltn hn rfl) (zz_G.eq G_S 1079 11 1087 rfl rfl) (by decide) 1087 rfl ?_
                  refine zz_iconst zd_14_24_284 ?_
                  have g40 := zz_G.r G_S 1087 4 (-2147483648) 2147483647 rfl rfl
                  refine zz_iald (z := S 1087 4) zd_14_24_285 zT_1087 rfl (zz_ltn hn rfl) (by decide) (by decide) rfl ?_
                  refine zz_if_le (by omega) zd_14_24_286 (fun c41 => ?_) (fun c41 => ?_)
                  · refine zz_iconst zd_14_24_293 ?_
                    refine zz_istore [some (.ref 1079), none, none, some (zi x3), some (zi 0), some (zi v30)] zd_14_24_294 (by decide) rfl ?_
                    refine zz_aload_n (x := 1079) rfl zd_14_24_296 ?_
                    refine zz_callVV [] zd_14_24_297 zk_Md_247 zT_1079 (zz_ltn hn rfl) rfl rfl ⟨Nat.le_of_ble_eq_true rfl, Nat.le_of_ble_eq_true rfl⟩ ⟨rfl, rfl⟩ (Nat.zero_le _) (Nat.zero_le _) (zc_reaches_14_22  S n hn G_S ) (fun S42 hP => ?_)
                    obtain ⟨G_S42, fS42⟩ := hP
                    have F_S42 := zz_fr.trans F_S fS42 rfl zz_nv
                    refine zz_iconst zd_14_24_300 ?_
                    refine zz_istore [some (.ref 1079), none, none, some (zi x3), some (zi 0), some (zi v30), some (zi 0)] zd_14_24_301 (by decide) rfl ?_
                    refine zz_less (ls1 := [some (.ref 1079), none, none, none, some (zi 0), none, some (zi 0)]) ⟨rfl, ⟨rfl, ⟨rfl, trivial⟩⟩⟩ ?_
                    exact k303 0 0 S42 G_S42 F_S42 (by omega) (by omega) (by omega)
                  · refine zz_iconst zd_14_24_289 ?_
                    refine zz_goto zd_14_24_290 ?_
                    refine zz_istore [some (.ref 1079), none, none, some (zi x3), some (zi 1), some (zi v30)] zd_14_24_294 (by decide) rfl ?_
                    refine zz_aload_n (x := 1079) rfl zd_14_24_296 ?_
                    refine zz_callVV [] zd_14_24_297 zk_Md_247 zT_1079 (zz_ltn hn rfl) rfl rfl ⟨Nat.le_of_ble_eq_true rfl, Nat.le_of_ble_eq_true rfl⟩ ⟨rfl, rfl⟩ (Nat.zero_le _) (Nat.zero_le _) (zc_reaches_14_22  S n hn G_S ) (fun S44 hP => ?_)
                    obtain ⟨G_S44, fS44⟩ := hP
                    have F_S44 := zz_fr.trans F_S fS44 rfl zz_nv
                    refine zz_iconst zd_14_24_300 ?_
                    refine zz_istore [some (.ref 1079), none, none, some (zi x3), some (zi 1), some (zi v30), some (zi 0)] zd_14_24_301 (by decide) rfl ?_
                    refine zz_less (ls1 := [some (.ref 1079), none, none, none, some (zi 1), none, some (zi 0)]) ⟨rfl, ⟨rfl, ⟨rfl, trivial⟩⟩⟩ ?_
                    exact k303 1 0 S44 G_S44 F_S44 (by omega) (by omega) (by omega)
            · refine zz_aload_n (x := 1079) rfl zd_14_24_247 ?_
              refine zz_getr (kd := 0) (z := 1087) zd_14_24_248 zf_Md_36 zT_1079 rfl (zz_ltn hn rfl) (zz_G.eq G_S 1079 11 1087 rfl rfl) (by decide) 1087 rfl ?_
              refine zz_iconst zd_14_24_251 ?_
              have g46 := zz_G.r G_S 1087 1 (-2147483648) 2147483647 rfl rfl
              refine zz_iald (z := S 1087 1) zd_14_24_252 zT_1087 rfl (zz_ltn hn rfl) (by decide) (by decide) rfl ?_
              refine zz_if_gt (by omega) zd_14_24_253 (fun c47 => ?_) (fun c47 => ?_)
              · refine zz_iconst zd_14_24_289 ?_
                refine zz_goto zd_14_24_290 ?_
                refine zz_istore [some (.ref 1079), none, none, some (zi x3), some (zi 1), some (zi v30)] zd_14_24_294 (by decide) rfl ?_
                refine zz_aload_n (x := 1079) rfl zd_14_24_296 ?_
                refine zz_callVV [] zd_14_24_297 zk_Md_247 zT_1079 (zz_ltn hn rfl) rfl rfl ⟨Nat.le_of_ble_eq_true rfl, Nat.le_of_ble_eq_true rfl⟩ ⟨rfl, rfl⟩ (Nat.zero_le _) (Nat.zero_le _) (zc_reaches_14_22  S n hn G_S ) (fun S48 hP => ?_)
                obtain ⟨G_S48, fS48⟩ := hP
                have F_S48 := zz_fr.trans F_S fS48 rfl zz_nv
                refine zz_iconst zd_14_24_300 ?_
                refine zz_istore [some (.ref 1079), none, none, some (zi x3), some (zi 1), some (zi v30), some (zi 0)] zd_14_24_301 (by decide) rfl ?_
                refine zz_less (ls1 := [some (.ref 1079), none, none, none, some (zi 1), none, some (zi 0)]) ⟨rfl, ⟨rfl, ⟨rfl, trivial⟩⟩⟩ ?_
                exact k303 1 0 S48 G_S48 F_S48 (by omega) (by omega) (by omega)
              · refine zz_aload_n (x := 1079) rfl zd_14_24_256 ?_
                refine zz_getr (kd := 0) (z := 1087) zd_14_24_257 zf_Md_36 zT_1079 rfl (zz_ltn hn rfl) (zz_G.eq G_S 1079 11 1087 rfl rfl) (by decide) 1087 rfl ?_
                refine zz_iconst zd_14_24_260 ?_
                have g50 := zz_G.r G_S 1087 3 (-2147483648) 2147483647 rfl rfl
                refine zz_iald (z := S 1087 3) zd_14_24_261 zT_1087 rfl (zz_ltn hn rfl) (by decide) (by decide) rfl ?_
                refine zz_if_gt (by omega) zd_14_24_262 (fun c51 => ?_) (fun c51 => ?_)
                · refine zz_iconst zd_14_24_289 ?_
                  refine zz_goto zd_14_24_290 ?_
                  refine zz_istore [some (.ref 1079), none, none, some (zi x3), some (zi 1), some (zi v30)] zd_14_24_294 (by decide) rfl ?_
                  refine zz_aload_n (x := 1079) rfl zd_14_24_296 ?_
                  refine zz_callVV [] zd_14_24_297 zk_Md_247 zT_1079 (zz_ltn hn rfl) rfl rfl ⟨Nat.le_of_ble_eq_true rfl, Nat.le_of_ble_eq_true rfl⟩ ⟨rfl, rfl⟩ (Nat.zero_le _) (Nat.zero_le _) (zc_reaches_14_22  S n hn G_S ) (fun S52 hP => ?_)
                  obtain ⟨G_S52, fS52⟩ := hP
                  have F_S52 := zz_fr.trans F_S fS52 rfl zz_nv
                  refine zz_iconst zd_14_24_300 ?_
                  refine zz_istore [some (.ref 1079), none, none, some (zi x3), some (zi 1), some (zi v30), some (zi 0)] zd_14_24_301 (by decide) rfl ?_
                  refine zz_less (ls1 := [some (.ref 1079), none, none, none, some (zi 1), none, some (zi 0)]) ⟨rfl, ⟨rfl, ⟨rfl, trivial⟩⟩⟩ ?_
                  exact k303 1 0 S52 G_S52 F_S52 (by omega) (by omega) (by omega)
                · refine zz_iload (x := v30) rfl zd_14_24_265 ?_
                  refine zz_iconst zd_14_24_267 ?_
                  refine zz_icmp_ne (by omega) (by omega) zd_14_24_268 (fun c54 => ?_) (fun c54 => ?_)
                  · refine zz_iconst zd_14_24_293 ?_
                    refine zz_istore [some (.ref 1079), none, none, some (zi x3), some (zi 0), some (zi v30)] zd_14_24_294 (by decide) rfl ?_
                    refine zz_aload_n (x := 1079) rfl zd_14_24_296 ?_
                    refine zz_callVV [] zd_14_24_297 zk_Md_247 zT_1079 (zz_ltn hn rfl) rfl rfl ⟨Nat.le_of_ble_eq_true rfl, Nat.le_of_ble_eq_true rfl⟩ ⟨rfl, rfl⟩ (Nat.zero_le _) (Nat.zero_le _) (zc_reaches_14_22  S n hn G_S ) (fun S55 hP => ?_)
                    obtain ⟨G_S55, fS55⟩ := hP
                    have F_S55 := zz_fr.trans F_S fS55 rfl zz_nv
                    refine zz_iconst zd_14_24_300 ?_
                    refine zz_istore [some (.ref 1079), none, none, some (zi x3), some (zi 0), some (zi v30), some (zi 0)] zd_14_24_301 (by decide) rfl ?_
                    refine zz_less (ls1 := [some (.ref 1079), none, none, none, some (zi 0), none, some (zi 0)]) ⟨rfl, ⟨rfl, ⟨rfl, trivial⟩⟩⟩ ?_
                    exact k303 0 0 S55 G_S55 F_S55 (by omega) (by omega) (by omega)
                  · exfalso; omega
          · exfalso; omega
        · refine zz_aload_n (x := 1079) rfl zd_14_24_211 ?_
          refine zz_getr (kd := 0) (z := 1087) zd_14_24_212 zf_Md_36 zT_1079 rfl (zz_ltn hn rfl) (zz_G.eq G_S 1079 11 1087 rfl rfl) (by decide) 1087 rfl ?_
          refine zz_bipush (by decide) zd_14_24_215 ?_
          have g57 := zz_G.r G_S 1087 11 (-2147483648) 2147483647 rfl rfl
          refine zz_iald (z := S 1087 11) zd_14_24_217 zT_1087 rfl (zz_ltn hn rfl) (by decide) (by decide) rfl ?_
          refine zz_iconst zd_14_24_218 ?_
          refine zz_icmp_le (by omega) (by omega) zd_14_24_219 (fun c58 => ?_) (fun c58 => ?_)
          · refine zz_iconst zd_14_24_226 ?_
            refine zz_istore [some (.ref 1079), none, none, some (zi x3), some (zi 0), some (zi x5)] zd_14_24_227 (by decide) rfl ?_
            refine zz_iload (x := 0) rfl zd_14_24_229 ?_
            refine zz_if_eq (by omega) zd_14_24_231 (fun c59 => ?_) (fun c59 => ?_)
            · refine zz_aload_n (x := 1079) rfl zd_14_24_236 ?_
              refine zz_callVI [] zd_14_24_237 zk_Md_243 zT_1079 (zz_ltn hn rfl) rfl rfl ⟨Nat.le_of_ble_eq_true rfl, Nat.le_of_ble_eq_true rfl⟩ ⟨rfl, rfl⟩ (Nat.zero_le _) (Nat.zero_le _) (zc_unit_14_19  S n hn G_S ) (fun v61 S60 hP => ?_)
              obtain ⟨rfl, o62⟩ := hP
              refine zz_istore [some (.ref 1079), none, none, some (zi x3), some (zi 0), some (zi v61)] zd_14_24_240 (by decide) rfl ?_
              refine zz_iload (x := v61) rfl zd_14_24_242 ?_
              refine zz_if_ne (by omega) zd_14_24_244 (fun c63 => ?_) (fun c63 => ?_)
              · refine zz_iload (x := v61) rfl zd_14_24_265 ?_
                refine zz_iconst zd_14_24_267 ?_
                refine zz_icmp_ne (by omega) (by omega) zd_14_24_268 (fun c64 => ?_) (fun c64 => ?_)
                · refine zz_iconst zd_14_24_293 ?_
                  refine zz_istore [some (.ref 1079), none, none, some (zi x3), some (zi 0), some (zi v61)] zd_14_24_294 (by decide) rfl ?_
                  refine zz_aload_n (x := 1079) rfl zd_14_24_296 ?_
                  refine zz_callVV [] zd_14_24_297 zk_Md_247 zT_1079 (zz_ltn hn rfl) rfl rfl ⟨Nat.le_of_ble_eq_true rfl, Nat.le_of_ble_eq_true rfl⟩ ⟨rfl, rfl⟩ (Nat.zero_le _) (Nat.zero_le _) (zc_reaches_14_22  S n hn G_S ) (fun S65 hP => ?_)
                  obtain ⟨G_S65, fS65⟩ := hP
                  have F_S65 := zz_fr.trans F_S fS65 rfl zz_nv
                  refine zz_iconst zd_14_24_300 ?_
                  refine zz_istore [some (.ref 1079), none, none, some (zi x3), some (zi 0), some (zi v61), some (zi 0)] zd_14_24_301 (by decide) rfl ?_
                  refine zz_less (ls1 := [some (.ref 1079), none, none, none, some (zi 0), none, some (zi 0)]) ⟨rfl, ⟨rfl, ⟨rfl, trivial⟩⟩⟩ ?_
                  exact k303 0 0 S65 G_S65 F_S65 (by omega) (by omega) (by omega)
                · refine zz_aload_n (x := 1079) rfl zd_14_24_271 ?_
                  refine zz_getr (kd := 0) (z := 1087) zd_14_24_272 zf_Md_36 zT_1079 rfl (zz_ltn hn rfl) (zz_G.eq G_S 1079 11 1087 rfl rfl) (by decide) 1087 rfl ?_
                  refine zz_iconst zd_14_24_275 ?_
                  have g67 := zz_G.r G_S 1087 2 (-2147483648) 2147483647 rfl rfl
                  refine zz_iald (z := S 1087 2) zd_14_24_276 zT_1087 rfl (zz_ltn hn rfl) (by decide) (by decide) rfl ?_
                  refine zz_if_gt (by omega) zd_14_24_277 (fun c68 => ?_) (fun c68 => ?_)
                  · refine zz_iconst zd_14_24_289 ?_
                    refine zz_goto zd_14_24_290 ?_
                    refine zz_istore [some (.ref 1079), none, none, some (zi x3), some (zi 1), some (zi v61)] zd_14_24_294 (by decide) rfl ?_
                    refine zz_aload_n (x := 1079) rfl zd_14_24_296 ?_
                    refine zz_callVV [] zd_14_24_297 zk_Md_247 zT_1079 (zz_ltn hn rfl) rfl rfl ⟨Nat.le_of_ble_eq_true rfl, Nat.le_of_ble_eq_true rfl⟩ ⟨rfl, rfl⟩ (Nat.zero_le _) (Nat.zero_le _) (zc_reaches_14_22  S n hn G_S ) (fun S69 hP => ?_)
                    obtain ⟨G_S69, fS69⟩ := hP
                    have F_S69 := zz_fr.trans F_S fS69 rfl zz_nv
                    refine zz_iconst zd_14_24_300 ?_
                    refine zz_istore [some (.ref 1079), none, none, some (zi x3), some (zi 1), some (zi v61), some (zi 0)] zd_14_24_301 (by decide) rfl ?_
                    refine zz_less (ls1 := [some (.ref 1079), none, none, none, some (zi 1), none, some (zi 0)]) ⟨rfl, ⟨rfl, ⟨rfl, trivial⟩⟩⟩ ?_
                    exact k303 1 0 S69 G_S69 F_S69 (by omega) (by omega) (by omega)
                  · refine zz_aload_n (x := 1079) rfl zd_14_24_280 ?_
                    refine zz_getr (kd := 0) (z := 1087) zd_14_24_281 zf_Md_36 zT_1079 rfl (zz_ltn hn rfl) (zz_G.eq G_S 1079 11 1087 rfl rfl) (by decide) 1087 rfl ?_
                    refine zz_iconst zd_14_24_284 ?_
                    have g71 := zz_G.r G_S 1087 4 (-2147483648) 2147483647 rfl rfl
                    refine zz_iald (z := S 1087 4) zd_14_24_285 zT_1087 rfl (zz_ltn hn rfl) (by decide) (by decide) rfl ?_
                    refine zz_if_le (by omega) zd_14_24_286 (fun c72 => ?_) (fun c72 => ?_)
                    · refine zz_iconst zd_14_24_293 ?_
                      refine zz_istore [some (.ref 1079), none, none, some (zi x3), some (zi 0), some (zi v61)] zd_14_24_294 (by decide) rfl ?_
                      refine zz_aload_n (x := 1079) rfl zd_14_24_296 ?_
                      refine zz_callVV [] zd_14_24_297 zk_Md_247 zT_1079 (zz_ltn hn rfl) rfl rfl ⟨Nat.le_of_ble_eq_true rfl, Nat.le_of_ble_eq_true rfl⟩ ⟨rfl, rfl⟩ (Nat.zero_le _) (Nat.zero_le _) (zc_reaches_14_22  S n hn G_S ) (fun S73 hP => ?_)
                      obtain ⟨G_S73, fS73⟩ := hP
                      have F_S73 := zz_fr.trans F_S fS73 rfl zz_nv
                      refine zz_iconst zd_14_24_300 ?_
                      refine zz_istore [some (.ref 1079), none, none, some (zi x3), some (zi 0), some (zi v61), some (zi 0)] zd_14_24_301 (by decide) rfl ?_
                      refine zz_less (ls1 := [some (.ref 1079), none, none, none, some (zi 0), none, some (zi 0)]) ⟨rfl, ⟨rfl, ⟨rfl, trivial⟩⟩⟩ ?_
                      exact k303 0 0 S73 G_S73 F_S73 (by omega) (by omega) (by omega)
                    · refine zz_iconst zd_14_24_289 ?_
                      refine zz_goto zd_14_24_290 ?_
                      refine zz_istore [some (.ref 1079), none, none, some (zi x3), some (zi 1), some (zi v61)] zd_14_24_294 (by decide) rfl ?_
                      refine zz_aload_n (x := 1079) rfl zd_14_24_296 ?_
                      refine zz_callVV [] zd_14_24_297 zk_Md_247 zT_1079 (zz_ltn hn rfl) rfl rfl ⟨Nat.le_of_ble_eq_true rfl, Nat.le_of_ble_eq_true rfl⟩ ⟨rfl, rfl⟩ (Nat.zero_le _) (Nat.zero_le _) (zc_reaches_14_22  S n hn G_S ) (fun S75 hP => ?_)
                      obtain ⟨G_S75, fS75⟩ := hP
                      have F_S75 := zz_fr.trans F_S fS75 rfl zz_nv
                      refine zz_iconst zd_14_24_300 ?_
                      refine zz_istore [some (.ref 1079), none, none, some (zi x3), some (zi 1), some (zi v61), some (zi 0)] zd_14_24_301 (by decide) rfl ?_
                      refine zz_less (ls1 := [some (.ref 1079), none, none, none, some (zi 1), none, some (zi 0)]) ⟨rfl, ⟨rfl, ⟨rfl, trivial⟩⟩⟩ ?_
                      exact k303 1 0 S75 G_S75 F_S75 (by omega) (by omega) (by omega)
              · refine zz_aload_n (x := 1079) rfl zd_14_24_247 ?_
                refine zz_getr (kd := 0) (z := 1087) zd_14_24_248 zf_Md_36 zT_1079 rfl (zz_ltn hn rfl) (zz_G.eq G_S 1079 11 1087 rfl rfl) (by decide) 1087 rfl ?_
                refine zz_iconst zd_14_24_251 ?_
                have g77 := zz_G.r G_S 1087 1 (-2147483648) 2147483647 rfl rfl
                refine zz_iald (z := S 1087 1) zd_14_24_252 zT_1087 rfl (zz_ltn hn rfl) (by decide) (by decide) rfl ?_
                refine zz_if_gt (by omega) zd_14_24_253 (fun c78 => ?_) (fun c78 => ?_)
                · refine zz_iconst zd_14_24_289 ?_
                  refine zz_goto zd_14_24_290 ?_
                  refine zz_istore [some (.ref 1079), none, none, some (zi x3), some (zi 1), some (zi v61)] zd_14_24_294 (by decide) rfl ?_
                  refine zz_aload_n (x := 1079) rfl zd_14_24_296 ?_
                  refine zz_callVV [] zd_14_24_297 zk_Md_247 zT_1079 (zz_ltn hn rfl) rfl rfl ⟨Nat.le_of_ble_eq_true rfl, Nat.le_of_ble_eq_true rfl⟩ ⟨rfl, rfl⟩ (Nat.zero_le _) (Nat.zero_le _) (zc_reaches_14_22  S n hn G_S ) (fun S79 hP => ?_)
                  obtain ⟨G_S79, fS79⟩ := hP
                  have F_S79 := zz_fr.trans F_S fS79 rfl zz_nv
                  refine zz_iconst zd_14_24_300 ?_
                  refine zz_istore [some (.ref 1079), none, none, some (zi x3), some (zi 1), some (zi v61), some (zi 0)] zd_14_24_301 (by decide) rfl ?_
                  refine zz_less (ls1 := [some (.ref 1079), none, none, none, some (zi 1), none, some (zi 0)]) ⟨rfl, ⟨rfl, ⟨rfl, trivial⟩⟩⟩ ?_
                  exact k303 1 0 S79 G_S79 F_S79 (by omega) (by omega) (by omega)
                · refine zz_aload_n (x := 1079) rfl zd_14_24_256 ?_
                  refine zz_getr (kd := 0) (z := 1087) zd_14_24_257 zf_Md_36 zT_1079 rfl (zz_ltn hn rfl) (zz_G.eq G_S 1079 11 1087 rfl rfl) (by decide) 1087 rfl ?_
                  refine zz_iconst zd_14_24_260 ?_
                  have g81 := zz_G.r G_S 1087 3 (-2147483648) 2147483647 rfl rfl
                  refine zz_iald (z := S 1087 3) zd_14_24_261 zT_1087 rfl (zz_ltn hn rfl) (by decide) (by decide) rfl ?_
                  refine zz_if_gt (by omega) zd_14_24_262 (fun c82 => ?_) (fun c82 => ?_)
                  · refine zz_iconst zd_14_24_289 ?_
                    refine zz_goto zd_14_24_290 ?_
                    refine zz_istore [some (.ref 1079), none, none, some (zi x3), some (zi 1), some (zi v61)] zd_14_24_294 (by decide) rfl ?_
                    refine zz_aload_n (x := 1079) rfl zd_14_24_296 ?_
                    refine zz_callVV [] zd_14_24_297 zk_Md_247 zT_1079 (zz_ltn hn rfl) rfl rfl ⟨Nat.le_of_ble_eq_true rfl, Nat.le_of_ble_eq_true rfl⟩ ⟨rfl, rfl⟩ (Nat.zero_le _) (Nat.zero_le _) (zc_reaches_14_22  S n hn G_S ) (fun S83 hP => ?_)
                    obtain ⟨G_S83, fS83⟩ := hP
                    have F_S83 := zz_fr.trans F_S fS83 rfl zz_nv
                    refine zz_iconst zd_14_24_300 ?_
                    refine zz_istore [some (.ref 1079), none, none, some (zi x3), some (zi 1), some (zi v61), some (zi 0)] zd_14_24_301 (by decide) rfl ?_
                    refine zz_less (ls1 := [some (.ref 1079), none, none, none, some (zi 1), none, some (zi 0)]) ⟨rfl, ⟨rfl, ⟨rfl, trivial⟩⟩⟩ ?_
                    exact k303 1 0 S83 G_S83 F_S83 (by omega) (by omega) (by omega)
                  · refine zz_iload (x := v61) rfl zd_14_24_265 ?_
                    refine zz_iconst zd_14_24_267 ?_
                    refine zz_icmp_ne (by omega) (by omega) zd_14_24_268 (fun c85 => ?_) (fun c85 => ?_)
                    · refine zz_iconst zd_14_24_293 ?_
                      refine zz_istore [some (.ref 1079), none, none, some (zi x3), some (zi 0), some (zi v61)] zd_14_24_294 (by decide) rfl ?_
                      refine zz_aload_n (x := 1079) rfl zd_14_24_296 ?_
                      refine zz_callVV [] zd_14_24_297 zk_Md_247 zT_1079 (zz_ltn hn rfl) rfl rfl ⟨Nat.le_of_ble_eq_true rfl, Nat.le_of_ble_eq_true rfl⟩ ⟨rfl, rfl⟩ (Nat.zero_le _) (Nat.zero_le _) (zc_reaches_14_22  S n hn G_S ) (fun S86 hP => ?_)
                      obtain ⟨G_S86, fS86⟩ := hP
                      have F_S86 := zz_fr.trans F_S fS86 rfl zz_nv
                      refine zz_iconst zd_14_24_300 ?_
                      refine zz_istore [some (.ref 1079), none, none, some (zi x3), some (zi 0), some (zi v61), some (zi 0)] zd_14_24_301 (by decide) rfl ?_
                      refine zz_less (ls1 := [some (.ref 1079), none, none, none, some (zi 0), none, some (zi 0)]) ⟨rfl, ⟨rfl, ⟨rfl, trivial⟩⟩⟩ ?_
                      exact k303 0 0 S86 G_S86 F_S86 (by omega) (by omega) (by omega)
                    · exfalso; omega
            · exfalso; omega
          · refine zz_iconst zd_14_24_222 ?_
            refine zz_goto zd_14_24_223 ?_
            refine zz_istore [some (.ref 1079), none, none, some (zi x3), some (zi 1), some (zi x5)] zd_14_24_227 (by decide) rfl ?_
            refine zz_iload (x := 1) rfl zd_14_24_229 ?_
            refine zz_if_eq (by omega) zd_14_24_231 (fun c88 => ?_) (fun c88 => ?_)
            · exfalso; omega
            · refine zz_iconst zd_14_24_234 ?_
              exact zz_zret zd_14_24_235 rfl (by omega) (Nat.zero_le _) (Nat.zero_le _) ⟨_, _, rfl, G_S, F_S, by omega⟩
      · refine zz_aload_n (x := 1079) rfl zd_14_24_183 ?_
        refine zz_getr (kd := 0) (z := 1087) zd_14_24_184 zf_Md_36 zT_1079 rfl (zz_ltn hn rfl) (zz_G.eq G_S 1079 11 1087 rfl rfl) (by decide) 1087 rfl ?_
        refine zz_bipush (by decide) zd_14_24_187 ?_
        have g89 := zz_G.r G_S 1087 11 (-2147483648) 2147483647 rfl rfl
        refine zz_iald (z := S 1087 11) zd_14_24_189 zT_1087 rfl (zz_ltn hn rfl) (by decide) (by decide) rfl ?_
        refine zz_iconst zd_14_24_190 ?_
        refine zz_idiv (by omega) (by omega) zd_14_24_191 (fun v90 hv90 av90 bv90 cv90 => ?_)
        refine zz_i2l (by omega) zd_14_24_192 ?_
        refine zz_lconst (z := 1) (by decide) zd_14_24_193 ?_
        refine zz_aload_n (x := 1079) rfl zd_14_24_194 ?_
        have g91 := zz_G.r G_S0 1079 1 2 8 rfl rfl
        refine zz_geti (z := S0 1079 1) zd_14_24_195 zf_Md_7 zT_1079 rfl (zz_ltn hn rfl) (zz_rc F_S rfl rfl (fun h => h) rfl) ?_
        refine zz_i2l (by omega) zd_14_24_198 ?_
        refine zz_callSI [zl v90, zl 1, zl (S0 1079 1)] zd_14_24_199 zk_Md_192 rfl rfl ⟨Nat.le_of_ble_eq_true rfl, Nat.le_of_ble_eq_true rfl⟩ ⟨rfl, rfl⟩ (Nat.zero_le _) (Nat.zero_le _) (zc_in_14_4 v90 1 (S0 1079 1) S n hn G_S (by omega) (by omega) (by omega)) (fun v93 S92 hP => ?_)
        obtain ⟨rfl, o94, o95⟩ := hP
        rcases (by omega : v93 = 0 ∨ v93 = 1) with rfl | rfl
        · refine zz_if_eq (by omega) zd_14_24_202 (fun c96 => ?_) (fun c96 => ?_)
          · refine zz_iconst zd_14_24_222 ?_
            refine zz_goto zd_14_24_223 ?_
            refine zz_istore [some (.ref 1079), none, none, some (zi x3), some (zi 1), some (zi x5)] zd_14_24_227 (by decide) rfl ?_
            refine zz_iload (x := 1) rfl zd_14_24_229 ?_
            refine zz_if_eq (by omega) zd_14_24_231 (fun c97 => ?_) (fun c97 => ?_)
            · exfalso; omega
            · refine zz_iconst zd_14_24_234 ?_
              exact zz_zret zd_14_24_235 rfl (by omega) (Nat.zero_le _) (Nat.zero_le _) ⟨_, _, rfl, G_S, F_S, by omega⟩
          · exfalso; omega
        · refine zz_if_eq (by omega) zd_14_24_202 (fun c98 => ?_) (fun c98 => ?_)
          · exfalso; omega
          · refine zz_iload_n (x := x3) rfl zd_14_24_205 ?_
            refine zz_bipush (by decide) zd_14_24_206 ?_
            refine zz_icmp_ne (by omega) (by omega) zd_14_24_208 (fun c99 => ?_) (fun c99 => ?_)
            · refine zz_iconst zd_14_24_226 ?_
              refine zz_istore [some (.ref 1079), none, none, some (zi x3), some (zi 0), some (zi x5)] zd_14_24_227 (by decide) rfl ?_
              refine zz_iload (x := 0) rfl zd_14_24_229 ?_
              refine zz_if_eq (by omega) zd_14_24_231 (fun c100 => ?_) (fun c100 => ?_)
              · refine zz_aload_n (x := 1079) rfl zd_14_24_236 ?_
                refine zz_callVI [] zd_14_24_237 zk_Md_243 zT_1079 (zz_ltn hn rfl) rfl rfl ⟨Nat.le_of_ble_eq_true rfl, Nat.le_of_ble_eq_true rfl⟩ ⟨rfl, rfl⟩ (Nat.zero_le _) (Nat.zero_le _) (zc_unit_14_19  S n hn G_S ) (fun v102 S101 hP => ?_)
                obtain ⟨rfl, o103⟩ := hP
                refine zz_istore [some (.ref 1079), none, none, some (zi x3), some (zi 0), some (zi v102)] zd_14_24_240 (by decide) rfl ?_
                refine zz_iload (x := v102) rfl zd_14_24_242 ?_
                refine zz_if_ne (by omega) zd_14_24_244 (fun c104 => ?_) (fun c104 => ?_)
                · refine zz_iload (x := v102) rfl zd_14_24_265 ?_
                  refine zz_iconst zd_14_24_267 ?_
                  refine zz_icmp_ne (by omega) (by omega) zd_14_24_268 (fun c105 => ?_) (fun c105 => ?_)
                  · refine zz_iconst zd_14_24_293 ?_
                    refine zz_istore [some (.ref 1079), none, none, some (zi x3), some (zi 0), some (zi v102)] zd_14_24_294 (by decide) rfl ?_
                    refine zz_aload_n (x := 1079) rfl zd_14_24_296 ?_
                    refine zz_callVV [] zd_14_24_297 zk_Md_247 zT_1079 (zz_ltn hn rfl) rfl rfl ⟨Nat.le_of_ble_eq_true rfl, Nat.le_of_ble_eq_true rfl⟩ ⟨rfl, rfl⟩ (Nat.zero_le _) (Nat.zero_le _) (zc_reaches_14_22  S n hn G_S ) (fun S106 hP => ?_)
                    obtain ⟨G_S106, fS106⟩ := hP
                    have F_S106 := zz_fr.trans F_S fS106 rfl zz_nv
                    refine zz_iconst zd_14_24_300 ?_
                    refine zz_istore [some (.ref 1079), none, none, some (zi x3), some (zi 0), some (zi v102), some (zi 0)] zd_14_24_301 (by decide) rfl ?_
                    refine zz_less (ls1 := [some (.ref 1079), none, none, none, some (zi 0), none, some (zi 0)]) ⟨rfl, ⟨rfl, ⟨rfl, trivial⟩⟩⟩ ?_
                    exact k303 0 0 S106 G_S106 F_S106 (by omega) (by omega) (by omega)
                  · refine zz_aload_n (x := 1079) rfl zd_14_24_271 ?_
                    refine zz_getr (kd := 0) (z := 1087) zd_14_24_272 zf_Md_36 zT_1079 rfl (zz_ltn hn rfl) (zz_G.eq G_S 1079 11 1087 rfl rfl) (by decide) 1087 rfl ?_
                    refine zz_iconst zd_14_24_275 ?_
                    have g108 := zz_G.r G_S 1087 2 (-2147483648) 2147483647 rfl rfl
                    refine zz_iald (z := S 1087 2) zd_14_24_276 zT_1087 rfl (zz_ltn hn rfl) (by decide) (by decide) rfl ?_
                    refine zz_if_gt (by omega) zd_14_24_277 (fun c109 => ?_) (fun c109 => ?_)
                    · refine zz_iconst zd_14_24_289 ?_
                      refine zz_goto zd_14_24_290 ?_
                      refine zz_istore [some (.ref 1079), none, none, some (zi x3), some (zi 1), some (zi v102)] zd_14_24_294 (by decide) rfl ?_
                      refine zz_aload_n (x := 1079) rfl zd_14_24_296 ?_
                      refine zz_callVV [] zd_14_24_297 zk_Md_247 zT_1079 (zz_ltn hn rfl) rfl rfl ⟨Nat.le_of_ble_eq_true rfl, Nat.le_of_ble_eq_true rfl⟩ ⟨rfl, rfl⟩ (Nat.zero_le _) (Nat.zero_le _) (zc_reaches_14_22  S n hn G_S ) (fun S110 hP => ?_)
                      obtain ⟨G_S110, fS110⟩ := hP
                      have F_S110 := zz_fr.trans F_S fS110 rfl zz_nv
                      refine zz_iconst zd_14_24_300 ?_
                      refine zz_istore [some (.ref 1079), none, none, some (zi x3), some (zi 1), some (zi v102), some (zi 0)] zd_14_24_301 (by decide) rfl ?_
                      refine zz_less (ls1 := [some (.ref 1079), none, none, none, some (zi 1), none, some (zi 0)]) ⟨rfl, ⟨rfl, ⟨rfl, trivial⟩⟩⟩ ?_
                      exact k303 1 0 S110 G_S110 F_S110 (by omega) (by omega) (by omega)
                    · refine zz_aload_n (x := 1079) rfl zd_14_24_280 ?_
                      refine zz_getr (kd := 0) (z := 1087) zd_14_24_281 zf_Md_36 zT_1079 rfl (zz_ltn hn rfl) (zz_G.eq G_S 1079 11 1087 rfl rfl) (by decide) 1087 rfl ?_
                      refine zz_iconst zd_14_24_284 ?_
                      have g112 := zz_G.r G_S 1087 4 (-2147483648) 2147483647 rfl rfl
                      refine zz_iald (z := S 1087 4) zd_14_24_285 zT_1087 rfl (zz_ltn hn rfl) (by decide) (by decide) rfl ?_
                      refine zz_if_le (by omega) zd_14_24_286 (fun c113 => ?_) (fun c113 => ?_)
                      · refine zz_iconst zd_14_24_293 ?_
                        refine zz_istore [some (.ref 1079), none, none, some (zi x3), some (zi 0), some (zi v102)] zd_14_24_294 (by decide) rfl ?_
                        refine zz_aload_n (x := 1079) rfl zd_14_24_296 ?_
                        refine zz_callVV [] zd_14_24_297 zk_Md_247 zT_1079 (zz_ltn hn rfl) rfl rfl ⟨Nat.le_of_ble_eq_true rfl, Nat.le_of_ble_eq_true rfl⟩ ⟨rfl, rfl⟩ (Nat.zero_le _) (Nat.zero_le _) (zc_reaches_14_22  S n hn G_S ) (fun S114 hP => ?_)
                        obtain ⟨G_S114, fS114⟩ := hP
                        have F_S114 := zz_fr.trans F_S fS114 rfl zz_nv
                        refine zz_iconst zd_14_24_300 ?_
                        refine zz_istore [some (.ref 1079), none, none, some (zi x3), some (zi 0), some (zi v102), some (zi 0)] zd_14_24_301 (by decide) rfl ?_
                        refine zz_less (ls1 := [some (.ref 1079), none, none, none, some (zi 0), none, some (zi 0)]) ⟨rfl, ⟨rfl, ⟨rfl, trivial⟩⟩⟩ ?_
                        exact k303 0 0 S114 G_S114 F_S114 (by omega) (by omega) (by omega)
                      · refine zz_iconst zd_14_24_289 ?_
                        refine zz_goto zd_14_24_290 ?_
                        refine zz_istore [some (.ref 1079), none, none, some (zi x3), some (zi 1), some (zi v102)] zd_14_24_294 (by decide) rfl ?_
                        refine zz_aload_n (x := 1079) rfl zd_14_24_296 ?_
                        refine zz_callVV [] zd_14_24_297 zk_Md_247 zT_1079 (zz_ltn hn rfl) rfl rfl ⟨Nat.le_of_ble_eq_true rfl, Nat.le_of_ble_eq_true rfl⟩ ⟨rfl, rfl⟩ (Nat.zero_le _) (Nat.zero_le _) (zc_reaches_14_22  S n hn G_S ) (fun S116 hP => ?_)
                        obtain ⟨G_S116, fS116⟩ := hP
                        have F_S116 := zz_fr.trans F_S fS116 rfl zz_nv
                        refine zz_iconst zd_14_24_300 ?_
                        refine zz_istore [some (.ref 1079), none, none, some (zi x3), some (zi 1), some (zi v102), some (zi 0)] zd_14_24_301 (by decide) rfl ?_
                        refine zz_less (ls1 := [some (.ref 1079), none, none, none, some (zi 1), none, some (zi 0)]) ⟨rfl, ⟨rfl, ⟨rfl, trivial⟩⟩⟩ ?_
                        exact k303 1 0 S116 G_S116 F_S116 (by omega) (by omega) (by omega)
                · refine zz_aload_n (x := 1079) rfl zd_14_24_247 ?_
                  refine zz_getr (kd := 0) (z := 1087) zd_14_24_248 zf_Md_36 zT_1079 rfl (zz_ltn hn rfl) (zz_G.eq G_S 1079 11 1087 rfl rfl) (by decide) 1087 rfl ?_
                  refine zz_iconst zd_14_24_251 ?_
                  have g118 := zz_G.r G_S 1087 1 (-2147483648) 2147483647 rfl rfl
                  refine zz_iald (z := S 1087 1) zd_14_24_252 zT_1087 rfl (zz_ltn hn rfl) (by decide) (by decide) rfl ?_
                  refine zz_if_gt (by omega) zd_14_24_253 (fun c119 => ?_) (fun c119 => ?_)
                  · refine zz_iconst zd_14_24_289 ?_
                    refine zz_goto zd_14_24_290 ?_
                    refine zz_istore [some (.ref 1079), none, none, some (zi x3), some (zi 1), some (zi v102)] zd_14_24_294 (by decide) rfl ?_
                    refine zz_aload_n (x := 1079) rfl zd_14_24_296 ?_
                    refine zz_callVV [] zd_14_24_297 zk_Md_247 zT_1079 (zz_ltn hn rfl) rfl rfl ⟨Nat.le_of_ble_eq_true rfl, Nat.le_of_ble_eq_true rfl⟩ ⟨rfl, rfl⟩ (Nat.zero_le _) (Nat.zero_le _) (zc_reaches_14_22  S n hn G_S ) (fun S120 hP => ?_)
                    obtain ⟨G_S120, fS120⟩ := hP
                    have F_S120 := zz_fr.trans F_S fS120 rfl zz_nv
                    refine zz_iconst zd_14_24_300 ?_
                    refine zz_istore [some (.ref 1079), none, none, some (zi x3), some (zi 1), some (zi v102), some (zi 0)] zd_14_24_301 (by decide) rfl ?_
                    refine zz_less (ls1 := [some (.ref 1079), none, none, none, some (zi 1), none, some (zi 0)]) ⟨rfl, ⟨rfl, ⟨rfl, trivial⟩⟩⟩ ?_
                    exact k303 1 0 S120 G_S120 F_S120 (by omega) (by omega) (by omega)
                  · refine zz_aload_n (x := 1079) rfl zd_14_24_256 ?_
                    refine zz_getr (kd := 0) (z := 1087) zd_14_24_257 zf_Md_36 zT_1079 rfl (zz_ltn hn rfl) (zz_G.eq G_S 1079 11 1087 rfl rfl) (by decide) 1087 rfl ?_
                    refine zz_iconst zd_14_24_260 ?_
                    have g122 := zz_G.r G_S 1087 3 (-2147483648) 2147483647 rfl rfl
                    refine zz_iald (z := S 1087 3) zd_14_24_261 zT_1087 rfl (zz_ltn hn rfl) (by decide) (by decide) rfl ?_
                    refine zz_if_gt (by omega) zd_14_24_262 (fun c123 => ?_) (fun c123 => ?_)
                    · refine zz_iconst zd_14_24_289 ?_
                      refine zz_goto zd_14_24_290 ?_
                      refine zz_istore [some (.ref 1079), none, none, some (zi x3), some (zi 1), some (zi v102)] zd_14_24_294 (by decide) rfl ?_
                      refine zz_aload_n (x := 1079) rfl zd_14_24_296 ?_
                      refine zz_callVV [] zd_14_24_297 zk_Md_247 zT_1079 (zz_ltn hn rfl) rfl rfl ⟨Nat.le_of_ble_eq_true rfl, Nat.le_of_ble_eq_true rfl⟩ ⟨rfl, rfl⟩ (Nat.zero_le _) (Nat.zero_le _) (zc_reaches_14_22  S n hn G_S ) (fun S124 hP => ?_)
                      obtain ⟨G_S124, fS124⟩ := hP
                      have F_S124 := zz_fr.trans F_S fS124 rfl zz_nv
                      refine zz_iconst zd_14_24_300 ?_
                      refine zz_istore [some (.ref 1079), none, none, some (zi x3), some (zi 1), some (zi v102), some (zi 0)] zd_14_24_301 (by decide) rfl ?_
                      refine zz_less (ls1 := [some (.ref 1079), none, none, none, some (zi 1), none, some (zi 0)]) ⟨rfl, ⟨rfl, ⟨rfl, trivial⟩⟩⟩ ?_
                      exact k303 1 0 S124 G_S124 F_S124 (by omega) (by omega) (by omega)
                    · refine zz_iload (x := v102) rfl zd_14_24_265 ?_
                      refine zz_iconst zd_14_24_267 ?_
                      refine zz_icmp_ne (by omega) (by omega) zd_14_24_268 (fun c126 => ?_) (fun c126 => ?_)
                      · refine zz_iconst zd_14_24_293 ?_
                        refine zz_istore [some (.ref 1079), none, none, some (zi x3), some (zi 0), some (zi v102)] zd_14_24_294 (by decide) rfl ?_
                        refine zz_aload_n (x := 1079) rfl zd_14_24_296 ?_
                        refine zz_callVV [] zd_14_24_297 zk_Md_247 zT_1079 (zz_ltn hn rfl) rfl rfl ⟨Nat.le_of_ble_eq_true rfl, Nat.le_of_ble_eq_true rfl⟩ ⟨rfl, rfl⟩ (Nat.zero_le _) (Nat.zero_le _) (zc_reaches_14_22  S n hn G_S ) (fun S127 hP => ?_)
                        obtain ⟨G_S127, fS127⟩ := hP
                        have F_S127 := zz_fr.trans F_S fS127 rfl zz_nv
                        refine zz_iconst zd_14_24_300 ?_
                        refine zz_istore [some (.ref 1079), none, none, some (zi x3), some (zi 0), some (zi v102), some (zi 0)] zd_14_24_301 (by decide) rfl ?_
                        refine zz_less (ls1 := [some (.ref 1079), none, none, none, some (zi 0), none, some (zi 0)]) ⟨rfl, ⟨rfl, ⟨rfl, trivial⟩⟩⟩ ?_
                        exact k303 0 0 S127 G_S127 F_S127 (by omega) (by omega) (by omega)
                      · exfalso; omega
              · exfalso; omega
            · exfalso; omega
  · refine zz_iload (x := x4) rfl zd_14_24_122 ?_
    refine zz_if_ne (by omega) zd_14_24_124 (fun c129 => ?_) (fun c129 => ?_)
    · refine zz_iconst zd_14_24_160 ?_
      refine zz_goto zd_14_24_161 ?_
      refine zz_istore [some (.ref 1079), none, none, some (zi x3), some (zi 1), some (zi x5)] zd_14_24_165 (by decide) rfl ?_
      refine zz_iinc [some (.ref 1079), none, none, some (zi x3), some (zi 1), some (zi (x5 + 1))] zd_14_24_167 rfl rfl ?_
      refine zz_goto zd_14_24_170 ?_
      refine zz_less (ls1 := [some (.ref 1079), none, none, some (zi x3), some (zi 1), some (zi (x5 + 1))]) ⟨rfl, ⟨rfl, ⟨rfl, ⟨rfl, trivial⟩⟩⟩⟩ ?_
      exact k115 x3 1 (x5 + 1) S G_S F_S (by omega) (by omega) (by omega) (by omega)
    · refine zz_iload (x := x5) rfl zd_14_24_127 ?_
      refine zz_bipush (by decide) zd_14_24_129 ?_
      refine zz_icmp_eq (by omega) (by omega) zd_14_24_131 (fun c130 => ?_) (fun c130 => ?_)
      · refine zz_iconst zd_14_24_164 ?_
        refine zz_istore [some (.ref 1079), none, none, some (zi x3), some (zi 0), some (zi x5)] zd_14_24_165 (by decide) rfl ?_
        refine zz_iinc [some (.ref 1079), none, none, some (zi x3), some (zi 0), some (zi (x5 + 1))] zd_14_24_167 rfl rfl ?_
        refine zz_goto zd_14_24_170 ?_
        refine zz_less (ls1 := [some (.ref 1079), none, none, some (zi x3), some (zi 0), some (zi (x5 + 1))]) ⟨rfl, ⟨rfl, ⟨rfl, ⟨rfl, trivial⟩⟩⟩⟩ ?_
        exact k115 x3 0 (x5 + 1) S G_S F_S (by omega) (by omega) (by omega) (by omega)
      · refine zz_iload (x := x5) rfl zd_14_24_134 ?_
        refine zz_bipush (by decide) zd_14_24_136 ?_
        refine zz_icmp_eq (by omega) (by omega) zd_14_24_138 (fun c131 => ?_) (fun c131 => ?_)
        · refine zz_iconst zd_14_24_164 ?_
          refine zz_istore [some (.ref 1079), none, none, some (zi x3), some (zi 0), some (zi x5)] zd_14_24_165 (by decide) rfl ?_
          refine zz_iinc [some (.ref 1079), none, none, some (zi x3), some (zi 0), some (zi (x5 + 1))] zd_14_24_167 rfl rfl ?_
          refine zz_goto zd_14_24_170 ?_
          refine zz_less (ls1 := [some (.ref 1079), none, none, some (zi x3), some (zi 0), some (zi (x5 + 1))]) ⟨rfl, ⟨rfl, ⟨rfl, ⟨rfl, trivial⟩⟩⟩⟩ ?_
          exact k115 x3 0 (x5 + 1) S G_S F_S (by omega) (by omega) (by omega) (by omega)
        · refine zz_iload_n (x := x3) rfl zd_14_24_141 ?_
          refine zz_iload (x := x5) rfl zd_14_24_142 ?_
          refine zz_callSI [zi x3, zi x5] zd_14_24_144 zk_Md_240 rfl rfl ⟨Nat.le_of_ble_eq_true rfl, Nat.le_of_ble_eq_true rfl⟩ ⟨rfl, rfl⟩ (Nat.zero_le _) (Nat.zero_le _) (zc_names_14_23 x3 x5 S n hn G_S (by omega) (by omega)) (fun v133 S132 hP => ?_)
          obtain ⟨rfl, o134⟩ := hP
          rcases (by omega : v133 = 0 ∨ v133 = 1) with rfl | rfl
          · refine zz_if_ne (by omega) zd_14_24_147 (fun c135 => ?_) (fun c135 => ?_)
            · exfalso; omega
            · refine zz_aload_n (x := 1079) rfl zd_14_24_150 ?_
              refine zz_getr (kd := 0) (z := 1087) zd_14_24_151 zf_Md_36 zT_1079 rfl (zz_ltn hn rfl) (zz_G.eq G_S 1079 11 1087 rfl rfl) (by decide) 1087 rfl ?_
              refine zz_iload (x := x5) rfl zd_14_24_154 ?_
              have g136 := zz_G.r G_S 1087 x5.toNat (-2147483648) 2147483647 rfl rfl
              refine zz_iald (z := S 1087 x5.toNat) zd_14_24_156 zT_1087 rfl (zz_ltn hn rfl) (by decide) (by omega) rfl ?_
              refine zz_if_eq (by omega) zd_14_24_157 (fun c137 => ?_) (fun c137 => ?_)
              · refine zz_iconst zd_14_24_164 ?_
                refine zz_istore [some (.ref 1079), none, none, some (zi x3), some (zi 0), some (zi x5)] zd_14_24_165 (by decide) rfl ?_
                refine zz_iinc [some (.ref 1079), none, none, some (zi x3), some (zi 0), some (zi (x5 + 1))] zd_14_24_167 rfl rfl ?_
                refine zz_goto zd_14_24_170 ?_
                refine zz_less (ls1 := [some (.ref 1079), none, none, some (zi x3), some (zi 0), some (zi (x5 + 1))]) ⟨rfl, ⟨rfl, ⟨rfl, ⟨rfl, trivial⟩⟩⟩⟩ ?_
                exact k115 x3 0 (x5 + 1) S G_S F_S (by omega) (by omega) (by omega) (by omega)
              · refine zz_iconst zd_14_24_160 ?_
                refine zz_goto zd_14_24_161 ?_
                refine zz_istore [some (.ref 1079), none, none, some (zi x3), some (zi 1), some (zi x5)] zd_14_24_165 (by decide) rfl ?_
                refine zz_iinc [some (.ref 1079), none, none, some (zi x3), some (zi 1), some (zi (x5 + 1))] zd_14_24_167 rfl rfl ?_
                refine zz_goto zd_14_24_170 ?_
                refine zz_less (ls1 := [some (.ref 1079), none, none, some (zi x3), some (zi 1), some (zi (x5 + 1))]) ⟨rfl, ⟨rfl, ⟨rfl, ⟨rfl, trivial⟩⟩⟩⟩ ?_
                exact k115 x3 1 (x5 + 1) S G_S F_S (by omega) (by omega) (by omega) (by omega)
          · refine zz_if_ne (by omega) zd_14_24_147 (fun c138 => ?_) (fun c138 => ?_)
            · refine zz_iconst zd_14_24_164 ?_
              refine zz_istore [some (.ref 1079), none, none, some (zi x3), some (zi 0), some (zi x5)] zd_14_24_165 (by decide) rfl ?_
              refine zz_iinc [some (.ref 1079), none, none, some (zi x3), some (zi 0), some (zi (x5 + 1))] zd_14_24_167 rfl rfl ?_
              refine zz_goto zd_14_24_170 ?_
              refine zz_less (ls1 := [some (.ref 1079), none, none, some (zi x3), some (zi 0), some (zi (x5 + 1))]) ⟨rfl, ⟨rfl, ⟨rfl, ⟨rfl, trivial⟩⟩⟩⟩ ?_
              exact k115 x3 0 (x5 + 1) S G_S F_S (by omega) (by omega) (by omega) (by omega)
            · exfalso; omega
theorem zb_isIllegal_14_24_303 {g : mm_G} {l : Launch} (p0 : Int) (S0 : zz_S) (n : Nat) (hn : zz_end ≤ n) (G_S0 : zz_G S0) (hp0 : (-9223372036854775808) ≤ p0 ∧ p0 ≤ 9223372036854775807) (x4 : Int) (x6 : Int) (S : zz_S) (G_S : zz_G S) (F_S : zz_fr [] [1087, 1088, 1089] (fun _ _ => False) S0 S) (i303_0 : (-2147483648) ≤ x4 ∧ x4 ≤ 2147483647) (i303_1 : 0 ≤ x6 ∧ x6 ≤ 2147483647) (R : Nat) (hR : (17179869184 + (5 - x6).toNat) = R) (k303 : ∀ (x4 : Int) (x6 : Int) (S : zz_S), zz_G S → zz_fr [] [1087, 1088, 1089] (fun _ _ => False) S0 S → ((-2147483648) ≤ x4 ∧ x4 ≤ 2147483647) → (0 ≤ x6 ∧ x6 ≤ 2147483647) → (17179869184 + (5 - x6).toNat) < R → zz_E g l zy_isIllegal_14_24 zr_isIllegal_14_24 (zz_QI n (zp_isIllegal_14_24 p0 S0)) S n 303 [some (.ref 1079), none, none, none, some (zi x4), none, some (zi x6)] [] 0 0) : zz_E g l zy_isIllegal_14_24 zr_isIllegal_14_24 (zz_QI n (zp_isIllegal_14_24 p0 S0)) S n 303 [some (.ref 1079), none, none, none, some (zi x4), none, some (zi x6)] [] 0 0 := by
  refine zz_iload (x := x6) rfl zd_14_24_303 ?_
  refine zz_iconst zd_14_24_305 ?_
  refine zz_icmp_ge (by omega) (by omega) zd_14_24_306 (fun c139 => ?_) (fun c139 => ?_)
  · refine zz_iload (x := x4) rfl zd_14_24_365 ?_
    exact zz_zret zd_14_24_367 rfl (by omega) (Nat.zero_le _) (Nat.zero_le _) ⟨_, _, rfl, G_S, F_S, by omega⟩
  · refine zz_iload (x := x4) rfl zd_14_24_309 ?_
    refine zz_if_ne (by omega) zd_14_24_311 (fun c140 => ?_) (fun c140 => ?_)
    · refine zz_iconst zd_14_24_352 ?_
      refine zz_goto zd_14_24_353 ?_
      refine zz_istore [some (.ref 1079), none, none, none, some (zi 1), none, some (zi x6)] zd_14_24_357 (by decide) rfl ?_
      refine zz_iinc [some (.ref 1079), none, none, none, some (zi 1), none, some (zi (x6 + 1))] zd_14_24_359 rfl rfl ?_
      refine zz_goto zd_14_24_362 ?_
      refine zz_less (ls1 := [some (.ref 1079), none, none, none, some (zi 1), none, some (zi (x6 + 1))]) ⟨rfl, ⟨rfl, ⟨rfl, trivial⟩⟩⟩ ?_
      exact k303 1 (x6 + 1) S G_S F_S (by omega) (by omega) (by omega)
    · refine zz_aload_n (x := 1079) rfl zd_14_24_314 ?_
      refine zz_getr (kd := 0) (z := 1088) zd_14_24_315 zf_Md_39 zT_1079 rfl (zz_ltn hn rfl) (zz_G.eq G_S 1079 12 1088 rfl rfl) (by decide) 1088 rfl ?_
      refine zz_iconst zd_14_24_318 ?_
      refine zz_iload (x := x6) rfl zd_14_24_319 ?_
      refine zz_imul zd_14_24_321 ?_
      refine zz_iconst zd_14_24_322 ?_
      refine zz_iadd zd_14_24_323 ?_
      have g141 := zz_G.r G_S 1088 (((2 * x6) + 1).toNat) (-2147483648) 2147483647 rfl rfl
      refine zz_iald (z := S 1088 (((2 * x6) + 1).toNat)) zd_14_24_324 zT_1088 rfl (zz_ltn hn rfl) (by decide) (by omega) rfl ?_
      refine zz_iload (x := x6) rfl zd_14_24_325 ?_
      refine zz_callSI [zi x6] zd_14_24_327 zk_Md_212 rfl rfl ⟨Nat.le_of_ble_eq_true rfl, Nat.le_of_ble_eq_true rfl⟩ ⟨rfl, rfl⟩ (Nat.zero_le _) (Nat.zero_le _) (zc_roomOf_14_9 x6 S n hn G_S (by omega)) (fun v143 S142 hP => ?_)
      obtain ⟨rfl, o144, o145⟩ := hP
      refine zz_icmp_ge (by omega) (by omega) zd_14_24_330 (fun c146 => ?_) (fun c146 => ?_)
      · refine zz_iconst zd_14_24_352 ?_
        refine zz_goto zd_14_24_353 ?_
        refine zz_istore [some (.ref 1079), none, none, none, some (zi 1), none, some (zi x6)] zd_14_24_357 (by decide) rfl ?_
        refine zz_iinc [some (.ref 1079), none, none, none, some (zi 1), none, some (zi (x6 + 1))] zd_14_24_359 rfl rfl ?_
        refine zz_goto zd_14_24_362 ?_
        refine zz_less (ls1 := [some (.ref 1079), none, none, none, some (zi 1), none, some (zi (x6 + 1))]) ⟨rfl, ⟨rfl, ⟨rfl, trivial⟩⟩⟩ ?_
        exact k303 1 (x6 + 1) S G_S F_S (by omega) (by omega) (by omega)
      · refine zz_aload_n (x := 1079) rfl zd_14_24_333 ?_
        refine zz_getr (kd := 0) (z := 1089) zd_14_24_334 zf_Md_42 zT_1079 rfl (zz_ltn hn rfl) (zz_G.eq G_S 1079 13 1089 rfl rfl) (by decide) 1089 rfl ?_
        refine zz_iconst zd_14_24_337 ?_
        refine zz_iload (x := x6) rfl zd_14_24_338 ?_
        refine zz_imul zd_14_24_340 ?_
        refine zz_iconst zd_14_24_341 ?_
        refine zz_iadd zd_14_24_342 ?_
        have g147 := zz_G.r G_S 1089 (((2 * x6) + 1).toNat) (-2147483648) 2147483647 rfl rfl
        refine zz_iald (z := S 1089 (((2 * x6) + 1).toNat)) zd_14_24_343 zT_1089 rfl (zz_ltn hn rfl) (by decide) (by omega) rfl ?_
        refine zz_iload (x := x6) rfl zd_14_24_344 ?_
        refine zz_callSI [zi x6] zd_14_24_346 zk_Md_212 rfl rfl ⟨Nat.le_of_ble_eq_true rfl, Nat.le_of_ble_eq_true rfl⟩ ⟨rfl, rfl⟩ (Nat.zero_le _) (Nat.zero_le _) (zc_roomOf_14_9 x6 S n hn G_S (by omega)) (fun v149 S148 hP => ?_)
        obtain ⟨rfl, o150, o151⟩ := hP
        refine zz_icmp_lt (by omega) (by omega) zd_14_24_349 (fun c152 => ?_) (fun c152 => ?_)
        · refine zz_iconst zd_14_24_356 ?_
          refine zz_istore [some (.ref 1079), none, none, none, some (zi 0), none, some (zi x6)] zd_14_24_357 (by decide) rfl ?_
          refine zz_iinc [some (.ref 1079), none, none, none, some (zi 0), none, some (zi (x6 + 1))] zd_14_24_359 rfl rfl ?_
          refine zz_goto zd_14_24_362 ?_
          refine zz_less (ls1 := [some (.ref 1079), none, none, none, some (zi 0), none, some (zi (x6 + 1))]) ⟨rfl, ⟨rfl, ⟨rfl, trivial⟩⟩⟩ ?_
          exact k303 0 (x6 + 1) S G_S F_S (by omega) (by omega) (by omega)
        · refine zz_iconst zd_14_24_352 ?_
          refine zz_goto zd_14_24_353 ?_
          refine zz_istore [some (.ref 1079), none, none, none, some (zi 1), none, some (zi x6)] zd_14_24_357 (by decide) rfl ?_
          refine zz_iinc [some (.ref 1079), none, none, none, some (zi 1), none, some (zi (x6 + 1))] zd_14_24_359 rfl rfl ?_
          refine zz_goto zd_14_24_362 ?_
          refine zz_less (ls1 := [some (.ref 1079), none, none, none, some (zi 1), none, some (zi (x6 + 1))]) ⟨rfl, ⟨rfl, ⟨rfl, trivial⟩⟩⟩ ?_
          exact k303 1 (x6 + 1) S G_S F_S (by omega) (by omega) (by omega)
theorem zi_isIllegal_14_24 {g : mm_G} {l : Launch} (p0 : Int) (S0 : zz_S) (n : Nat) (hn : zz_end ≤ n) (G_S0 : zz_G S0) (hp0 : (-9223372036854775808) ≤ p0 ∧ p0 ≤ 9223372036854775807) : ∀ N : Nat, (∀ (x3 : Int) (x4 : Int) (x5 : Int) (S : zz_S), zz_G S → zz_fr [] [1087, 1088, 1089] (fun _ _ => False) S0 S → (1 ≤ x3 ∧ x3 ≤ 8) → ((-2147483648) ≤ x4 ∧ x4 ≤ 2147483647) → (5 ≤ x5 ∧ x5 ≤ 2147483647) → (34359738368 + (12 - x5).toNat) < N → zz_E g l zy_isIllegal_14_24 zr_isIllegal_14_24 (zz_QI n (zp_isIllegal_14_24 p0 S0)) S n 115 [some (.ref 1079), none, none, some (zi x3), some (zi x4), some (zi x5)] [] 0 0) ∧ (∀ (x4 : Int) (x6 : Int) (S : zz_S), zz_G S → zz_fr [] [1087, 1088, 1089] (fun _ _ => False) S0 S → ((-2147483648) ≤ x4 ∧ x4 ≤ 2147483647) → (0 ≤ x6 ∧ x6 ≤ 2147483647) → (17179869184 + (5 - x6).toNat) < N → zz_E g l zy_isIllegal_14_24 zr_isIllegal_14_24 (zz_QI n (zp_isIllegal_14_24 p0 S0)) S n 303 [some (.ref 1079), none, none, none, some (zi x4), none, some (zi x6)] [] 0 0) := by
  intro N
  induction N with
  | zero => exact ⟨fun x3 x4 x5 S _ _ _ _ _ h => absurd h (Nat.not_lt_zero _), fun x4 x6 S _ _ _ _ h => absurd h (Nat.not_lt_zero _)⟩
  | succ N ih =>
    exact ⟨fun x3 x4 x5 S a b j0 j1 j2 hR => zb_isIllegal_14_24_115 p0 S0 n hn G_S0 hp0 x3 x4 x5 S a b j0 j1 j2 _ rfl (fun x3 x4 x5 S a b j0 j1 j2 h => ih.1 x3 x4 x5 S a b j0 j1 j2 (Nat.lt_of_lt_of_le h (Nat.le_of_lt_succ hR))) (fun x4 x6 S a b j0 j1 h => ih.2 x4 x6 S a b j0 j1 (Nat.lt_of_lt_of_le h (Nat.le_of_lt_succ hR))),
      fun x4 x6 S a b j0 j1 hR => zb_isIllegal_14_24_303 p0 S0 n hn G_S0 hp0 x4 x6 S a b j0 j1 _ rfl (fun x4 x6 S a b j0 j1 h => ih.2 x4 x6 S a b j0 j1 (Nat.lt_of_lt_of_le h (Nat.le_of_lt_succ hR)))⟩
theorem zc_isIllegal_14_24 {g : mm_G} {l : Launch} (p0 : Int) (S0 : zz_S) (n : Nat) (hn : zz_end ≤ n) (G_S0 : zz_G S0) (hp0 : (-9223372036854775808) ≤ p0 ∧ p0 ≤ 9223372036854775807) : mm_Met g l zy_isIllegal_14_24 zr_isIllegal_14_24 [.ref 1079, zl p0] (zz_M S0 n) n (zz_QI n (zp_isIllegal_14_24 p0 S0)) := by
  refine zz_enter (by decide) (Nat.le_of_ble_eq_true rfl) (zz_less (ls1 := [some (.ref 1079), some (zl p0), none]) ⟨rfl, ⟨rfl, trivial⟩⟩ ?_)
  have F_S0 : zz_fr [] [1087, 1088, 1089] (fun _ _ => False) S0 S0 := zz_fr.refl
  have k115 : ∀ (x3 : Int) (x4 : Int) (x5 : Int) (S : zz_S), zz_G S → zz_fr [] [1087, 1088, 1089] (fun _ _ => False) S0 S → (1 ≤ x3 ∧ x3 ≤ 8) → ((-2147483648) ≤ x4 ∧ x4 ≤ 2147483647) → (5 ≤ x5 ∧ x5 ≤ 2147483647) → zz_E g l zy_isIllegal_14_24 zr_isIllegal_14_24 (zz_QI n (zp_isIllegal_14_24 p0 S0)) S n 115 [some (.ref 1079), none, none, some (zi x3), some (zi x4), some (zi x5)] [] 0 0 := fun x3 x4 x5 S a b j0 j1 j2 => (zi_isIllegal_14_24 (g := g) (l := l) p0 S0 n hn G_S0 hp0 _).1 x3 x4 x5 S a b j0 j1 j2 (Nat.lt_succ_self _)
  refine zz_aload_n (x := 1079) rfl zd_14_24_0 ?_
  refine zz_lload_n (x := p0) rfl zd_14_24_1 ?_
  refine zz_callVV [zl p0] zd_14_24_2 zk_Md_234 zT_1079 (zz_ltn hn rfl) rfl rfl ⟨Nat.le_of_ble_eq_true rfl, Nat.le_of_ble_eq_true rfl⟩ ⟨rfl, rfl⟩ (Nat.zero_le _) (Nat.zero_le _) (zc_take_14_18 p0 S0 n hn G_S0 (by omega)) (fun S1 hP => ?_)
  obtain ⟨G_S1, fS1⟩ := hP
  have F_S1 := zz_fr.trans F_S0 fS1 rfl zz_nv
  refine zz_aload_n (x := 1079) rfl zd_14_24_5 ?_
  refine zz_getr (kd := 0) (z := 1087) zd_14_24_6 zf_Md_36 zT_1079 rfl (zz_ltn hn rfl) (zz_G.eq G_S1 1079 11 1087 rfl rfl) (by decide) 1087 rfl ?_
  refine zz_iconst zd_14_24_9 ?_
  have g3 := zz_G.r G_S1 1087 0 (-2147483648) 2147483647 rfl rfl
  refine zz_iald (z := S1 1087 0) zd_14_24_10 zT_1087 rfl (zz_ltn hn rfl) (by decide) (by decide) rfl ?_
  refine zz_istore_n [some (.ref 1079), some (zl p0), none, some (zi (S1 1087 0))] zd_14_24_11 (by decide) rfl ?_
  refine zz_iload_n (x := S1 1087 0) rfl zd_14_24_12 ?_
  refine zz_i2l (by omega) zd_14_24_13 ?_
  refine zz_lconst (z := 1) (by decide) zd_14_24_14 ?_
  refine zz_ldc2 (z := 9) zq_Md_238 (by decide) zd_14_24_15 ?_
  refine zz_callSI [zl (S1 1087 0), zl 1, zl 9] zd_14_24_18 zk_Md_192 rfl rfl ⟨Nat.le_of_ble_eq_true rfl, Nat.le_of_ble_eq_true rfl⟩ ⟨rfl, rfl⟩ (Nat.zero_le _) (Nat.zero_le _) (zc_in_14_4 (S1 1087 0) 1 9 S1 n hn G_S1 (by omega) (by omega) (by omega)) (fun v5 S4 hP => ?_)
  obtain ⟨rfl, o6, o7⟩ := hP
  rcases (by omega : v5 = 0 ∨ v5 = 1) with rfl | rfl
  · refine zz_if_ne (by omega) zd_14_24_21 (fun c8 => ?_) (fun c8 => ?_)
    · exfalso; omega
    · refine zz_iconst zd_14_24_24 ?_
      exact zz_zret zd_14_24_25 rfl (by omega) (Nat.zero_le _) (Nat.zero_le _) ⟨_, _, rfl, G_S1, F_S1, by omega⟩
  · refine zz_if_ne (by omega) zd_14_24_21 (fun c9 => ?_) (fun c9 => ?_)
    · refine zz_iload_n (x := S1 1087 0) rfl zd_14_24_26 ?_
      refine zz_bipush (by decide) zd_14_24_27 ?_
      refine zz_icmp_ne (by omega) (by omega) zd_14_24_29 (fun c10 => ?_) (fun c10 => ?_)
      · refine zz_aload_n (x := 1079) rfl zd_14_24_71 ?_
        refine zz_getr (kd := 0) (z := 1087) zd_14_24_72 zf_Md_36 zT_1079 rfl (zz_ltn hn rfl) (zz_G.eq G_S1 1079 11 1087 rfl rfl) (by decide) 1087 rfl ?_
        refine zz_bipush (by decide) zd_14_24_75 ?_
        have g11 := zz_G.r G_S1 1087 6 (-2147483648) 2147483647 rfl rfl
        refine zz_iald (z := S1 1087 6) zd_14_24_77 zT_1087 rfl (zz_ltn hn rfl) (by decide) (by decide) rfl ?_
        refine zz_if_eq (by omega) zd_14_24_78 (fun c12 => ?_) (fun c12 => ?_)
        · refine zz_iconst zd_14_24_105 ?_
          refine zz_goto zd_14_24_106 ?_
          refine zz_istore [some (.ref 1079), some (zl p0), none, some (zi (S1 1087 0)), some (zi 1)] zd_14_24_110 (by decide) rfl ?_
          refine zz_iconst zd_14_24_112 ?_
          refine zz_istore [some (.ref 1079), some (zl p0), none, some (zi (S1 1087 0)), some (zi 1), some (zi 5)] zd_14_24_113 (by decide) rfl ?_
          refine zz_less (ls1 := [some (.ref 1079), none, none, some (zi (S1 1087 0)), some (zi 1), some (zi 5)]) ⟨rfl, ⟨rfl, ⟨rfl, ⟨rfl, trivial⟩⟩⟩⟩ ?_
          exact k115 (S1 1087 0) 1 5 S1 G_S1 F_S1 (by omega) (by omega) (by omega)
        · refine zz_aload_n (x := 1079) rfl zd_14_24_81 ?_
          refine zz_getr (kd := 0) (z := 1087) zd_14_24_82 zf_Md_36 zT_1079 rfl (zz_ltn hn rfl) (zz_G.eq G_S1 1079 11 1087 rfl rfl) (by decide) 1087 rfl ?_
          refine zz_bipush (by decide) zd_14_24_85 ?_
          have g13 := zz_G.r G_S1 1087 7 (-2147483648) 2147483647 rfl rfl
          refine zz_iald (z := S1 1087 7) zd_14_24_87 zT_1087 rfl (zz_ltn hn rfl) (by decide) (by decide) rfl ?_
          refine zz_if_eq (by omega) zd_14_24_88 (fun c14 => ?_) (fun c14 => ?_)
          · refine zz_iconst zd_14_24_105 ?_
            refine zz_goto zd_14_24_106 ?_
            refine zz_istore [some (.ref 1079), some (zl p0), none, some (zi (S1 1087 0)), some (zi 1)] zd_14_24_110 (by decide) rfl ?_
            refine zz_iconst zd_14_24_112 ?_
            refine zz_istore [some (.ref 1079), some (zl p0), none, some (zi (S1 1087 0)), some (zi 1), some (zi 5)] zd_14_24_113 (by decide) rfl ?_
            refine zz_less (ls1 := [some (.ref 1079), none, none, some (zi (S1 1087 0)), some (zi 1), some (zi 5)]) ⟨rfl, ⟨rfl, ⟨rfl, ⟨rfl, trivial⟩⟩⟩⟩ ?_
            exact k115 (S1 1087 0) 1 5 S1 G_S1 F_S1 (by omega) (by omega) (by omega)
          · refine zz_aload_n (x := 1079) rfl zd_14_24_91 ?_
            refine zz_getr (kd := 0) (z := 1087) zd_14_24_92 zf_Md_36 zT_1079 rfl (zz_ltn hn rfl) (zz_G.eq G_S1 1079 11 1087 rfl rfl) (by decide) 1087 rfl ?_
            refine zz_bipush (by decide) zd_14_24_95 ?_
            refine zz_iald (z := S1 1087 7) zd_14_24_97 zT_1087 rfl (zz_ltn hn rfl) (by decide) (by decide) rfl ?_
            refine zz_aload_n (x := 1079) rfl zd_14_24_98 ?_
            have g15 := zz_G.r G_S0 1079 1 2 8 rfl rfl
            refine zz_geti (z := S0 1079 1) zd_14_24_99 zf_Md_7 zT_1079 rfl (zz_ltn hn rfl) (zz_rc fS1 rfl rfl (fun h => h) rfl) ?_
            refine zz_icmp_le (by omega) (by omega) zd_14_24_102 (fun c16 => ?_) (fun c16 => ?_)
            · refine zz_iconst zd_14_24_109 ?_
              refine zz_istore [some (.ref 1079), some (zl p0), none, some (zi (S1 1087 0)), some (zi 0)] zd_14_24_110 (by decide) rfl ?_
              refine zz_iconst zd_14_24_112 ?_
              refine zz_istore [some (.ref 1079), some (zl p0), none, some (zi (S1 1087 0)), some (zi 0), some (zi 5)] zd_14_24_113 (by decide) rfl ?_
              refine zz_less (ls1 := [some (.ref 1079), none, none, some (zi (S1 1087 0)), some (zi 0), some (zi 5)]) ⟨rfl, ⟨rfl, ⟨rfl, ⟨rfl, trivial⟩⟩⟩⟩ ?_
              exact k115 (S1 1087 0) 0 5 S1 G_S1 F_S1 (by omega) (by omega) (by omega)
            · refine zz_iconst zd_14_24_105 ?_
              refine zz_goto zd_14_24_106 ?_
              refine zz_istore [some (.ref 1079), some (zl p0), none, some (zi (S1 1087 0)), some (zi 1)] zd_14_24_110 (by decide) rfl ?_
              refine zz_iconst zd_14_24_112 ?_
              refine zz_istore [some (.ref 1079), some (zl p0), none, some (zi (S1 1087 0)), some (zi 1), some (zi 5)] zd_14_24_113 (by decide) rfl ?_
              refine zz_less (ls1 := [some (.ref 1079), none, none, some (zi (S1 1087 0)), some (zi 1), some (zi 5)]) ⟨rfl, ⟨rfl, ⟨rfl, ⟨rfl, trivial⟩⟩⟩⟩ ?_
              exact k115 (S1 1087 0) 1 5 S1 G_S1 F_S1 (by omega) (by omega) (by omega)
      · refine zz_aload_n (x := 1079) rfl zd_14_24_32 ?_
        refine zz_getr (kd := 0) (z := 1087) zd_14_24_33 zf_Md_36 zT_1079 rfl (zz_ltn hn rfl) (zz_G.eq G_S1 1079 11 1087 rfl rfl) (by decide) 1087 rfl ?_
        refine zz_bipush (by decide) zd_14_24_36 ?_
        have g17 := zz_G.r G_S1 1087 6 (-2147483648) 2147483647 rfl rfl
        refine zz_iald (z := S1 1087 6) zd_14_24_38 zT_1087 rfl (zz_ltn hn rfl) (by decide) (by decide) rfl ?_
        refine zz_if_gt (by omega) zd_14_24_39 (fun c18 => ?_) (fun c18 => ?_)
        · refine zz_iconst zd_14_24_63 ?_
          refine zz_goto zd_14_24_64 ?_
          refine zz_istore [some (.ref 1079), some (zl p0), none, some (zi (S1 1087 0)), some (zi 1)] zd_14_24_110 (by decide) rfl ?_
          refine zz_iconst zd_14_24_112 ?_
          refine zz_istore [some (.ref 1079), some (zl p0), none, some (zi (S1 1087 0)), some (zi 1), some (zi 5)] zd_14_24_113 (by decide) rfl ?_
          refine zz_less (ls1 := [some (.ref 1079), none, none, some (zi (S1 1087 0)), some (zi 1), some (zi 5)]) ⟨rfl, ⟨rfl, ⟨rfl, ⟨rfl, trivial⟩⟩⟩⟩ ?_
          exact k115 (S1 1087 0) 1 5 S1 G_S1 F_S1 (by omega) (by omega) (by omega)
        · refine zz_aload_n (x := 1079) rfl zd_14_24_42 ?_
          refine zz_getr (kd := 0) (z := 1087) zd_14_24_43 zf_Md_36 zT_1079 rfl (zz_ltn hn rfl) (zz_G.eq G_S1 1079 11 1087 rfl rfl) (by decide) 1087 rfl ?_
          refine zz_bipush (by decide) zd_14_24_46 ?_
          have g19 := zz_G.r G_S1 1087 7 (-2147483648) 2147483647 rfl rfl
          refine zz_iald (z := S1 1087 7) zd_14_24_48 zT_1087 rfl (zz_ltn hn rfl) (by decide) (by decide) rfl ?_
          refine zz_if_gt (by omega) zd_14_24_49 (fun c20 => ?_) (fun c20 => ?_)
          · refine zz_iconst zd_14_24_63 ?_
            refine zz_goto zd_14_24_64 ?_
            refine zz_istore [some (.ref 1079), some (zl p0), none, some (zi (S1 1087 0)), some (zi 1)] zd_14_24_110 (by decide) rfl ?_
            refine zz_iconst zd_14_24_112 ?_
            refine zz_istore [some (.ref 1079), some (zl p0), none, some (zi (S1 1087 0)), some (zi 1), some (zi 5)] zd_14_24_113 (by decide) rfl ?_
            refine zz_less (ls1 := [some (.ref 1079), none, none, some (zi (S1 1087 0)), some (zi 1), some (zi 5)]) ⟨rfl, ⟨rfl, ⟨rfl, ⟨rfl, trivial⟩⟩⟩⟩ ?_
            exact k115 (S1 1087 0) 1 5 S1 G_S1 F_S1 (by omega) (by omega) (by omega)
          · refine zz_aload_n (x := 1079) rfl zd_14_24_52 ?_
            refine zz_getr (kd := 0) (z := 1087) zd_14_24_53 zf_Md_36 zT_1079 rfl (zz_ltn hn rfl) (zz_G.eq G_S1 1079 11 1087 rfl rfl) (by decide) 1087 rfl ?_
            refine zz_bipush (by decide) zd_14_24_56 ?_
            have g21 := zz_G.r G_S1 1087 11 (-2147483648) 2147483647 rfl rfl
            refine zz_iald (z := S1 1087 11) zd_14_24_58 zT_1087 rfl (zz_ltn hn rfl) (by decide) (by decide) rfl ?_
            refine zz_iconst zd_14_24_59 ?_
            refine zz_icmp_le (by omega) (by omega) zd_14_24_60 (fun c22 => ?_) (fun c22 => ?_)
            · refine zz_iconst zd_14_24_67 ?_
              refine zz_goto zd_14_24_68 ?_
              refine zz_istore [some (.ref 1079), some (zl p0), none, some (zi (S1 1087 0)), some (zi 0)] zd_14_24_110 (by decide) rfl ?_
              refine zz_iconst zd_14_24_112 ?_
              refine zz_istore [some (.ref 1079), some (zl p0), none, some (zi (S1 1087 0)), some (zi 0), some (zi 5)] zd_14_24_113 (by decide) rfl ?_
              refine zz_less (ls1 := [some (.ref 1079), none, none, some (zi (S1 1087 0)), some (zi 0), some (zi 5)]) ⟨rfl, ⟨rfl, ⟨rfl, ⟨rfl, trivial⟩⟩⟩⟩ ?_
              exact k115 (S1 1087 0) 0 5 S1 G_S1 F_S1 (by omega) (by omega) (by omega)
            · refine zz_iconst zd_14_24_63 ?_
              refine zz_goto zd_14_24_64 ?_
              refine zz_istore [some (.ref 1079), some (zl p0), none, some (zi (S1 1087 0)), some (zi 1)] zd_14_24_110 (by decide) rfl ?_
              refine zz_iconst zd_14_24_112 ?_
              refine zz_istore [some (.ref 1079), some (zl p0), none, some (zi (S1 1087 0)), some (zi 1), some (zi 5)] zd_14_24_113 (by decide) rfl ?_
              refine zz_less (ls1 := [some (.ref 1079), none, none, some (zi (S1 1087 0)), some (zi 1), some (zi 5)]) ⟨rfl, ⟨rfl, ⟨rfl, ⟨rfl, trivial⟩⟩⟩⟩ ?_
              exact k115 (S1 1087 0) 1 5 S1 G_S1 F_S1 (by omega) (by omega) (by omega)
    · exfalso; omega
abbrev zy_illegal_14_25 : mm_Y := (⟨"TensorForgeModel", "illegal", "(J)Z"⟩, prog_14_method_25_code, 3, (some .boolean))
theorem zyw_illegal_14_25 : mm_Yw zy_illegal_14_25 1 := ⟨mm_tb_1 1886 (by decide +kernel) rfl, mm_tb_1 12 (by decide +kernel) rfl, ⟨by decide, by decide⟩, by decide +kernel⟩
theorem zd_14_25_0 : zz_D zy_illegal_14_25 0 (.aload_n 0) 1 1 := ⟨by decide +kernel, rfl⟩
theorem zd_14_25_1 : zz_D zy_illegal_14_25 1 (.iconst 0) 1 2 := ⟨by decide +kernel, rfl⟩
theorem zd_14_25_2 : zz_D zy_illegal_14_25 2 (.putfield 187) 3 5 := ⟨by decide +kernel, rfl⟩
theorem zd_14_25_5 : zz_D zy_illegal_14_25 5 (.aload_n 0) 1 6 := ⟨by decide +kernel, rfl⟩
theorem zd_14_25_6 : zz_D zy_illegal_14_25 6 (.lload_n 1) 1 7 := ⟨by decide +kernel, rfl⟩
theorem zd_14_25_7 : zz_D zy_illegal_14_25 7 (.invokevirtual 250) 3 10 := ⟨by decide +kernel, rfl⟩
theorem zk_Md_250 : mm_Vl "TensorForgeModel" 250 11 1 zy_isIllegal_14_24 := ⟨zyw_isIllegal_14_24, (R_Md, F_Md, 69), rfl, mm_tb_1 1887 (by decide +kernel) rfl, mm_tb_1 1889 (by decide +kernel) rfl, mm_tb_s 88 (by decide +kernel) rfl⟩
theorem zd_14_25_10 : zz_D zy_illegal_14_25 10 (.ireturn) 1 11 := ⟨by decide +kernel, rfl⟩
-- TensorForgeModel illegal (J)Z
abbrev zr_illegal_14_25 : Room := { frames := 4, cells := 0, slots := 0, locals := 67 }
def zp_illegal_14_25 (p0 : Int) (S0 : zz_S) : Int → zz_S → Prop := fun r S => zz_G S ∧ zz_fr [(1079, 0)] [1087, 1088, 1089] (fun _ _ => False) S0 S ∧ (0 ≤ r ∧ r ≤ 1)
theorem zc_illegal_14_25 {g : mm_G} {l : Launch} (p0 : Int) (S0 : zz_S) (n : Nat) (hn : zz_end ≤ n) (G_S0 : zz_G S0) (hp0 : (-9223372036854775808) ≤ p0 ∧ p0 ≤ 9223372036854775807) : mm_Met g l zy_illegal_14_25 zr_illegal_14_25 [.ref 1079, zl p0] (zz_M S0 n) n (zz_QI n (zp_illegal_14_25 p0 S0)) := by
  refine zz_enter (by decide) (Nat.le_of_ble_eq_true rfl) (zz_less (ls1 := [some (.ref 1079), some (zl p0), none]) ⟨rfl, ⟨rfl, trivial⟩⟩ ?_)
  have F_S0 : zz_fr [(1079, 0)] [1087, 1088, 1089] (fun _ _ => False) S0 S0 := zz_fr.refl
  refine zz_aload_n (x := 1079) rfl zd_14_25_0 ?_
  refine zz_iconst zd_14_25_1 ?_
  refine zz_puti zd_14_25_2 zf_Md_187 zT_1079 rfl (zz_ltn hn rfl) (fun S1 qS1 => ?_)
  have G_S1 := zz_G.put G_S0 qS1 0 3 rfl (by omega)
  have F_S1 := zz_fr.puts F_S0 qS1 rfl
  refine zz_aload_n (x := 1079) rfl zd_14_25_5 ?_
  refine zz_lload_n (x := p0) rfl zd_14_25_6 ?_
  refine zz_callVI [zl p0] zd_14_25_7 zk_Md_250 zT_1079 (zz_ltn hn rfl) rfl rfl ⟨Nat.le_of_ble_eq_true rfl, Nat.le_of_ble_eq_true rfl⟩ ⟨rfl, rfl⟩ (Nat.zero_le _) (Nat.zero_le _) (zc_isIllegal_14_24 p0 S1 n hn G_S1 (by omega)) (fun v3 S2 hP => ?_)
  obtain ⟨G_S2, fS2, o4⟩ := hP
  have F_S2 := zz_fr.trans F_S1 fS2 rfl zz_nv
  rcases (by omega : v3 = 0 ∨ v3 = 1) with rfl | rfl
  · exact zz_zret zd_14_25_10 rfl (by omega) (Nat.zero_le _) (Nat.zero_le _) ⟨_, _, rfl, G_S2, F_S2, by omega⟩
  · exact zz_zret zd_14_25_10 rfl (by omega) (Nat.zero_le _) (Nat.zero_le _) ⟨_, _, rfl, G_S2, F_S2, by omega⟩
abbrev zy_narrowed_14_26 : mm_Y := (⟨"TensorForgeModel", "narrowed", "(II)I"⟩, prog_14_method_26_code, 5, (some .int))
theorem zyw_narrowed_14_26 : mm_Yw zy_narrowed_14_26 2 := ⟨mm_tb_1 1986 (by decide +kernel) rfl, mm_tb_1 12 (by decide +kernel) rfl, ⟨by decide, by decide⟩, by decide +kernel⟩
theorem zd_14_26_0 : zz_D zy_narrowed_14_26 0 (.iload_n 1) 1 1 := ⟨by decide +kernel, rfl⟩
theorem zd_14_26_1 : zz_D zy_narrowed_14_26 1 (.bipush 15) 2 3 := ⟨by decide +kernel, rfl⟩
theorem zd_14_26_3 : zz_D zy_narrowed_14_26 3 (.iand) 1 4 := ⟨by decide +kernel, rfl⟩
theorem zd_14_26_4 : zz_D zy_narrowed_14_26 4 (.istore_n 2) 1 5 := ⟨by decide +kernel, rfl⟩
theorem zd_14_26_5 : zz_D zy_narrowed_14_26 5 (.iload_n 2) 1 6 := ⟨by decide +kernel, rfl⟩
theorem zd_14_26_6 : zz_B zy_narrowed_14_26 6 (Instr.ifCond .le) 22 9 := ⟨16, by decide +kernel, rfl, rfl⟩
theorem zd_14_26_22 : zz_D zy_narrowed_14_26 22 (.iload_n 0) 1 23 := ⟨by decide +kernel, rfl⟩
theorem zd_14_26_23 : zz_D zy_narrowed_14_26 23 (.i2l) 1 24 := ⟨by decide +kernel, rfl⟩
theorem zd_14_26_24 : zz_D zy_narrowed_14_26 24 (.lstore_n 3) 1 25 := ⟨by decide +kernel, rfl⟩
theorem zd_14_26_25 : zz_D zy_narrowed_14_26 25 (.lload_n 3) 1 26 := ⟨by decide +kernel, rfl⟩
theorem zd_14_26_26 : zz_D zy_narrowed_14_26 26 (.ldc2_w 254) 3 29 := ⟨by decide +kernel, rfl⟩
theorem zq_Md_254 : Cond.constantLong "TensorForgeModel" 254 (-128 : Int64) ∈ mm_tb := mm_tb_1 1987 (by decide +kernel) rfl
theorem zd_14_26_29 : zz_D zy_narrowed_14_26 29 (.lcmp) 1 30 := ⟨by decide +kernel, rfl⟩
theorem zd_14_26_30 : zz_B zy_narrowed_14_26 30 (Instr.ifCond .ge) 39 33 := ⟨9, by decide +kernel, rfl, rfl⟩
theorem zd_14_26_39 : zz_D zy_narrowed_14_26 39 (.lload_n 3) 1 40 := ⟨by decide +kernel, rfl⟩
theorem zd_14_26_40 : zz_D zy_narrowed_14_26 40 (.ldc2_w 256) 3 43 := ⟨by decide +kernel, rfl⟩
theorem zq_Md_256 : Cond.constantLong "TensorForgeModel" 256 (127 : Int64) ∈ mm_tb := mm_tb_1 1988 (by decide +kernel) rfl
theorem zd_14_26_43 : zz_D zy_narrowed_14_26 43 (.lcmp) 1 44 := ⟨by decide +kernel, rfl⟩
theorem zd_14_26_44 : zz_B zy_narrowed_14_26 44 (Instr.ifCond .le) 53 47 := ⟨9, by decide +kernel, rfl, rfl⟩
theorem zd_14_26_53 : zz_D zy_narrowed_14_26 53 (.lload_n 3) 1 54 := ⟨by decide +kernel, rfl⟩
theorem zd_14_26_54 : zz_D zy_narrowed_14_26 54 (.lstore_n 3) 1 55 := ⟨by decide +kernel, rfl⟩
theorem zd_14_26_55 : zz_D zy_narrowed_14_26 55 (.iload_n 1) 1 56 := ⟨by decide +kernel, rfl⟩
theorem zd_14_26_56 : zz_D zy_narrowed_14_26 56 (.bipush 15) 2 58 := ⟨by decide +kernel, rfl⟩
theorem zd_14_26_58 : zz_B zy_narrowed_14_26 58 (Instr.if_icmp .le) 71 61 := ⟨13, by decide +kernel, rfl, rfl⟩
theorem zd_14_26_71 : zz_D zy_narrowed_14_26 71 (.lload_n 3) 1 72 := ⟨by decide +kernel, rfl⟩
theorem zd_14_26_72 : zz_D zy_narrowed_14_26 72 (.l2i) 1 73 := ⟨by decide +kernel, rfl⟩
theorem zd_14_26_73 : zz_D zy_narrowed_14_26 73 (.ireturn) 1 74 := ⟨by decide +kernel, rfl⟩
theorem zd_14_26_61 : zz_D zy_narrowed_14_26 61 (.lload_n 3) 1 62 := ⟨by decide +kernel, rfl⟩
theorem zd_14_26_62 : zz_D zy_narrowed_14_26 62 (.lconst 0) 1 63 := ⟨by decide +kernel, rfl⟩
theorem zd_14_26_63 : zz_D zy_narrowed_14_26 63 (.lcmp) 1 64 := ⟨by decide +kernel, rfl⟩
theorem zd_14_26_64 : zz_B zy_narrowed_14_26 64 (Instr.ifCond .ge) 71 67 := ⟨7, by decide +kernel, rfl, rfl⟩
theorem zd_14_26_67 : zz_D zy_narrowed_14_26 67 (.iconst 0) 1 68 := ⟨by decide +kernel, rfl⟩
theorem zd_14_26_68 : zz_B zy_narrowed_14_26 68 Instr.goto 73 71 := ⟨5, by decide +kernel, rfl, rfl⟩
theorem zd_14_26_47 : zz_D zy_narrowed_14_26 47 (.ldc2_w 256) 3 50 := ⟨by decide +kernel, rfl⟩
theorem zd_14_26_50 : zz_B zy_narrowed_14_26 50 Instr.goto 54 53 := ⟨4, by decide +kernel, rfl, rfl⟩
theorem zd_14_26_33 : zz_D zy_narrowed_14_26 33 (.ldc2_w 254) 3 36 := ⟨by decide +kernel, rfl⟩
theorem zd_14_26_36 : zz_B zy_narrowed_14_26 36 Instr.goto 54 39 := ⟨18, by decide +kernel, rfl, rfl⟩
theorem zd_14_26_9 : zz_D zy_narrowed_14_26 9 (.iload_n 0) 1 10 := ⟨by decide +kernel, rfl⟩
theorem zd_14_26_10 : zz_D zy_narrowed_14_26 10 (.i2l) 1 11 := ⟨by decide +kernel, rfl⟩
theorem zd_14_26_11 : zz_D zy_narrowed_14_26 11 (.lconst 1) 1 12 := ⟨by decide +kernel, rfl⟩
theorem zd_14_26_12 : zz_D zy_narrowed_14_26 12 (.iload_n 2) 1 13 := ⟨by decide +kernel, rfl⟩
theorem zd_14_26_13 : zz_D zy_narrowed_14_26 13 (.iconst 1) 1 14 := ⟨by decide +kernel, rfl⟩
theorem zd_14_26_14 : zz_D zy_narrowed_14_26 14 (.isub) 1 15 := ⟨by decide +kernel, rfl⟩
theorem zd_14_26_15 : zz_D zy_narrowed_14_26 15 (.lshl) 1 16 := ⟨by decide +kernel, rfl⟩
theorem zd_14_26_16 : zz_D zy_narrowed_14_26 16 (.ladd) 1 17 := ⟨by decide +kernel, rfl⟩
theorem zd_14_26_17 : zz_D zy_narrowed_14_26 17 (.iload_n 2) 1 18 := ⟨by decide +kernel, rfl⟩
theorem zd_14_26_18 : zz_D zy_narrowed_14_26 18 (.lshr) 1 19 := ⟨by decide +kernel, rfl⟩
theorem zd_14_26_19 : zz_B zy_narrowed_14_26 19 Instr.goto 24 22 := ⟨5, by decide +kernel, rfl, rfl⟩
-- TensorForgeModel narrowed (II)I
abbrev zr_narrowed_14_26 : Room := { frames := 0, cells := 0, slots := 0, locals := 0 }
def zp_narrowed_14_26 (p0 : Int) (p1 : Int) (S0 : zz_S) : Int → zz_S → Prop := fun r S => S0 = S ∧ ((-2147483648) ≤ r ∧ r ≤ 2147483647)
theorem zc_narrowed_14_26 {g : mm_G} {l : Launch} (p0 : Int) (p1 : Int) (S0 : zz_S) (n : Nat) (hn : zz_end ≤ n) (G_S0 : zz_G S0) (hp0 : (-2147483648) ≤ p0 ∧ p0 ≤ 2147483647) (hp1 : (-2147483648) ≤ p1 ∧ p1 ≤ 2147483647) : mm_Met g l zy_narrowed_14_26 zr_narrowed_14_26 [zi p0, zi p1] (zz_M S0 n) n (zz_QI n (zp_narrowed_14_26 p0 p1 S0)) := by
  refine zz_enter (by decide) (Nat.le_of_ble_eq_true rfl) (zz_less (ls1 := [some (zi p0), some (zi p1)]) ⟨rfl, ⟨rfl, trivial⟩⟩ ?_)
  refine zz_iload_n (x := p1) rfl zd_14_26_0 ?_
  refine zz_bipush (by decide) zd_14_26_1 ?_
  refine zz_iand (by omega) (by omega) zd_14_26_3 (fun v1 hv1 av1 bv1 ev1 => ?_)
  refine zz_istore_n [some (zi p0), some (zi p1), some (zi v1)] zd_14_26_4 (by decide) rfl ?_
  refine zz_iload_n (x := v1) rfl zd_14_26_5 ?_
  refine zz_if_le (by omega) zd_14_26_6 (fun c2 => ?_) (fun c2 => ?_)
  · refine zz_iload_n (x := p0) rfl zd_14_26_22 ?_
    refine zz_i2l (by omega) zd_14_26_23 ?_
    refine zz_lstore_n [some (zi p0), some (zi p1), some (zi v1), some (zl p0), none] zd_14_26_24 (by decide) rfl ?_
    refine zz_lload_n (x := p0) rfl zd_14_26_25 ?_
    refine zz_ldc2 (z := (-128)) zq_Md_254 (by decide) zd_14_26_26 ?_
    refine zz_lcmp (by omega) (by omega) zd_14_26_29 (fun v3 hv3 => ?_)
    refine zz_if_ge (by omega) zd_14_26_30 (fun c4 => ?_) (fun c4 => ?_)
    · refine zz_lload_n (x := p0) rfl zd_14_26_39 ?_
      refine zz_ldc2 (z := 127) zq_Md_256 (by decide) zd_14_26_40 ?_
      refine zz_lcmp (by omega) (by omega) zd_14_26_43 (fun v5 hv5 => ?_)
      refine zz_if_le (by omega) zd_14_26_44 (fun c6 => ?_) (fun c6 => ?_)
      · refine zz_lload_n (x := p0) rfl zd_14_26_53 ?_
        refine zz_lstore_n [some (zi p0), some (zi p1), some (zi v1), some (zl p0), none] zd_14_26_54 (by decide) rfl ?_
        refine zz_iload_n (x := p1) rfl zd_14_26_55 ?_
        refine zz_bipush (by decide) zd_14_26_56 ?_
        refine zz_icmp_le (by omega) (by omega) zd_14_26_58 (fun c7 => ?_) (fun c7 => ?_)
        · refine zz_lload_n (x := p0) rfl zd_14_26_71 ?_
          refine zz_l2i (by omega) zd_14_26_72 (fun v8 hv8 av8 ev8 => ?_)
          exact zz_iret zd_14_26_73 rfl (Nat.zero_le _) (Nat.zero_le _) ⟨_, _, rfl, rfl, by omega⟩
        · refine zz_lload_n (x := p0) rfl zd_14_26_61 ?_
          refine zz_lconst (z := 0) (by decide) zd_14_26_62 ?_
          refine zz_lcmp (by omega) (by omega) zd_14_26_63 (fun v9 hv9 => ?_)
          refine zz_if_ge (by omega) zd_14_26_64 (fun c10 => ?_) (fun c10 => ?_)
          · refine zz_lload_n (x := p0) rfl zd_14_26_71 ?_
            refine zz_l2i (by omega) zd_14_26_72 (fun v11 hv11 av11 ev11 => ?_)
            exact zz_iret zd_14_26_73 rfl (Nat.zero_le _) (Nat.zero_le _) ⟨_, _, rfl, rfl, by omega⟩
          · refine zz_iconst zd_14_26_67 ?_
            refine zz_goto zd_14_26_68 ?_
            exact zz_iret zd_14_26_73 rfl (Nat.zero_le _) (Nat.zero_le _) ⟨_, _, rfl, rfl, by omega⟩
      · refine zz_ldc2 (z := 127) zq_Md_256 (by decide) zd_14_26_47 ?_
        refine zz_goto zd_14_26_50 ?_
        refine zz_lstore_n [some (zi p0), some (zi p1), some (zi v1), some (zl 127), none] zd_14_26_54 (by decide) rfl ?_
        refine zz_iload_n (x := p1) rfl zd_14_26_55 ?_
        refine zz_bipush (by decide) zd_14_26_56 ?_
        refine zz_icmp_le (by omega) (by omega) zd_14_26_58 (fun c12 => ?_) (fun c12 => ?_)
        · refine zz_lload_n (x := 127) rfl zd_14_26_71 ?_
          refine zz_l2i (by omega) zd_14_26_72 (fun v13 hv13 av13 ev13 => ?_)
          exact zz_iret zd_14_26_73 rfl (Nat.zero_le _) (Nat.zero_le _) ⟨_, _, rfl, rfl, by omega⟩
        · refine zz_lload_n (x := 127) rfl zd_14_26_61 ?_
          refine zz_lconst (z := 0) (by decide) zd_14_26_62 ?_
          refine zz_lcmp (by omega) (by omega) zd_14_26_63 (fun v14 hv14 => ?_)
          refine zz_if_ge (by omega) zd_14_26_64 (fun c15 => ?_) (fun c15 => ?_)
          · refine zz_lload_n (x := 127) rfl zd_14_26_71 ?_
            refine zz_l2i (by omega) zd_14_26_72 (fun v16 hv16 av16 ev16 => ?_)
            exact zz_iret zd_14_26_73 rfl (Nat.zero_le _) (Nat.zero_le _) ⟨_, _, rfl, rfl, by omega⟩
          · refine zz_iconst zd_14_26_67 ?_
            refine zz_goto zd_14_26_68 ?_
            exact zz_iret zd_14_26_73 rfl (Nat.zero_le _) (Nat.zero_le _) ⟨_, _, rfl, rfl, by omega⟩
    · refine zz_ldc2 (z := (-128)) zq_Md_254 (by decide) zd_14_26_33 ?_
      refine zz_goto zd_14_26_36 ?_
      refine zz_lstore_n [some (zi p0), some (zi p1), some (zi v1), some (zl (-128)), none] zd_14_26_54 (by decide) rfl ?_
      refine zz_iload_n (x := p1) rfl zd_14_26_55 ?_
      refine zz_bipush (by decide) zd_14_26_56 ?_
      refine zz_icmp_le (by omega) (by omega) zd_14_26_58 (fun c17 => ?_) (fun c17 => ?_)
      · refine zz_lload_n (x := (-128)) rfl zd_14_26_71 ?_
        refine zz_l2i (by omega) zd_14_26_72 (fun v18 hv18 av18 ev18 => ?_)
        exact zz_iret zd_14_26_73 rfl (Nat.zero_le _) (Nat.zero_le _) ⟨_, _, rfl, rfl, by omega⟩
      · refine zz_lload_n (x := (-128)) rfl zd_14_26_61 ?_
        refine zz_lconst (z := 0) (by decide) zd_14_26_62 ?_
        refine zz_lcmp (by omega) (by omega) zd_14_26_63 (fun v19 hv19 => ?_)
        refine zz_if_ge (by omega) zd_14_26_64 (fun c20 => ?_) (fun c20 => ?_)
        · refine zz_lload_n (x := (-128)) rfl zd_14_26_71 ?_
          refine zz_l2i (by omega) zd_14_26_72 (fun v21 hv21 av21 ev21 => ?_)
          exact zz_iret zd_14_26_73 rfl (Nat.zero_le _) (Nat.zero_le _) ⟨_, _, rfl, rfl, by omega⟩
        · refine zz_iconst zd_14_26_67 ?_
          refine zz_goto zd_14_26_68 ?_
          exact zz_iret zd_14_26_73 rfl (Nat.zero_le _) (Nat.zero_le _) ⟨_, _, rfl, rfl, by omega⟩
  · refine zz_iload_n (x := p0) rfl zd_14_26_9 ?_
    refine zz_i2l (by omega) zd_14_26_10 ?_
    refine zz_lconst (z := 1) (by decide) zd_14_26_11 ?_
    refine zz_iload_n (x := v1) rfl zd_14_26_12 ?_
    refine zz_iconst zd_14_26_13 ?_
    refine zz_isub zd_14_26_14 ?_
    refine zz_lshl zd_14_26_15 (fun v22 hv22 ev22 => ?_)
    refine zz_ladd zd_14_26_16 ?_
    refine zz_nrml (fun v23 hv23 ev23 => ?_)
    refine zz_iload_n (x := v1) rfl zd_14_26_17 ?_
    refine zz_lshr zd_14_26_18 (fun v24 hv24 ev24 => ?_)
    refine zz_goto zd_14_26_19 ?_
    refine zz_lstore_n [some (zi p0), some (zi p1), some (zi v1), some (zl v24), none] zd_14_26_24 (by decide) rfl ?_
    refine zz_lload_n (x := v24) rfl zd_14_26_25 ?_
    refine zz_ldc2 (z := (-128)) zq_Md_254 (by decide) zd_14_26_26 ?_
    refine zz_lcmp (by omega) (by omega) zd_14_26_29 (fun v25 hv25 => ?_)
    refine zz_if_ge (by omega) zd_14_26_30 (fun c26 => ?_) (fun c26 => ?_)
    · refine zz_lload_n (x := v24) rfl zd_14_26_39 ?_
      refine zz_ldc2 (z := 127) zq_Md_256 (by decide) zd_14_26_40 ?_
      refine zz_lcmp (by omega) (by omega) zd_14_26_43 (fun v27 hv27 => ?_)
      refine zz_if_le (by omega) zd_14_26_44 (fun c28 => ?_) (fun c28 => ?_)
      · refine zz_lload_n (x := v24) rfl zd_14_26_53 ?_
        refine zz_lstore_n [some (zi p0), some (zi p1), some (zi v1), some (zl v24), none] zd_14_26_54 (by decide) rfl ?_
        refine zz_iload_n (x := p1) rfl zd_14_26_55 ?_
        refine zz_bipush (by decide) zd_14_26_56 ?_
        refine zz_icmp_le (by omega) (by omega) zd_14_26_58 (fun c29 => ?_) (fun c29 => ?_)
        · refine zz_lload_n (x := v24) rfl zd_14_26_71 ?_
          refine zz_l2i (by omega) zd_14_26_72 (fun v30 hv30 av30 ev30 => ?_)
          exact zz_iret zd_14_26_73 rfl (Nat.zero_le _) (Nat.zero_le _) ⟨_, _, rfl, rfl, by omega⟩
        · refine zz_lload_n (x := v24) rfl zd_14_26_61 ?_
          refine zz_lconst (z := 0) (by decide) zd_14_26_62 ?_
          refine zz_lcmp (by omega) (by omega) zd_14_26_63 (fun v31 hv31 => ?_)
          refine zz_if_ge (by omega) zd_14_26_64 (fun c32 => ?_) (fun c32 => ?_)
          · refine zz_lload_n (x := v24) rfl zd_14_26_71 ?_
            refine zz_l2i (by omega) zd_14_26_72 (fun v33 hv33 av33 ev33 => ?_)
            exact zz_iret zd_14_26_73 rfl (Nat.zero_le _) (Nat.zero_le _) ⟨_, _, rfl, rfl, by omega⟩
          · refine zz_iconst zd_14_26_67 ?_
            refine zz_goto zd_14_26_68 ?_
            exact zz_iret zd_14_26_73 rfl (Nat.zero_le _) (Nat.zero_le _) ⟨_, _, rfl, rfl, by omega⟩
      · refine zz_ldc2 (z := 127) zq_Md_256 (by decide) zd_14_26_47 ?_
        refine zz_goto zd_14_26_50 ?_
        refine zz_lstore_n [some (zi p0), some (zi p1), some (zi v1), some (zl 127), none] zd_14_26_54 (by decide) rfl ?_
        refine zz_iload_n (x := p1) rfl zd_14_26_55 ?_
        refine zz_bipush (by decide) zd_14_26_56 ?_
        refine zz_icmp_le (by omega) (by omega) zd_14_26_58 (fun c34 => ?_) (fun c34 => ?_)
        · refine zz_lload_n (x := 127) rfl zd_14_26_71 ?_
          refine zz_l2i (by omega) zd_14_26_72 (fun v35 hv35 av35 ev35 => ?_)
          exact zz_iret zd_14_26_73 rfl (Nat.zero_le _) (Nat.zero_le _) ⟨_, _, rfl, rfl, by omega⟩
        · refine zz_lload_n (x := 127) rfl zd_14_26_61 ?_
          refine zz_lconst (z := 0) (by decide) zd_14_26_62 ?_
          refine zz_lcmp (by omega) (by omega) zd_14_26_63 (fun v36 hv36 => ?_)
          refine zz_if_ge (by omega) zd_14_26_64 (fun c37 => ?_) (fun c37 => ?_)
          · refine zz_lload_n (x := 127) rfl zd_14_26_71 ?_
            refine zz_l2i (by omega) zd_14_26_72 (fun v38 hv38 av38 ev38 => ?_)
            exact zz_iret zd_14_26_73 rfl (Nat.zero_le _) (Nat.zero_le _) ⟨_, _, rfl, rfl, by omega⟩
          · refine zz_iconst zd_14_26_67 ?_
            refine zz_goto zd_14_26_68 ?_
            exact zz_iret zd_14_26_73 rfl (Nat.zero_le _) (Nat.zero_le _) ⟨_, _, rfl, rfl, by omega⟩
    · refine zz_ldc2 (z := (-128)) zq_Md_254 (by decide) zd_14_26_33 ?_
      refine zz_goto zd_14_26_36 ?_
      refine zz_lstore_n [some (zi p0), some (zi p1), some (zi v1), some (zl (-128)), none] zd_14_26_54 (by decide) rfl ?_
      refine zz_iload_n (x := p1) rfl zd_14_26_55 ?_
      refine zz_bipush (by decide) zd_14_26_56 ?_
      refine zz_icmp_le (by omega) (by omega) zd_14_26_58 (fun c39 => ?_) (fun c39 => ?_)
      · refine zz_lload_n (x := (-128)) rfl zd_14_26_71 ?_
        refine zz_l2i (by omega) zd_14_26_72 (fun v40 hv40 av40 ev40 => ?_)
        exact zz_iret zd_14_26_73 rfl (Nat.zero_le _) (Nat.zero_le _) ⟨_, _, rfl, rfl, by omega⟩
      · refine zz_lload_n (x := (-128)) rfl zd_14_26_61 ?_
        refine zz_lconst (z := 0) (by decide) zd_14_26_62 ?_
        refine zz_lcmp (by omega) (by omega) zd_14_26_63 (fun v41 hv41 => ?_)
        refine zz_if_ge (by omega) zd_14_26_64 (fun c42 => ?_) (fun c42 => ?_)
        · refine zz_lload_n (x := (-128)) rfl zd_14_26_71 ?_
          refine zz_l2i (by omega) zd_14_26_72 (fun v43 hv43 av43 ev43 => ?_)
          exact zz_iret zd_14_26_73 rfl (Nat.zero_le _) (Nat.zero_le _) ⟨_, _, rfl, rfl, by omega⟩
        · refine zz_iconst zd_14_26_67 ?_
          refine zz_goto zd_14_26_68 ?_
          exact zz_iret zd_14_26_73 rfl (Nat.zero_le _) (Nat.zero_le _) ⟨_, _, rfl, rfl, by omega⟩
abbrev zy_intAt_14_27 : mm_Y := (⟨"TensorForgeModel", "intAt", "(I)I"⟩, prog_14_method_27_code, 2, (some .int))
theorem zyw_intAt_14_27 : mm_Yw zy_intAt_14_27 1 := ⟨mm_tb_1 1983 (by decide +kernel) rfl, mm_tb_1 12 (by decide +kernel) rfl, ⟨by decide, by decide⟩, by decide +kernel⟩
theorem zd_14_27_0 : zz_D zy_intAt_14_27 0 (.aload_n 0) 1 1 := ⟨by decide +kernel, rfl⟩
theorem zd_14_27_1 : zz_D zy_intAt_14_27 1 (.getfield 13) 3 4 := ⟨by decide +kernel, rfl⟩
theorem zd_14_27_4 : zz_D zy_intAt_14_27 4 (.iload_n 1) 1 5 := ⟨by decide +kernel, rfl⟩
theorem zd_14_27_5 : zz_D zy_intAt_14_27 5 (.iaload) 1 6 := ⟨by decide +kernel, rfl⟩
theorem zd_14_27_6 : zz_D zy_intAt_14_27 6 (.sipush 255) 3 9 := ⟨by decide +kernel, rfl⟩
theorem zd_14_27_9 : zz_D zy_intAt_14_27 9 (.iand) 1 10 := ⟨by decide +kernel, rfl⟩
theorem zd_14_27_10 : zz_D zy_intAt_14_27 10 (.aload_n 0) 1 11 := ⟨by decide +kernel, rfl⟩
theorem zd_14_27_11 : zz_D zy_intAt_14_27 11 (.getfield 13) 3 14 := ⟨by decide +kernel, rfl⟩
theorem zd_14_27_14 : zz_D zy_intAt_14_27 14 (.iload_n 1) 1 15 := ⟨by decide +kernel, rfl⟩
theorem zd_14_27_15 : zz_D zy_intAt_14_27 15 (.iconst 1) 1 16 := ⟨by decide +kernel, rfl⟩
theorem zd_14_27_16 : zz_D zy_intAt_14_27 16 (.iadd) 1 17 := ⟨by decide +kernel, rfl⟩
theorem zd_14_27_17 : zz_D zy_intAt_14_27 17 (.iaload) 1 18 := ⟨by decide +kernel, rfl⟩
theorem zd_14_27_18 : zz_D zy_intAt_14_27 18 (.sipush 255) 3 21 := ⟨by decide +kernel, rfl⟩
theorem zd_14_27_21 : zz_D zy_intAt_14_27 21 (.iand) 1 22 := ⟨by decide +kernel, rfl⟩
theorem zd_14_27_22 : zz_D zy_intAt_14_27 22 (.bipush 8) 2 24 := ⟨by decide +kernel, rfl⟩
theorem zd_14_27_24 : zz_D zy_intAt_14_27 24 (.ishl) 1 25 := ⟨by decide +kernel, rfl⟩
theorem zd_14_27_25 : zz_D zy_intAt_14_27 25 (.ior) 1 26 := ⟨by decide +kernel, rfl⟩
theorem zd_14_27_26 : zz_D zy_intAt_14_27 26 (.aload_n 0) 1 27 := ⟨by decide +kernel, rfl⟩
theorem zd_14_27_27 : zz_D zy_intAt_14_27 27 (.getfield 13) 3 30 := ⟨by decide +kernel, rfl⟩
theorem zd_14_27_30 : zz_D zy_intAt_14_27 30 (.iload_n 1) 1 31 := ⟨by decide +kernel, rfl⟩
theorem zd_14_27_31 : zz_D zy_intAt_14_27 31 (.iconst 2) 1 32 := ⟨by decide +kernel, rfl⟩
theorem zd_14_27_32 : zz_D zy_intAt_14_27 32 (.iadd) 1 33 := ⟨by decide +kernel, rfl⟩
theorem zd_14_27_33 : zz_D zy_intAt_14_27 33 (.iaload) 1 34 := ⟨by decide +kernel, rfl⟩
theorem zd_14_27_34 : zz_D zy_intAt_14_27 34 (.sipush 255) 3 37 := ⟨by decide +kernel, rfl⟩
theorem zd_14_27_37 : zz_D zy_intAt_14_27 37 (.iand) 1 38 := ⟨by decide +kernel, rfl⟩
theorem zd_14_27_38 : zz_D zy_intAt_14_27 38 (.bipush 16) 2 40 := ⟨by decide +kernel, rfl⟩
theorem zd_14_27_40 : zz_D zy_intAt_14_27 40 (.ishl) 1 41 := ⟨by decide +kernel, rfl⟩
theorem zd_14_27_41 : zz_D zy_intAt_14_27 41 (.ior) 1 42 := ⟨by decide +kernel, rfl⟩
theorem zd_14_27_42 : zz_D zy_intAt_14_27 42 (.aload_n 0) 1 43 := ⟨by decide +kernel, rfl⟩
theorem zd_14_27_43 : zz_D zy_intAt_14_27 43 (.getfield 13) 3 46 := ⟨by decide +kernel, rfl⟩
theorem zd_14_27_46 : zz_D zy_intAt_14_27 46 (.iload_n 1) 1 47 := ⟨by decide +kernel, rfl⟩
theorem zd_14_27_47 : zz_D zy_intAt_14_27 47 (.iconst 3) 1 48 := ⟨by decide +kernel, rfl⟩
theorem zd_14_27_48 : zz_D zy_intAt_14_27 48 (.iadd) 1 49 := ⟨by decide +kernel, rfl⟩
theorem zd_14_27_49 : zz_D zy_intAt_14_27 49 (.iaload) 1 50 := ⟨by decide +kernel, rfl⟩
theorem zd_14_27_50 : zz_D zy_intAt_14_27 50 (.bipush 24) 2 52 := ⟨by decide +kernel, rfl⟩
theorem zd_14_27_52 : zz_D zy_intAt_14_27 52 (.ishl) 1 53 := ⟨by decide +kernel, rfl⟩
theorem zd_14_27_53 : zz_D zy_intAt_14_27 53 (.ior) 1 54 := ⟨by decide +kernel, rfl⟩
theorem zd_14_27_54 : zz_D zy_intAt_14_27 54 (.ireturn) 1 55 := ⟨by decide +kernel, rfl⟩
-- TensorForgeModel intAt (I)I
abbrev zr_intAt_14_27 : Room := { frames := 0, cells := 0, slots := 0, locals := 0 }
def zp_intAt_14_27 (p0 : Int) (S0 : zz_S) : Int → zz_S → Prop := fun r S => S0 = S ∧ ((-2147483648) ≤ r ∧ r ≤ 2147483647)
theorem zc_intAt_14_27 {g : mm_G} {l : Launch} (p0 : Int) (S0 : zz_S) (n : Nat) (hn : zz_end ≤ n) (G_S0 : zz_G S0) (hp0 : 0 ≤ p0 ∧ p0 ≤ 4092) : mm_Met g l zy_intAt_14_27 zr_intAt_14_27 [.ref 1079, zi p0] (zz_M S0 n) n (zz_QI n (zp_intAt_14_27 p0 S0)) := by
  refine zz_enter (by decide) (Nat.le_of_ble_eq_true rfl) (zz_less (ls1 := [some (.ref 1079), some (zi p0)]) ⟨rfl, ⟨rfl, trivial⟩⟩ ?_)
  refine zz_aload_n (x := 1079) rfl zd_14_27_0 ?_
  refine zz_getr (kd := 0) (z := 1080) zd_14_27_1 zf_Md_13 zT_1079 rfl (zz_ltn hn rfl) (zz_G.eq G_S0 1079 2 1080 rfl rfl) (by decide) 1080 rfl ?_
  refine zz_iload_n (x := p0) rfl zd_14_27_4 ?_
  have g1 := zz_G.r G_S0 1080 p0.toNat (-2147483648) 2147483647 rfl rfl
  refine zz_iald (z := S0 1080 p0.toNat) zd_14_27_5 zT_1080 rfl (zz_ltn hn rfl) (by decide) (by omega) rfl ?_
  refine zz_sipush (by decide) zd_14_27_6 ?_
  refine zz_iand (by omega) (by omega) zd_14_27_9 (fun v2 hv2 av2 bv2 ev2 => ?_)
  refine zz_aload_n (x := 1079) rfl zd_14_27_10 ?_
  refine zz_getr (kd := 0) (z := 1080) zd_14_27_11 zf_Md_13 zT_1079 rfl (zz_ltn hn rfl) (zz_G.eq G_S0 1079 2 1080 rfl rfl) (by decide) 1080 rfl ?_
  refine zz_iload_n (x := p0) rfl zd_14_27_14 ?_
  refine zz_iconst zd_14_27_15 ?_
  refine zz_iadd zd_14_27_16 ?_
  have g3 := zz_G.r G_S0 1080 ((p0 + 1).toNat) (-2147483648) 2147483647 rfl rfl
  refine zz_iald (z := S0 1080 ((p0 + 1).toNat)) zd_14_27_17 zT_1080 rfl (zz_ltn hn rfl) (by decide) (by omega) rfl ?_
  refine zz_sipush (by decide) zd_14_27_18 ?_
  refine zz_iand (by omega) (by omega) zd_14_27_21 (fun v4 hv4 av4 bv4 ev4 => ?_)
  refine zz_bipush (by decide) zd_14_27_22 ?_
  refine zz_ishl zd_14_27_24 (fun v5 hv5 ev5 => ?_)
  refine zz_ior (by omega) (by omega) zd_14_27_25 (fun v6 hv6 av6 ev6 => ?_)
  refine zz_aload_n (x := 1079) rfl zd_14_27_26 ?_
  refine zz_getr (kd := 0) (z := 1080) zd_14_27_27 zf_Md_13 zT_1079 rfl (zz_ltn hn rfl) (zz_G.eq G_S0 1079 2 1080 rfl rfl) (by decide) 1080 rfl ?_
  refine zz_iload_n (x := p0) rfl zd_14_27_30 ?_
  refine zz_iconst zd_14_27_31 ?_
  refine zz_iadd zd_14_27_32 ?_
  have g7 := zz_G.r G_S0 1080 ((p0 + 2).toNat) (-2147483648) 2147483647 rfl rfl
  refine zz_iald (z := S0 1080 ((p0 + 2).toNat)) zd_14_27_33 zT_1080 rfl (zz_ltn hn rfl) (by decide) (by omega) rfl ?_
  refine zz_sipush (by decide) zd_14_27_34 ?_
  refine zz_iand (by omega) (by omega) zd_14_27_37 (fun v8 hv8 av8 bv8 ev8 => ?_)
  refine zz_bipush (by decide) zd_14_27_38 ?_
  refine zz_ishl zd_14_27_40 (fun v9 hv9 ev9 => ?_)
  refine zz_ior (by omega) (by omega) zd_14_27_41 (fun v10 hv10 av10 ev10 => ?_)
  refine zz_aload_n (x := 1079) rfl zd_14_27_42 ?_
  refine zz_getr (kd := 0) (z := 1080) zd_14_27_43 zf_Md_13 zT_1079 rfl (zz_ltn hn rfl) (zz_G.eq G_S0 1079 2 1080 rfl rfl) (by decide) 1080 rfl ?_
  refine zz_iload_n (x := p0) rfl zd_14_27_46 ?_
  refine zz_iconst zd_14_27_47 ?_
  refine zz_iadd zd_14_27_48 ?_
  have g11 := zz_G.r G_S0 1080 ((p0 + 3).toNat) (-2147483648) 2147483647 rfl rfl
  refine zz_iald (z := S0 1080 ((p0 + 3).toNat)) zd_14_27_49 zT_1080 rfl (zz_ltn hn rfl) (by decide) (by omega) rfl ?_
  refine zz_bipush (by decide) zd_14_27_50 ?_
  refine zz_ishl zd_14_27_52 (fun v12 hv12 ev12 => ?_)
  refine zz_ior (by omega) (by omega) zd_14_27_53 (fun v13 hv13 av13 ev13 => ?_)
  exact zz_iret zd_14_27_54 rfl (Nat.zero_le _) (Nat.zero_le _) ⟨_, _, rfl, rfl, by omega⟩
abbrev zy_cycles_14_30 : mm_Y := (⟨"TensorForgeModel", "cycles", "()I"⟩, prog_14_method_30_code, 2, (some .int))
theorem zyw_cycles_14_30 : mm_Yw zy_cycles_14_30 0 := ⟨mm_tb_1 1971 (by decide +kernel) rfl, mm_tb_1 12 (by decide +kernel) rfl, ⟨by decide, by decide⟩, by decide +kernel⟩
theorem zd_14_30_0 : zz_D zy_cycles_14_30 0 (.aload_n 0) 1 1 := ⟨by decide +kernel, rfl⟩
theorem zd_14_30_1 : zz_D zy_cycles_14_30 1 (.getfield 36) 3 4 := ⟨by decide +kernel, rfl⟩
theorem zd_14_30_4 : zz_D zy_cycles_14_30 4 (.bipush 6) 2 6 := ⟨by decide +kernel, rfl⟩
theorem zd_14_30_6 : zz_D zy_cycles_14_30 6 (.iaload) 1 7 := ⟨by decide +kernel, rfl⟩
theorem zd_14_30_7 : zz_D zy_cycles_14_30 7 (.aload_n 0) 1 8 := ⟨by decide +kernel, rfl⟩
theorem zd_14_30_8 : zz_D zy_cycles_14_30 8 (.getfield 36) 3 11 := ⟨by decide +kernel, rfl⟩
theorem zd_14_30_11 : zz_D zy_cycles_14_30 11 (.bipush 7) 2 13 := ⟨by decide +kernel, rfl⟩
theorem zd_14_30_13 : zz_D zy_cycles_14_30 13 (.iaload) 1 14 := ⟨by decide +kernel, rfl⟩
theorem zd_14_30_14 : zz_D zy_cycles_14_30 14 (.imul) 1 15 := ⟨by decide +kernel, rfl⟩
theorem zd_14_30_15 : zz_D zy_cycles_14_30 15 (.istore_n 1) 1 16 := ⟨by decide +kernel, rfl⟩
theorem zd_14_30_16 : zz_D zy_cycles_14_30 16 (.aload_n 0) 1 17 := ⟨by decide +kernel, rfl⟩
theorem zd_14_30_17 : zz_D zy_cycles_14_30 17 (.getfield 36) 3 20 := ⟨by decide +kernel, rfl⟩
theorem zd_14_30_20 : zz_D zy_cycles_14_30 20 (.iconst 0) 1 21 := ⟨by decide +kernel, rfl⟩
theorem zd_14_30_21 : zz_D zy_cycles_14_30 21 (.iaload) 1 22 := ⟨by decide +kernel, rfl⟩
theorem zd_14_30_22 : zz_D zy_cycles_14_30 22 (.bipush 9) 2 24 := ⟨by decide +kernel, rfl⟩
theorem zd_14_30_24 : zz_B zy_cycles_14_30 24 (Instr.if_icmp .ne) 31 27 := ⟨7, by decide +kernel, rfl, rfl⟩
theorem zd_14_30_31 : zz_D zy_cycles_14_30 31 (.aload_n 0) 1 32 := ⟨by decide +kernel, rfl⟩
theorem zd_14_30_32 : zz_D zy_cycles_14_30 32 (.getfield 36) 3 35 := ⟨by decide +kernel, rfl⟩
theorem zd_14_30_35 : zz_D zy_cycles_14_30 35 (.iconst 0) 1 36 := ⟨by decide +kernel, rfl⟩
theorem zd_14_30_36 : zz_D zy_cycles_14_30 36 (.iaload) 1 37 := ⟨by decide +kernel, rfl⟩
theorem zd_14_30_37 : zz_D zy_cycles_14_30 37 (.iconst 5) 1 38 := ⟨by decide +kernel, rfl⟩
theorem zd_14_30_38 : zz_B zy_cycles_14_30 38 (Instr.if_icmp .ne) 60 41 := ⟨22, by decide +kernel, rfl, rfl⟩
theorem zd_14_30_60 : zz_D zy_cycles_14_30 60 (.aload_n 0) 1 61 := ⟨by decide +kernel, rfl⟩
theorem zd_14_30_61 : zz_D zy_cycles_14_30 61 (.getfield 36) 3 64 := ⟨by decide +kernel, rfl⟩
theorem zd_14_30_64 : zz_D zy_cycles_14_30 64 (.iconst 0) 1 65 := ⟨by decide +kernel, rfl⟩
theorem zd_14_30_65 : zz_D zy_cycles_14_30 65 (.iaload) 1 66 := ⟨by decide +kernel, rfl⟩
theorem zd_14_30_66 : zz_D zy_cycles_14_30 66 (.iconst 4) 1 67 := ⟨by decide +kernel, rfl⟩
theorem zd_14_30_67 : zz_B zy_cycles_14_30 67 (Instr.if_icmp .ne) 76 70 := ⟨9, by decide +kernel, rfl, rfl⟩
theorem zd_14_30_76 : zz_D zy_cycles_14_30 76 (.iload_n 1) 1 77 := ⟨by decide +kernel, rfl⟩
theorem zd_14_30_77 : zz_D zy_cycles_14_30 77 (.ireturn) 1 78 := ⟨by decide +kernel, rfl⟩
theorem zd_14_30_70 : zz_D zy_cycles_14_30 70 (.iconst 4) 1 71 := ⟨by decide +kernel, rfl⟩
theorem zd_14_30_71 : zz_D zy_cycles_14_30 71 (.iload_n 1) 1 72 := ⟨by decide +kernel, rfl⟩
theorem zd_14_30_72 : zz_D zy_cycles_14_30 72 (.imul) 1 73 := ⟨by decide +kernel, rfl⟩
theorem zd_14_30_73 : zz_B zy_cycles_14_30 73 Instr.goto 77 76 := ⟨4, by decide +kernel, rfl, rfl⟩
theorem zd_14_30_41 : zz_D zy_cycles_14_30 41 (.aload_n 0) 1 42 := ⟨by decide +kernel, rfl⟩
theorem zd_14_30_42 : zz_D zy_cycles_14_30 42 (.getfield 36) 3 45 := ⟨by decide +kernel, rfl⟩
theorem zd_14_30_45 : zz_D zy_cycles_14_30 45 (.bipush 6) 2 47 := ⟨by decide +kernel, rfl⟩
theorem zd_14_30_47 : zz_D zy_cycles_14_30 47 (.iaload) 1 48 := ⟨by decide +kernel, rfl⟩
theorem zd_14_30_48 : zz_D zy_cycles_14_30 48 (.iconst 2) 1 49 := ⟨by decide +kernel, rfl⟩
theorem zd_14_30_49 : zz_D zy_cycles_14_30 49 (.aload_n 0) 1 50 := ⟨by decide +kernel, rfl⟩
theorem zd_14_30_50 : zz_D zy_cycles_14_30 50 (.getfield 7) 3 53 := ⟨by decide +kernel, rfl⟩
theorem zd_14_30_53 : zz_D zy_cycles_14_30 53 (.imul) 1 54 := ⟨by decide +kernel, rfl⟩
theorem zd_14_30_54 : zz_D zy_cycles_14_30 54 (.iadd) 1 55 := ⟨by decide +kernel, rfl⟩
theorem zd_14_30_55 : zz_D zy_cycles_14_30 55 (.iconst 2) 1 56 := ⟨by decide +kernel, rfl⟩
theorem zd_14_30_56 : zz_D zy_cycles_14_30 56 (.isub) 1 57 := ⟨by decide +kernel, rfl⟩
theorem zd_14_30_57 : zz_B zy_cycles_14_30 57 Instr.goto 77 60 := ⟨20, by decide +kernel, rfl, rfl⟩
theorem zd_14_30_27 : zz_D zy_cycles_14_30 27 (.iconst 1) 1 28 := ⟨by decide +kernel, rfl⟩
theorem zd_14_30_28 : zz_B zy_cycles_14_30 28 Instr.goto 77 31 := ⟨49, by decide +kernel, rfl, rfl⟩
-- TensorForgeModel cycles ()I
abbrev zr_cycles_14_30 : Room := { frames := 0, cells := 0, slots := 0, locals := 0 }
def zp_cycles_14_30  (S0 : zz_S) : Int → zz_S → Prop := fun r S => S0 = S ∧ ((-2147483648) ≤ r ∧ r ≤ 2147483647)
theorem zc_cycles_14_30 {g : mm_G} {l : Launch}  (S0 : zz_S) (n : Nat) (hn : zz_end ≤ n) (G_S0 : zz_G S0)  : mm_Met g l zy_cycles_14_30 zr_cycles_14_30 [.ref 1079] (zz_M S0 n) n (zz_QI n (zp_cycles_14_30  S0)) := by
  refine zz_enter (by decide) (Nat.le_of_ble_eq_true rfl) (zz_less (ls1 := [some (.ref 1079)]) ⟨rfl, trivial⟩ ?_)
  refine zz_aload_n (x := 1079) rfl zd_14_30_0 ?_
  refine zz_getr (kd := 0) (z := 1087) zd_14_30_1 zf_Md_36 zT_1079 rfl (zz_ltn hn rfl) (zz_G.eq G_S0 1079 11 1087 rfl rfl) (by decide) 1087 rfl ?_
  refine zz_bipush (by decide) zd_14_30_4 ?_
  have g1 := zz_G.r G_S0 1087 6 (-2147483648) 2147483647 rfl rfl
  refine zz_iald (z := S0 1087 6) zd_14_30_6 zT_1087 rfl (zz_ltn hn rfl) (by decide) (by decide) rfl ?_
  refine zz_aload_n (x := 1079) rfl zd_14_30_7 ?_
  refine zz_getr (kd := 0) (z := 1087) zd_14_30_8 zf_Md_36 zT_1079 rfl (zz_ltn hn rfl) (zz_G.eq G_S0 1079 11 1087 rfl rfl) (by decide) 1087 rfl ?_
  refine zz_bipush (by decide) zd_14_30_11 ?_
  have g2 := zz_G.r G_S0 1087 7 (-2147483648) 2147483647 rfl rfl
  refine zz_iald (z := S0 1087 7) zd_14_30_13 zT_1087 rfl (zz_ltn hn rfl) (by decide) (by decide) rfl ?_
  refine zz_imul zd_14_30_14 ?_
  refine zz_nrm (fun v3 hv3 ev3 => ?_)
  refine zz_istore_n [some (.ref 1079), some (zi v3)] zd_14_30_15 (by decide) rfl ?_
  refine zz_aload_n (x := 1079) rfl zd_14_30_16 ?_
  refine zz_getr (kd := 0) (z := 1087) zd_14_30_17 zf_Md_36 zT_1079 rfl (zz_ltn hn rfl) (zz_G.eq G_S0 1079 11 1087 rfl rfl) (by decide) 1087 rfl ?_
  refine zz_iconst zd_14_30_20 ?_
  have g4 := zz_G.r G_S0 1087 0 (-2147483648) 2147483647 rfl rfl
  refine zz_iald (z := S0 1087 0) zd_14_30_21 zT_1087 rfl (zz_ltn hn rfl) (by decide) (by decide) rfl ?_
  refine zz_bipush (by decide) zd_14_30_22 ?_
  refine zz_icmp_ne (by omega) (by omega) zd_14_30_24 (fun c5 => ?_) (fun c5 => ?_)
  · refine zz_aload_n (x := 1079) rfl zd_14_30_31 ?_
    refine zz_getr (kd := 0) (z := 1087) zd_14_30_32 zf_Md_36 zT_1079 rfl (zz_ltn hn rfl) (zz_G.eq G_S0 1079 11 1087 rfl rfl) (by decide) 1087 rfl ?_
    refine zz_iconst zd_14_30_35 ?_
    refine zz_iald (z := S0 1087 0) zd_14_30_36 zT_1087 rfl (zz_ltn hn rfl) (by decide) (by decide) rfl ?_
    refine zz_iconst zd_14_30_37 ?_
    refine zz_icmp_ne (by omega) (by omega) zd_14_30_38 (fun c6 => ?_) (fun c6 => ?_)
    · refine zz_aload_n (x := 1079) rfl zd_14_30_60 ?_
      refine zz_getr (kd := 0) (z := 1087) zd_14_30_61 zf_Md_36 zT_1079 rfl (zz_ltn hn rfl) (zz_G.eq G_S0 1079 11 1087 rfl rfl) (by decide) 1087 rfl ?_
      refine zz_iconst zd_14_30_64 ?_
      refine zz_iald (z := S0 1087 0) zd_14_30_65 zT_1087 rfl (zz_ltn hn rfl) (by decide) (by decide) rfl ?_
      refine zz_iconst zd_14_30_66 ?_
      refine zz_icmp_ne (by omega) (by omega) zd_14_30_67 (fun c7 => ?_) (fun c7 => ?_)
      · refine zz_iload_n (x := v3) rfl zd_14_30_76 ?_
        exact zz_iret zd_14_30_77 rfl (Nat.zero_le _) (Nat.zero_le _) ⟨_, _, rfl, rfl, by omega⟩
      · refine zz_iconst zd_14_30_70 ?_
        refine zz_iload_n (x := v3) rfl zd_14_30_71 ?_
        refine zz_imul zd_14_30_72 ?_
        refine zz_nrm (fun v8 hv8 ev8 => ?_)
        refine zz_goto zd_14_30_73 ?_
        exact zz_iret zd_14_30_77 rfl (Nat.zero_le _) (Nat.zero_le _) ⟨_, _, rfl, rfl, by omega⟩
    · refine zz_aload_n (x := 1079) rfl zd_14_30_41 ?_
      refine zz_getr (kd := 0) (z := 1087) zd_14_30_42 zf_Md_36 zT_1079 rfl (zz_ltn hn rfl) (zz_G.eq G_S0 1079 11 1087 rfl rfl) (by decide) 1087 rfl ?_
      refine zz_bipush (by decide) zd_14_30_45 ?_
      refine zz_iald (z := S0 1087 6) zd_14_30_47 zT_1087 rfl (zz_ltn hn rfl) (by decide) (by decide) rfl ?_
      refine zz_iconst zd_14_30_48 ?_
      refine zz_aload_n (x := 1079) rfl zd_14_30_49 ?_
      have g9 := zz_G.r G_S0 1079 1 2 8 rfl rfl
      refine zz_geti (z := S0 1079 1) zd_14_30_50 zf_Md_7 zT_1079 rfl (zz_ltn hn rfl) rfl ?_
      refine zz_imul zd_14_30_53 ?_
      refine zz_iadd zd_14_30_54 ?_
      refine zz_nrm (fun v10 hv10 ev10 => ?_)
      refine zz_iconst zd_14_30_55 ?_
      refine zz_isub zd_14_30_56 ?_
      refine zz_nrm (fun v11 hv11 ev11 => ?_)
      refine zz_goto zd_14_30_57 ?_
      exact zz_iret zd_14_30_77 rfl (Nat.zero_le _) (Nat.zero_le _) ⟨_, _, rfl, rfl, by omega⟩
  · refine zz_iconst zd_14_30_27 ?_
    refine zz_goto zd_14_30_28 ?_
    exact zz_iret zd_14_30_77 rfl (Nat.zero_le _) (Nat.zero_le _) ⟨_, _, rfl, rfl, by omega⟩
abbrev zy_popped_14_31 : mm_Y := (⟨"TensorForgeModel", "popped", "(IZ)I"⟩, prog_14_method_31_code, 2, (some .int))
theorem zyw_popped_14_31 : mm_Yw zy_popped_14_31 2 := ⟨mm_tb_1 1956 (by decide +kernel) rfl, mm_tb_1 12 (by decide +kernel) rfl, ⟨by decide, by decide⟩, by decide +kernel⟩
theorem zd_14_31_0 : zz_D zy_popped_14_31 0 (.iload_n 1) 1 1 := ⟨by decide +kernel, rfl⟩
theorem zd_14_31_1 : zz_B zy_popped_14_31 1 (Instr.ifCond .eq) 16 4 := ⟨15, by decide +kernel, rfl, rfl⟩
theorem zd_14_31_16 : zz_D zy_popped_14_31 16 (.iload_n 0) 1 17 := ⟨by decide +kernel, rfl⟩
theorem zd_14_31_17 : zz_D zy_popped_14_31 17 (.iconst 1) 1 18 := ⟨by decide +kernel, rfl⟩
theorem zd_14_31_18 : zz_B zy_popped_14_31 18 (Instr.if_icmp .ne) 25 21 := ⟨7, by decide +kernel, rfl, rfl⟩
theorem zd_14_31_25 : zz_D zy_popped_14_31 25 (.iconst 2) 1 26 := ⟨by decide +kernel, rfl⟩
theorem zd_14_31_26 : zz_D zy_popped_14_31 26 (.ireturn) 1 27 := ⟨by decide +kernel, rfl⟩
theorem zd_14_31_21 : zz_D zy_popped_14_31 21 (.iconst 0) 1 22 := ⟨by decide +kernel, rfl⟩
theorem zd_14_31_22 : zz_B zy_popped_14_31 22 Instr.goto 26 25 := ⟨4, by decide +kernel, rfl, rfl⟩
theorem zd_14_31_4 : zz_D zy_popped_14_31 4 (.iload_n 0) 1 5 := ⟨by decide +kernel, rfl⟩
theorem zd_14_31_5 : zz_B zy_popped_14_31 5 (Instr.ifCond .ne) 12 8 := ⟨7, by decide +kernel, rfl, rfl⟩
theorem zd_14_31_12 : zz_D zy_popped_14_31 12 (.iconst 3) 1 13 := ⟨by decide +kernel, rfl⟩
theorem zd_14_31_13 : zz_B zy_popped_14_31 13 Instr.goto 26 16 := ⟨13, by decide +kernel, rfl, rfl⟩
theorem zd_14_31_8 : zz_D zy_popped_14_31 8 (.iconst 1) 1 9 := ⟨by decide +kernel, rfl⟩
theorem zd_14_31_9 : zz_B zy_popped_14_31 9 Instr.goto 26 12 := ⟨17, by decide +kernel, rfl, rfl⟩
-- TensorForgeModel popped (IZ)I
abbrev zr_popped_14_31 : Room := { frames := 0, cells := 0, slots := 0, locals := 0 }
def zp_popped_14_31 (p0 : Int) (p1 : Int) (S0 : zz_S) : Int → zz_S → Prop := fun r S => S0 = S ∧ (0 ≤ r ∧ r ≤ 3)
theorem zc_popped_14_31 {g : mm_G} {l : Launch} (p0 : Int) (p1 : Int) (S0 : zz_S) (n : Nat) (hn : zz_end ≤ n) (G_S0 : zz_G S0) (hp0 : (-2147483648) ≤ p0 ∧ p0 ≤ 2147483647) (hp1 : 0 ≤ p1 ∧ p1 ≤ 1) : mm_Met g l zy_popped_14_31 zr_popped_14_31 [zi p0, zi p1] (zz_M S0 n) n (zz_QI n (zp_popped_14_31 p0 p1 S0)) := by
  refine zz_enter (by decide) (Nat.le_of_ble_eq_true rfl) (zz_less (ls1 := [some (zi p0), some (zi p1)]) ⟨rfl, ⟨rfl, trivial⟩⟩ ?_)
  refine zz_iload_n (x := p1) rfl zd_14_31_0 ?_
  refine zz_if_eq (by omega) zd_14_31_1 (fun c1 => ?_) (fun c1 => ?_)
  · refine zz_iload_n (x := p0) rfl zd_14_31_16 ?_
    refine zz_iconst zd_14_31_17 ?_
    refine zz_icmp_ne (by omega) (by omega) zd_14_31_18 (fun c2 => ?_) (fun c2 => ?_)
    · refine zz_iconst zd_14_31_25 ?_
      exact zz_iret zd_14_31_26 rfl (Nat.zero_le _) (Nat.zero_le _) ⟨_, _, rfl, rfl, by omega⟩
    · refine zz_iconst zd_14_31_21 ?_
      refine zz_goto zd_14_31_22 ?_
      exact zz_iret zd_14_31_26 rfl (Nat.zero_le _) (Nat.zero_le _) ⟨_, _, rfl, rfl, by omega⟩
  · refine zz_iload_n (x := p0) rfl zd_14_31_4 ?_
    refine zz_if_ne (by omega) zd_14_31_5 (fun c3 => ?_) (fun c3 => ?_)
    · refine zz_iconst zd_14_31_12 ?_
      refine zz_goto zd_14_31_13 ?_
      exact zz_iret zd_14_31_26 rfl (Nat.zero_le _) (Nat.zero_le _) ⟨_, _, rfl, rfl, by omega⟩
    · refine zz_iconst zd_14_31_8 ?_
      refine zz_goto zd_14_31_9 ?_
      exact zz_iret zd_14_31_26 rfl (Nat.zero_le _) (Nat.zero_le _) ⟨_, _, rfl, rfl, by omega⟩
abbrev zy_pushes_14_32 : mm_Y := (⟨"TensorForgeModel", "pushes", "(IZ)I"⟩, prog_14_method_32_code, 2, (some .int))
theorem zyw_pushes_14_32 : mm_Yw zy_pushes_14_32 2 := ⟨mm_tb_1 1945 (by decide +kernel) rfl, mm_tb_1 12 (by decide +kernel) rfl, ⟨by decide, by decide⟩, by decide +kernel⟩
theorem zd_14_32_0 : zz_D zy_pushes_14_32 0 (.iload_n 1) 1 1 := ⟨by decide +kernel, rfl⟩
theorem zd_14_32_1 : zz_B zy_pushes_14_32 1 (Instr.ifCond .eq) 16 4 := ⟨15, by decide +kernel, rfl, rfl⟩
theorem zd_14_32_16 : zz_D zy_pushes_14_32 16 (.iload_n 0) 1 17 := ⟨by decide +kernel, rfl⟩
theorem zd_14_32_17 : zz_D zy_pushes_14_32 17 (.iconst 1) 1 18 := ⟨by decide +kernel, rfl⟩
theorem zd_14_32_18 : zz_B zy_pushes_14_32 18 (Instr.if_icmp .ne) 25 21 := ⟨7, by decide +kernel, rfl, rfl⟩
theorem zd_14_32_25 : zz_D zy_pushes_14_32 25 (.iconst 3) 1 26 := ⟨by decide +kernel, rfl⟩
theorem zd_14_32_26 : zz_D zy_pushes_14_32 26 (.ireturn) 1 27 := ⟨by decide +kernel, rfl⟩
theorem zd_14_32_21 : zz_D zy_pushes_14_32 21 (.iconst 1) 1 22 := ⟨by decide +kernel, rfl⟩
theorem zd_14_32_22 : zz_B zy_pushes_14_32 22 Instr.goto 26 25 := ⟨4, by decide +kernel, rfl, rfl⟩
theorem zd_14_32_4 : zz_D zy_pushes_14_32 4 (.iload_n 0) 1 5 := ⟨by decide +kernel, rfl⟩
theorem zd_14_32_5 : zz_B zy_pushes_14_32 5 (Instr.ifCond .ne) 12 8 := ⟨7, by decide +kernel, rfl, rfl⟩
theorem zd_14_32_12 : zz_D zy_pushes_14_32 12 (.iconst 2) 1 13 := ⟨by decide +kernel, rfl⟩
theorem zd_14_32_13 : zz_B zy_pushes_14_32 13 Instr.goto 26 16 := ⟨13, by decide +kernel, rfl, rfl⟩
theorem zd_14_32_8 : zz_D zy_pushes_14_32 8 (.iconst 0) 1 9 := ⟨by decide +kernel, rfl⟩
theorem zd_14_32_9 : zz_B zy_pushes_14_32 9 Instr.goto 26 12 := ⟨17, by decide +kernel, rfl, rfl⟩
-- TensorForgeModel pushes (IZ)I
abbrev zr_pushes_14_32 : Room := { frames := 0, cells := 0, slots := 0, locals := 0 }
def zp_pushes_14_32 (p0 : Int) (p1 : Int) (S0 : zz_S) : Int → zz_S → Prop := fun r S => S0 = S ∧ (0 ≤ r ∧ r ≤ 3)
theorem zc_pushes_14_32 {g : mm_G} {l : Launch} (p0 : Int) (p1 : Int) (S0 : zz_S) (n : Nat) (hn : zz_end ≤ n) (G_S0 : zz_G S0) (hp0 : (-2147483648) ≤ p0 ∧ p0 ≤ 2147483647) (hp1 : 0 ≤ p1 ∧ p1 ≤ 1) : mm_Met g l zy_pushes_14_32 zr_pushes_14_32 [zi p0, zi p1] (zz_M S0 n) n (zz_QI n (zp_pushes_14_32 p0 p1 S0)) := by
  refine zz_enter (by decide) (Nat.le_of_ble_eq_true rfl) (zz_less (ls1 := [some (zi p0), some (zi p1)]) ⟨rfl, ⟨rfl, trivial⟩⟩ ?_)
  refine zz_iload_n (x := p1) rfl zd_14_32_0 ?_
  refine zz_if_eq (by omega) zd_14_32_1 (fun c1 => ?_) (fun c1 => ?_)
  · refine zz_iload_n (x := p0) rfl zd_14_32_16 ?_
    refine zz_iconst zd_14_32_17 ?_
    refine zz_icmp_ne (by omega) (by omega) zd_14_32_18 (fun c2 => ?_) (fun c2 => ?_)
    · refine zz_iconst zd_14_32_25 ?_
      exact zz_iret zd_14_32_26 rfl (Nat.zero_le _) (Nat.zero_le _) ⟨_, _, rfl, rfl, by omega⟩
    · refine zz_iconst zd_14_32_21 ?_
      refine zz_goto zd_14_32_22 ?_
      exact zz_iret zd_14_32_26 rfl (Nat.zero_le _) (Nat.zero_le _) ⟨_, _, rfl, rfl, by omega⟩
  · refine zz_iload_n (x := p0) rfl zd_14_32_4 ?_
    refine zz_if_ne (by omega) zd_14_32_5 (fun c3 => ?_) (fun c3 => ?_)
    · refine zz_iconst zd_14_32_12 ?_
      refine zz_goto zd_14_32_13 ?_
      exact zz_iret zd_14_32_26 rfl (Nat.zero_le _) (Nat.zero_le _) ⟨_, _, rfl, rfl, by omega⟩
    · refine zz_iconst zd_14_32_8 ?_
      refine zz_goto zd_14_32_9 ?_
      exact zz_iret zd_14_32_26 rfl (Nat.zero_le _) (Nat.zero_le _) ⟨_, _, rfl, rfl, by omega⟩
abbrev zy_pushAll_14_33 : mm_Y := (⟨"TensorForgeModel", "pushAll", "(I)V"⟩, prog_14_method_33_code, 4, none)
theorem zyw_pushAll_14_33 : mm_Yw zy_pushAll_14_33 1 := ⟨mm_tb_1 1942 (by decide +kernel) rfl, mm_tb_1 12 (by decide +kernel) rfl, ⟨by decide, by decide⟩, by decide +kernel⟩
theorem zd_14_33_0 : zz_D zy_pushAll_14_33 0 (.iconst 0) 1 1 := ⟨by decide +kernel, rfl⟩
theorem zd_14_33_1 : zz_D zy_pushAll_14_33 1 (.istore_n 2) 1 2 := ⟨by decide +kernel, rfl⟩
theorem zd_14_33_2 : zz_D zy_pushAll_14_33 2 (.iload_n 2) 1 3 := ⟨by decide +kernel, rfl⟩
theorem zd_14_33_3 : zz_D zy_pushAll_14_33 3 (.iconst 3) 1 4 := ⟨by decide +kernel, rfl⟩
theorem zd_14_33_4 : zz_B zy_pushAll_14_33 4 (Instr.if_icmp .ge) 108 7 := ⟨104, by decide +kernel, rfl, rfl⟩
theorem zd_14_33_108 : zz_D zy_pushAll_14_33 108 (.return_) 1 109 := ⟨by decide +kernel, rfl⟩
theorem zd_14_33_7 : zz_D zy_pushAll_14_33 7 (.aload_n 0) 1 8 := ⟨by decide +kernel, rfl⟩
theorem zd_14_33_8 : zz_D zy_pushAll_14_33 8 (.getfield 70) 3 11 := ⟨by decide +kernel, rfl⟩
theorem zf_Md_70 : mm_Fl "TensorForgeModel" 70 11 25 (.array .int) true := ⟨R_Md, F_Md, 69, t_Md, rfl, i_Md, by decide, mm_tb_1 1636 (by decide +kernel) rfl, rfl, t_Md_ok, n_Md, rfl, by decide +kernel⟩
theorem zd_14_33_11 : zz_D zy_pushAll_14_33 11 (.iload_n 2) 1 12 := ⟨by decide +kernel, rfl⟩
theorem zd_14_33_12 : zz_D zy_pushAll_14_33 12 (.iaload) 1 13 := ⟨by decide +kernel, rfl⟩
theorem zd_14_33_13 : zz_D zy_pushAll_14_33 13 (.istore_n 3) 1 14 := ⟨by decide +kernel, rfl⟩
theorem zd_14_33_14 : zz_D zy_pushAll_14_33 14 (.iload_n 3) 1 15 := ⟨by decide +kernel, rfl⟩
theorem zd_14_33_15 : zz_B zy_pushAll_14_33 15 (Instr.ifCond .lt) 102 18 := ⟨87, by decide +kernel, rfl, rfl⟩
theorem zd_14_33_102 : zz_D zy_pushAll_14_33 102 (.iinc 2 1) 3 105 := ⟨by decide +kernel, rfl⟩
theorem zd_14_33_105 : zz_B zy_pushAll_14_33 105 Instr.goto 2 108 := ⟨(-103), by decide +kernel, rfl, rfl⟩
theorem zd_14_33_18 : zz_D zy_pushAll_14_33 18 (.aload_n 0) 1 19 := ⟨by decide +kernel, rfl⟩
theorem zd_14_33_19 : zz_D zy_pushAll_14_33 19 (.getfield 60) 3 22 := ⟨by decide +kernel, rfl⟩
theorem zf_Md_60 : mm_Fl "TensorForgeModel" 60 11 22 (.array .int) true := ⟨R_Md, F_Md, 69, t_Md, rfl, i_Md, by decide, mm_tb_1 1633 (by decide +kernel) rfl, rfl, t_Md_ok, n_Md, rfl, by decide +kernel⟩
theorem zd_14_33_22 : zz_D zy_pushAll_14_33 22 (.iload_n 3) 1 23 := ⟨by decide +kernel, rfl⟩
theorem zd_14_33_23 : zz_D zy_pushAll_14_33 23 (.iaload) 1 24 := ⟨by decide +kernel, rfl⟩
theorem zd_14_33_24 : zz_D zy_pushAll_14_33 24 (.iload_n 1) 1 25 := ⟨by decide +kernel, rfl⟩
theorem zd_14_33_25 : zz_B zy_pushAll_14_33 25 (Instr.if_icmp .gt) 102 28 := ⟨77, by decide +kernel, rfl, rfl⟩
theorem zd_14_33_28 : zz_D zy_pushAll_14_33 28 (.aload_n 0) 1 29 := ⟨by decide +kernel, rfl⟩
theorem zd_14_33_29 : zz_D zy_pushAll_14_33 29 (.getfield 63) 3 32 := ⟨by decide +kernel, rfl⟩
theorem zf_Md_63 : mm_Fl "TensorForgeModel" 63 11 23 (.array .boolean) true := ⟨R_Md, F_Md, 69, t_Md, rfl, i_Md, by decide, mm_tb_1 1634 (by decide +kernel) rfl, rfl, t_Md_ok, n_Md, rfl, by decide +kernel⟩
theorem zd_14_33_32 : zz_D zy_pushAll_14_33 32 (.iload_n 3) 1 33 := ⟨by decide +kernel, rfl⟩
theorem zd_14_33_33 : zz_D zy_pushAll_14_33 33 (.baload) 1 34 := ⟨by decide +kernel, rfl⟩
theorem zd_14_33_34 : zz_B zy_pushAll_14_33 34 (Instr.ifCond .ne) 102 37 := ⟨68, by decide +kernel, rfl, rfl⟩
theorem zd_14_33_37 : zz_D zy_pushAll_14_33 37 (.aload_n 0) 1 38 := ⟨by decide +kernel, rfl⟩
theorem zd_14_33_38 : zz_D zy_pushAll_14_33 38 (.aload_n 0) 1 39 := ⟨by decide +kernel, rfl⟩
theorem zd_14_33_39 : zz_D zy_pushAll_14_33 39 (.getfield 29) 3 42 := ⟨by decide +kernel, rfl⟩
theorem zd_14_33_42 : zz_D zy_pushAll_14_33 42 (.iload_n 3) 1 43 := ⟨by decide +kernel, rfl⟩
theorem zd_14_33_43 : zz_D zy_pushAll_14_33 43 (.laload) 1 44 := ⟨by decide +kernel, rfl⟩
theorem zd_14_33_44 : zz_D zy_pushAll_14_33 44 (.invokevirtual 234) 3 47 := ⟨by decide +kernel, rfl⟩
theorem zd_14_33_47 : zz_D zy_pushAll_14_33 47 (.aload_n 0) 1 48 := ⟨by decide +kernel, rfl⟩
theorem zd_14_33_48 : zz_D zy_pushAll_14_33 48 (.getfield 63) 3 51 := ⟨by decide +kernel, rfl⟩
theorem zd_14_33_51 : zz_D zy_pushAll_14_33 51 (.iload_n 3) 1 52 := ⟨by decide +kernel, rfl⟩
theorem zd_14_33_52 : zz_D zy_pushAll_14_33 52 (.iconst 1) 1 53 := ⟨by decide +kernel, rfl⟩
theorem zd_14_33_53 : zz_D zy_pushAll_14_33 53 (.bastore) 1 54 := ⟨by decide +kernel, rfl⟩
theorem zd_14_33_54 : zz_D zy_pushAll_14_33 54 (.aload_n 0) 1 55 := ⟨by decide +kernel, rfl⟩
theorem zd_14_33_55 : zz_D zy_pushAll_14_33 55 (.getfield 51) 3 58 := ⟨by decide +kernel, rfl⟩
theorem zf_Md_51 : mm_Fl "TensorForgeModel" 51 11 18 (.array .int) true := ⟨R_Md, F_Md, 69, t_Md, rfl, i_Md, by decide, mm_tb_1 1629 (by decide +kernel) rfl, rfl, t_Md_ok, n_Md, rfl, by decide +kernel⟩
theorem zd_14_33_58 : zz_D zy_pushAll_14_33 58 (.aload_n 0) 1 59 := ⟨by decide +kernel, rfl⟩
theorem zd_14_33_59 : zz_D zy_pushAll_14_33 59 (.getfield 54) 3 62 := ⟨by decide +kernel, rfl⟩
theorem zf_Md_54 : mm_Fl "TensorForgeModel" 54 11 20 (.array .int) true := ⟨R_Md, F_Md, 69, t_Md, rfl, i_Md, by decide, mm_tb_1 1631 (by decide +kernel) rfl, rfl, t_Md_ok, n_Md, rfl, by decide +kernel⟩
theorem zd_14_33_62 : zz_D zy_pushAll_14_33 62 (.iload_n 3) 1 63 := ⟨by decide +kernel, rfl⟩
theorem zd_14_33_63 : zz_D zy_pushAll_14_33 63 (.iaload) 1 64 := ⟨by decide +kernel, rfl⟩
theorem zd_14_33_64 : zz_D zy_pushAll_14_33 64 (.iconst 0) 1 65 := ⟨by decide +kernel, rfl⟩
theorem zd_14_33_65 : zz_D zy_pushAll_14_33 65 (.invokestatic 268) 3 68 := ⟨by decide +kernel, rfl⟩
theorem zk_Md_268 : mm_Sl "TensorForgeModel" 268 2 zy_pushes_14_32 := ⟨zyw_pushes_14_32, mm_tb_1 1943 (by decide +kernel) rfl, mm_tb_1 1944 (by decide +kernel) rfl⟩
theorem zd_14_33_68 : zz_D zy_pushAll_14_33 68 (.dup2) 1 69 := ⟨by decide +kernel, rfl⟩
theorem zd_14_33_69 : zz_D zy_pushAll_14_33 69 (.iaload) 1 70 := ⟨by decide +kernel, rfl⟩
theorem zd_14_33_70 : zz_D zy_pushAll_14_33 70 (.aload_n 0) 1 71 := ⟨by decide +kernel, rfl⟩
theorem zd_14_33_71 : zz_D zy_pushAll_14_33 71 (.getfield 36) 3 74 := ⟨by decide +kernel, rfl⟩
theorem zd_14_33_74 : zz_D zy_pushAll_14_33 74 (.iconst 3) 1 75 := ⟨by decide +kernel, rfl⟩
theorem zd_14_33_75 : zz_D zy_pushAll_14_33 75 (.iaload) 1 76 := ⟨by decide +kernel, rfl⟩
theorem zd_14_33_76 : zz_D zy_pushAll_14_33 76 (.iadd) 1 77 := ⟨by decide +kernel, rfl⟩
theorem zd_14_33_77 : zz_D zy_pushAll_14_33 77 (.iastore) 1 78 := ⟨by decide +kernel, rfl⟩
theorem zd_14_33_78 : zz_D zy_pushAll_14_33 78 (.aload_n 0) 1 79 := ⟨by decide +kernel, rfl⟩
theorem zd_14_33_79 : zz_D zy_pushAll_14_33 79 (.getfield 51) 3 82 := ⟨by decide +kernel, rfl⟩
theorem zd_14_33_82 : zz_D zy_pushAll_14_33 82 (.aload_n 0) 1 83 := ⟨by decide +kernel, rfl⟩
theorem zd_14_33_83 : zz_D zy_pushAll_14_33 83 (.getfield 54) 3 86 := ⟨by decide +kernel, rfl⟩
theorem zd_14_33_86 : zz_D zy_pushAll_14_33 86 (.iload_n 3) 1 87 := ⟨by decide +kernel, rfl⟩
theorem zd_14_33_87 : zz_D zy_pushAll_14_33 87 (.iaload) 1 88 := ⟨by decide +kernel, rfl⟩
theorem zd_14_33_88 : zz_D zy_pushAll_14_33 88 (.iconst 1) 1 89 := ⟨by decide +kernel, rfl⟩
theorem zd_14_33_89 : zz_D zy_pushAll_14_33 89 (.invokestatic 268) 3 92 := ⟨by decide +kernel, rfl⟩
theorem zd_14_33_92 : zz_D zy_pushAll_14_33 92 (.dup2) 1 93 := ⟨by decide +kernel, rfl⟩
theorem zd_14_33_93 : zz_D zy_pushAll_14_33 93 (.iaload) 1 94 := ⟨by decide +kernel, rfl⟩
theorem zd_14_33_94 : zz_D zy_pushAll_14_33 94 (.aload_n 0) 1 95 := ⟨by decide +kernel, rfl⟩
theorem zd_14_33_95 : zz_D zy_pushAll_14_33 95 (.getfield 36) 3 98 := ⟨by decide +kernel, rfl⟩
theorem zd_14_33_98 : zz_D zy_pushAll_14_33 98 (.iconst 4) 1 99 := ⟨by decide +kernel, rfl⟩
theorem zd_14_33_99 : zz_D zy_pushAll_14_33 99 (.iaload) 1 100 := ⟨by decide +kernel, rfl⟩
theorem zd_14_33_100 : zz_D zy_pushAll_14_33 100 (.iadd) 1 101 := ⟨by decide +kernel, rfl⟩
theorem zd_14_33_101 : zz_D zy_pushAll_14_33 101 (.iastore) 1 102 := ⟨by decide +kernel, rfl⟩
-- TensorForgeModel pushAll (I)V
abbrev zr_pushAll_14_33 : Room := { frames := 3, cells := 0, slots := 0, locals := 49 }
def zp_pushAll_14_33 (p0 : Int) (S0 : zz_S) : zz_S → Prop := fun S => zz_G S ∧ zz_fr [] [1087, 1091, 1095] (fun _ _ => False) S0 S
theorem zb_pushAll_14_33_2 {g : mm_G} {l : Launch} (p0 : Int) (S0 : zz_S) (n : Nat) (hn : zz_end ≤ n) (G_S0 : zz_G S0) (hp0 : (-2147483648) ≤ p0 ∧ p0 ≤ 2147483647) (x2 : Int) (S : zz_S) (G_S : zz_G S) (F_S : zz_fr [] [1087, 1091, 1095] (fun _ _ => False) S0 S) (i2_0 : 0 ≤ x2 ∧ x2 ≤ 2147483647) (R : Nat) (hR : (3 - x2).toNat = R) (k2 : ∀ (x2 : Int) (S : zz_S), zz_G S → zz_fr [] [1087, 1091, 1095] (fun _ _ => False) S0 S → (0 ≤ x2 ∧ x2 ≤ 2147483647) → (3 - x2).toNat < R → zz_E g l zy_pushAll_14_33 zr_pushAll_14_33 (zz_QV n (zp_pushAll_14_33 p0 S0)) S n 2 [some (.ref 1079), some (zi p0), some (zi x2)] [] 0 0) : zz_E g l zy_pushAll_14_33 zr_pushAll_14_33 (zz_QV n (zp_pushAll_14_33 p0 S0)) S n 2 [some (.ref 1079), some (zi p0), some (zi x2)] [] 0 0 := by
  refine zz_iload_n (x := x2) rfl zd_14_33_2 ?_
  refine zz_iconst zd_14_33_3 ?_
  refine zz_icmp_ge (by omega) (by omega) zd_14_33_4 (fun c1 => ?_) (fun c1 => ?_)
  · exact zz_vret zd_14_33_108 rfl (Nat.zero_le _) (Nat.zero_le _) ⟨_, rfl, G_S, F_S⟩
  · refine zz_aload_n (x := 1079) rfl zd_14_33_7 ?_
    refine zz_getr (kd := 0) (z := 1097) zd_14_33_8 zf_Md_70 zT_1079 rfl (zz_ltn hn rfl) (zz_G.eq G_S 1079 25 1097 rfl rfl) (by decide) 1097 rfl ?_
    refine zz_iload_n (x := x2) rfl zd_14_33_11 ?_
    have g2 := zz_G.r G_S 1097 x2.toNat (-1) 600 rfl rfl
    refine zz_iald (z := S 1097 x2.toNat) zd_14_33_12 zT_1097 rfl (zz_ltn hn rfl) (by decide) (by omega) rfl ?_
    refine zz_istore_n [some (.ref 1079), some (zi p0), some (zi x2), some (zi (S 1097 x2.toNat))] zd_14_33_13 (by decide) rfl ?_
    refine zz_iload_n (x := S 1097 x2.toNat) rfl zd_14_33_14 ?_
    refine zz_if_lt (by omega) zd_14_33_15 (fun c3 => ?_) (fun c3 => ?_)
    · refine zz_iinc [some (.ref 1079), some (zi p0), some (zi (x2 + 1)), some (zi (S 1097 x2.toNat))] zd_14_33_102 rfl rfl ?_
      refine zz_goto zd_14_33_105 ?_
      refine zz_less (ls1 := [some (.ref 1079), some (zi p0), some (zi (x2 + 1))]) ⟨rfl, ⟨rfl, ⟨rfl, trivial⟩⟩⟩ ?_
      exact k2 (x2 + 1) S G_S F_S (by omega) (by omega)
    · refine zz_aload_n (x := 1079) rfl zd_14_33_18 ?_
      refine zz_getr (kd := 0) (z := 1094) zd_14_33_19 zf_Md_60 zT_1079 rfl (zz_ltn hn rfl) (zz_G.eq G_S 1079 22 1094 rfl rfl) (by decide) 1094 rfl ?_
      refine zz_iload_n (x := S 1097 x2.toNat) rfl zd_14_33_22 ?_
      have g4 := zz_G.r G_S 1094 ((S 1097 x2.toNat).toNat) (-2147483648) 2147483647 rfl rfl
      refine zz_iald (z := S 1094 ((S 1097 x2.toNat).toNat)) zd_14_33_23 zT_1094 rfl (zz_ltn hn rfl) (by decide) (by omega) rfl ?_
      refine zz_iload_n (x := p0) rfl zd_14_33_24 ?_
      refine zz_icmp_gt (by omega) (by omega) zd_14_33_25 (fun c5 => ?_) (fun c5 => ?_)
      · refine zz_iinc [some (.ref 1079), some (zi p0), some (zi (x2 + 1)), some (zi (S 1097 x2.toNat))] zd_14_33_102 rfl rfl ?_
        refine zz_goto zd_14_33_105 ?_
        refine zz_less (ls1 := [some (.ref 1079), some (zi p0), some (zi (x2 + 1))]) ⟨rfl, ⟨rfl, ⟨rfl, trivial⟩⟩⟩ ?_
        exact k2 (x2 + 1) S G_S F_S (by omega) (by omega)
      · refine zz_aload_n (x := 1079) rfl zd_14_33_28 ?_
        refine zz_getr (kd := 0) (z := 1095) zd_14_33_29 zf_Md_63 zT_1079 rfl (zz_ltn hn rfl) (zz_G.eq G_S 1079 23 1095 rfl rfl) (by decide) 1095 rfl ?_
        refine zz_iload_n (x := S 1097 x2.toNat) rfl zd_14_33_32 ?_
        have g6 := zz_G.r G_S 1095 ((S 1097 x2.toNat).toNat) 0 1 rfl rfl
        refine zz_zald (z := S 1095 ((S 1097 x2.toNat).toNat)) zd_14_33_33 zT_1095 rfl (zz_ltn hn rfl) (by decide) (by omega) rfl ?_
        refine zz_if_ne (by omega) zd_14_33_34 (fun c7 => ?_) (fun c7 => ?_)
        · refine zz_iinc [some (.ref 1079), some (zi p0), some (zi (x2 + 1)), some (zi (S 1097 x2.toNat))] zd_14_33_102 rfl rfl ?_
          refine zz_goto zd_14_33_105 ?_
          refine zz_less (ls1 := [some (.ref 1079), some (zi p0), some (zi (x2 + 1))]) ⟨rfl, ⟨rfl, ⟨rfl, trivial⟩⟩⟩ ?_
          exact k2 (x2 + 1) S G_S F_S (by omega) (by omega)
        · refine zz_aload_n (x := 1079) rfl zd_14_33_37 ?_
          refine zz_aload_n (x := 1079) rfl zd_14_33_38 ?_
          refine zz_getr (kd := 0) (z := 1085) zd_14_33_39 zf_Md_29 zT_1079 rfl (zz_ltn hn rfl) (zz_G.eq G_S 1079 8 1085 rfl rfl) (by decide) 1085 rfl ?_
          refine zz_iload_n (x := S 1097 x2.toNat) rfl zd_14_33_42 ?_
          have g8 := zz_G.r G_S 1085 ((S 1097 x2.toNat).toNat) (-9223372036854775808) 9223372036854775807 rfl rfl
          refine zz_lald (z := S 1085 ((S 1097 x2.toNat).toNat)) zd_14_33_43 zT_1085 rfl (zz_ltn hn rfl) (by decide) (by omega) rfl ?_
          refine zz_callVV [zl (S 1085 ((S 1097 x2.toNat).toNat))] zd_14_33_44 zk_Md_234 zT_1079 (zz_ltn hn rfl) rfl rfl ⟨Nat.le_of_ble_eq_true rfl, Nat.le_of_ble_eq_true rfl⟩ ⟨rfl, rfl⟩ (Nat.zero_le _) (Nat.zero_le _) (zc_take_14_18 (S 1085 ((S 1097 x2.toNat).toNat)) S n hn G_S (by omega)) (fun S9 hP => ?_)
          obtain ⟨G_S9, fS9⟩ := hP
          have F_S9 := zz_fr.trans F_S fS9 rfl zz_nv
          refine zz_aload_n (x := 1079) rfl zd_14_33_47 ?_
          refine zz_getr (kd := 0) (z := 1095) zd_14_33_48 zf_Md_63 zT_1079 rfl (zz_ltn hn rfl) (zz_G.eq G_S9 1079 23 1095 rfl rfl) (by decide) 1095 rfl ?_
          refine zz_iload_n (x := S 1097 x2.toNat) rfl zd_14_33_51 ?_
          refine zz_iconst zd_14_33_52 ?_
          refine zz_zast zd_14_33_53 zT_1095 rfl (zz_ltn hn rfl) (by decide) (by omega) (by omega) (fun S11 qS11 => ?_)
          have G_S11 := zz_G.put G_S9 qS11 0 1 rfl (by omega)
          have F_S11 := zz_fr.putc F_S9 qS11 rfl
          refine zz_aload_n (x := 1079) rfl zd_14_33_54 ?_
          refine zz_getr (kd := 0) (z := 1091) zd_14_33_55 zf_Md_51 zT_1079 rfl (zz_ltn hn rfl) (zz_G.eq G_S11 1079 18 1091 rfl rfl) (by decide) 1091 rfl ?_
          refine zz_aload_n (x := 1079) rfl zd_14_33_58 ?_
          refine zz_getr (kd := 0) (z := 1092) zd_14_33_59 zf_Md_54 zT_1079 rfl (zz_ltn hn rfl) (zz_G.eq G_S11 1079 20 1092 rfl rfl) (by decide) 1092 rfl ?_
          refine zz_iload_n (x := S 1097 x2.toNat) rfl zd_14_33_62 ?_
          have g12 := zz_G.r G_S 1092 ((S 1097 x2.toNat).toNat) (-2147483648) 2147483647 rfl rfl
          refine zz_iald (z := S 1092 ((S 1097 x2.toNat).toNat)) zd_14_33_63 zT_1092 rfl (zz_ltn hn rfl) (by decide) (by omega) (zz_ro qS11 (fun h => absurd h.1 (by decide)) (zz_rc fS9 (zz_nc1 rfl) rfl (fun h => h) rfl)) ?_
          refine zz_iconst zd_14_33_64 ?_
          refine zz_callSI [zi (S 1092 ((S 1097 x2.toNat).toNat)), zi 0] zd_14_33_65 zk_Md_268 rfl rfl ⟨Nat.le_of_ble_eq_true rfl, Nat.le_of_ble_eq_true rfl⟩ ⟨rfl, rfl⟩ (Nat.zero_le _) (Nat.zero_le _) (zc_pushes_14_32 (S 1092 ((S 1097 x2.toNat).toNat)) 0 S11 n hn G_S11 (by omega) (by omega)) (fun v14 S13 hP => ?_)
          obtain ⟨rfl, o15⟩ := hP
          refine zz_dup2_11 rfl rfl zd_14_33_68 ?_
          have g16 := zz_G.r G_S 1091 v14.toNat (-2147483648) 2147483647 rfl rfl
          refine zz_iald (z := S 1091 v14.toNat) zd_14_33_69 zT_1091 rfl (zz_ltn hn rfl) (by decide) (by omega) (zz_ro qS11 (fun h => absurd h.1 (by decide)) (zz_rc fS9 (zz_nc1 rfl) rfl (fun h => h) rfl)) ?_
          refine zz_aload_n (x := 1079) rfl zd_14_33_70 ?_
          refine zz_getr (kd := 0) (z := 1087) zd_14_33_71 zf_Md_36 zT_1079 rfl (zz_ltn hn rfl) (zz_G.eq G_S11 1079 11 1087 rfl rfl) (by decide) 1087 rfl ?_
          refine zz_iconst zd_14_33_74 ?_
          have g17 := zz_G.r G_S9 1087 3 (-2147483648) 2147483647 rfl rfl
          refine zz_iald (z := S9 1087 3) zd_14_33_75 zT_1087 rfl (zz_ltn hn rfl) (by decide) (by decide) (zz_ro qS11 (fun h => absurd h.1 (by decide)) rfl) ?_
          refine zz_iadd zd_14_33_76 ?_
          refine zz_nrm (fun v18 hv18 ev18 => ?_)
          refine zz_iast zd_14_33_77 zT_1091 rfl (zz_ltn hn rfl) (by decide) (by omega) (fun S19 qS19 => ?_)
          have G_S19 := zz_G.put G_S11 qS19 (-2147483648) 2147483647 rfl (by omega)
          have F_S19 := zz_fr.putc F_S11 qS19 rfl
          refine zz_aload_n (x := 1079) rfl zd_14_33_78 ?_
          refine zz_getr (kd := 0) (z := 1091) zd_14_33_79 zf_Md_51 zT_1079 rfl (zz_ltn hn rfl) (zz_G.eq G_S19 1079 18 1091 rfl rfl) (by decide) 1091 rfl ?_
          refine zz_aload_n (x := 1079) rfl zd_14_33_82 ?_
          refine zz_getr (kd := 0) (z := 1092) zd_14_33_83 zf_Md_54 zT_1079 rfl (zz_ltn hn rfl) (zz_G.eq G_S19 1079 20 1092 rfl rfl) (by decide) 1092 rfl ?_
          refine zz_iload_n (x := S 1097 x2.toNat) rfl zd_14_33_86 ?_
          refine zz_iald (z := S 1092 ((S 1097 x2.toNat).toNat)) zd_14_33_87 zT_1092 rfl (zz_ltn hn rfl) (by decide) (by omega) (zz_ro qS19 (fun h => absurd h.1 (by decide)) (zz_ro qS11 (fun h => absurd h.1 (by decide)) (zz_rc fS9 (zz_nc1 rfl) rfl (fun h => h) rfl))) ?_
          refine zz_iconst zd_14_33_88 ?_
          refine zz_callSI [zi (S 1092 ((S 1097 x2.toNat).toNat)), zi 1] zd_14_33_89 zk_Md_268 rfl rfl ⟨Nat.le_of_ble_eq_true rfl, Nat.le_of_ble_eq_true rfl⟩ ⟨rfl, rfl⟩ (Nat.zero_le _) (Nat.zero_le _) (zc_pushes_14_32 (S 1092 ((S 1097 x2.toNat).toNat)) 1 S19 n hn G_S19 (by omega) (by omega)) (fun v21 S20 hP => ?_)
          obtain ⟨rfl, o22⟩ := hP
          refine zz_dup2_11 rfl rfl zd_14_33_92 ?_
          have g23 := zz_G.r G_S19 1091 v21.toNat (-2147483648) 2147483647 rfl rfl
          refine zz_iald (z := S19 1091 v21.toNat) zd_14_33_93 zT_1091 rfl (zz_ltn hn rfl) (by decide) (by omega) rfl ?_
          refine zz_aload_n (x := 1079) rfl zd_14_33_94 ?_
          refine zz_getr (kd := 0) (z := 1087) zd_14_33_95 zf_Md_36 zT_1079 rfl (zz_ltn hn rfl) (zz_G.eq G_S19 1079 11 1087 rfl rfl) (by decide) 1087 rfl ?_
          refine zz_iconst zd_14_33_98 ?_
          have g24 := zz_G.r G_S9 1087 4 (-2147483648) 2147483647 rfl rfl
          refine zz_iald (z := S9 1087 4) zd_14_33_99 zT_1087 rfl (zz_ltn hn rfl) (by decide) (by decide) (zz_ro qS19 (fun h => absurd h.1 (by decide)) (zz_ro qS11 (fun h => absurd h.1 (by decide)) rfl)) ?_
          refine zz_iadd zd_14_33_100 ?_
          refine zz_nrm (fun v25 hv25 ev25 => ?_)
          refine zz_iast zd_14_33_101 zT_1091 rfl (zz_ltn hn rfl) (by decide) (by omega) (fun S26 qS26 => ?_)
          have G_S26 := zz_G.put G_S19 qS26 (-2147483648) 2147483647 rfl (by omega)
          have F_S26 := zz_fr.putc F_S19 qS26 rfl
          refine zz_iinc [some (.ref 1079), some (zi p0), some (zi (x2 + 1)), some (zi (S 1097 x2.toNat))] zd_14_33_102 rfl rfl ?_
          refine zz_goto zd_14_33_105 ?_
          refine zz_less (ls1 := [some (.ref 1079), some (zi p0), some (zi (x2 + 1))]) ⟨rfl, ⟨rfl, ⟨rfl, trivial⟩⟩⟩ ?_
          exact k2 (x2 + 1) S26 G_S26 F_S26 (by omega) (by omega)
theorem zi_pushAll_14_33 {g : mm_G} {l : Launch} (p0 : Int) (S0 : zz_S) (n : Nat) (hn : zz_end ≤ n) (G_S0 : zz_G S0) (hp0 : (-2147483648) ≤ p0 ∧ p0 ≤ 2147483647) : ∀ N : Nat, (∀ (x2 : Int) (S : zz_S), zz_G S → zz_fr [] [1087, 1091, 1095] (fun _ _ => False) S0 S → (0 ≤ x2 ∧ x2 ≤ 2147483647) → (3 - x2).toNat < N → zz_E g l zy_pushAll_14_33 zr_pushAll_14_33 (zz_QV n (zp_pushAll_14_33 p0 S0)) S n 2 [some (.ref 1079), some (zi p0), some (zi x2)] [] 0 0) := by
  intro N
  induction N with
  | zero => exact fun x2 S _ _ _ h => absurd h (Nat.not_lt_zero _)
  | succ N ih =>
    exact fun x2 S a b j0 hR => zb_pushAll_14_33_2 p0 S0 n hn G_S0 hp0 x2 S a b j0 _ rfl (fun x2 S a b j0 h => ih x2 S a b j0 (Nat.lt_of_lt_of_le h (Nat.le_of_lt_succ hR)))
theorem zc_pushAll_14_33 {g : mm_G} {l : Launch} (p0 : Int) (S0 : zz_S) (n : Nat) (hn : zz_end ≤ n) (G_S0 : zz_G S0) (hp0 : (-2147483648) ≤ p0 ∧ p0 ≤ 2147483647) : mm_Met g l zy_pushAll_14_33 zr_pushAll_14_33 [.ref 1079, zi p0] (zz_M S0 n) n (zz_QV n (zp_pushAll_14_33 p0 S0)) := by
  refine zz_enter (by decide) (Nat.le_of_ble_eq_true rfl) (zz_less (ls1 := [some (.ref 1079), some (zi p0)]) ⟨rfl, ⟨rfl, trivial⟩⟩ ?_)
  have F_S0 : zz_fr [] [1087, 1091, 1095] (fun _ _ => False) S0 S0 := zz_fr.refl
  have k2 : ∀ (x2 : Int) (S : zz_S), zz_G S → zz_fr [] [1087, 1091, 1095] (fun _ _ => False) S0 S → (0 ≤ x2 ∧ x2 ≤ 2147483647) → zz_E g l zy_pushAll_14_33 zr_pushAll_14_33 (zz_QV n (zp_pushAll_14_33 p0 S0)) S n 2 [some (.ref 1079), some (zi p0), some (zi x2)] [] 0 0 := fun x2 S a b j0 => (zi_pushAll_14_33 (g := g) (l := l) p0 S0 n hn G_S0 hp0 _) x2 S a b j0 (Nat.lt_succ_self _)
  refine zz_iconst zd_14_33_0 ?_
  refine zz_istore_n [some (.ref 1079), some (zi p0), some (zi 0)] zd_14_33_1 (by decide) rfl ?_
  refine zz_less (ls1 := [some (.ref 1079), some (zi p0), some (zi 0)]) ⟨rfl, ⟨rfl, ⟨rfl, trivial⟩⟩⟩ ?_
  exact k2 0 S0 G_S0 F_S0 (by omega)
abbrev zy_findNext_14_34 : mm_Y := (⟨"TensorForgeModel", "findNext", "(I)V"⟩, prog_14_method_34_code, 2, none)
theorem zyw_findNext_14_34 : mm_Yw zy_findNext_14_34 1 := ⟨mm_tb_1 1930 (by decide +kernel) rfl, mm_tb_1 12 (by decide +kernel) rfl, ⟨by decide, by decide⟩, by decide +kernel⟩
theorem zd_14_34_0 : zz_D zy_findNext_14_34 0 (.aload_n 0) 1 1 := ⟨by decide +kernel, rfl⟩
theorem zd_14_34_1 : zz_D zy_findNext_14_34 1 (.getfield 73) 3 4 := ⟨by decide +kernel, rfl⟩
theorem zf_Md_73 : mm_Fl "TensorForgeModel" 73 11 26 (.array .int) true := ⟨R_Md, F_Md, 69, t_Md, rfl, i_Md, by decide, mm_tb_1 1637 (by decide +kernel) rfl, rfl, t_Md_ok, n_Md, rfl, by decide +kernel⟩
theorem zd_14_34_4 : zz_D zy_findNext_14_34 4 (.iload_n 1) 1 5 := ⟨by decide +kernel, rfl⟩
theorem zd_14_34_5 : zz_D zy_findNext_14_34 5 (.dup2) 1 6 := ⟨by decide +kernel, rfl⟩
theorem zd_14_34_6 : zz_D zy_findNext_14_34 6 (.iaload) 1 7 := ⟨by decide +kernel, rfl⟩
theorem zd_14_34_7 : zz_D zy_findNext_14_34 7 (.iconst 1) 1 8 := ⟨by decide +kernel, rfl⟩
theorem zd_14_34_8 : zz_D zy_findNext_14_34 8 (.iadd) 1 9 := ⟨by decide +kernel, rfl⟩
theorem zd_14_34_9 : zz_D zy_findNext_14_34 9 (.iastore) 1 10 := ⟨by decide +kernel, rfl⟩
theorem zd_14_34_10 : zz_D zy_findNext_14_34 10 (.aload_n 0) 1 11 := ⟨by decide +kernel, rfl⟩
theorem zd_14_34_11 : zz_D zy_findNext_14_34 11 (.getfield 73) 3 14 := ⟨by decide +kernel, rfl⟩
theorem zd_14_34_14 : zz_D zy_findNext_14_34 14 (.iload_n 1) 1 15 := ⟨by decide +kernel, rfl⟩
theorem zd_14_34_15 : zz_D zy_findNext_14_34 15 (.iaload) 1 16 := ⟨by decide +kernel, rfl⟩
theorem zd_14_34_16 : zz_D zy_findNext_14_34 16 (.aload_n 0) 1 17 := ⟨by decide +kernel, rfl⟩
theorem zd_14_34_17 : zz_D zy_findNext_14_34 17 (.getfield 272) 3 20 := ⟨by decide +kernel, rfl⟩
theorem zf_Md_272 : mm_Fl "TensorForgeModel" 272 11 19 .int false := ⟨R_Md, F_Md, 69, t_Md, rfl, i_Md, by decide, mm_tb_1 1630 (by decide +kernel) rfl, rfl, t_Md_ok, n_Md, rfl, by decide +kernel⟩
theorem zd_14_34_20 : zz_B zy_findNext_14_34 20 (Instr.if_icmp .ge) 51 23 := ⟨31, by decide +kernel, rfl, rfl⟩
theorem zd_14_34_51 : zz_D zy_findNext_14_34 51 (.return_) 1 52 := ⟨by decide +kernel, rfl⟩
theorem zd_14_34_23 : zz_D zy_findNext_14_34 23 (.aload_n 0) 1 24 := ⟨by decide +kernel, rfl⟩
theorem zd_14_34_24 : zz_D zy_findNext_14_34 24 (.getfield 54) 3 27 := ⟨by decide +kernel, rfl⟩
theorem zd_14_34_27 : zz_D zy_findNext_14_34 27 (.aload_n 0) 1 28 := ⟨by decide +kernel, rfl⟩
theorem zd_14_34_28 : zz_D zy_findNext_14_34 28 (.getfield 73) 3 31 := ⟨by decide +kernel, rfl⟩
theorem zd_14_34_31 : zz_D zy_findNext_14_34 31 (.iload_n 1) 1 32 := ⟨by decide +kernel, rfl⟩
theorem zd_14_34_32 : zz_D zy_findNext_14_34 32 (.iaload) 1 33 := ⟨by decide +kernel, rfl⟩
theorem zd_14_34_33 : zz_D zy_findNext_14_34 33 (.iaload) 1 34 := ⟨by decide +kernel, rfl⟩
theorem zd_14_34_34 : zz_D zy_findNext_14_34 34 (.iload_n 1) 1 35 := ⟨by decide +kernel, rfl⟩
theorem zd_14_34_35 : zz_B zy_findNext_14_34 35 (Instr.if_icmp .eq) 51 38 := ⟨16, by decide +kernel, rfl, rfl⟩
theorem zd_14_34_38 : zz_D zy_findNext_14_34 38 (.aload_n 0) 1 39 := ⟨by decide +kernel, rfl⟩
theorem zd_14_34_39 : zz_D zy_findNext_14_34 39 (.getfield 73) 3 42 := ⟨by decide +kernel, rfl⟩
theorem zd_14_34_42 : zz_D zy_findNext_14_34 42 (.iload_n 1) 1 43 := ⟨by decide +kernel, rfl⟩
theorem zd_14_34_43 : zz_D zy_findNext_14_34 43 (.dup2) 1 44 := ⟨by decide +kernel, rfl⟩
theorem zd_14_34_44 : zz_D zy_findNext_14_34 44 (.iaload) 1 45 := ⟨by decide +kernel, rfl⟩
theorem zd_14_34_45 : zz_D zy_findNext_14_34 45 (.iconst 1) 1 46 := ⟨by decide +kernel, rfl⟩
theorem zd_14_34_46 : zz_D zy_findNext_14_34 46 (.iadd) 1 47 := ⟨by decide +kernel, rfl⟩
theorem zd_14_34_47 : zz_D zy_findNext_14_34 47 (.iastore) 1 48 := ⟨by decide +kernel, rfl⟩
theorem zd_14_34_48 : zz_B zy_findNext_14_34 48 Instr.goto 10 51 := ⟨(-38), by decide +kernel, rfl, rfl⟩
-- TensorForgeModel findNext (I)V
abbrev zr_findNext_14_34 : Room := { frames := 0, cells := 0, slots := 0, locals := 0 }
def zp_findNext_14_34 (p0 : Int) (S0 : zz_S) : zz_S → Prop := fun S => zz_G S ∧ zz_fr [] [1098] (fun _ _ => False) S0 S ∧ (S 1098 p0.toNat > S0 1098 p0.toNat)
theorem zb_findNext_14_34_10 {g : mm_G} {l : Launch} (p0 : Int) (S0 : zz_S) (n : Nat) (hn : zz_end ≤ n) (G_S0 : zz_G S0) (hp0 : 0 ≤ p0 ∧ p0 ≤ 2) (hq : S0 1098 p0.toNat ≤ 600)  (S : zz_S) (G_S : zz_G S) (F_S : zz_fr [] [1098] (fun _ _ => False) S0 S) (i10_0 : S 1098 p0.toNat > S0 1098 p0.toNat) (R : Nat) (hR : (601 - S 1098 p0.toNat).toNat = R) (k10 : ∀  (S : zz_S), zz_G S → zz_fr [] [1098] (fun _ _ => False) S0 S → (S 1098 p0.toNat > S0 1098 p0.toNat) → (601 - S 1098 p0.toNat).toNat < R → zz_E g l zy_findNext_14_34 zr_findNext_14_34 (zz_QV n (zp_findNext_14_34 p0 S0)) S n 10 [some (.ref 1079), some (zi p0)] [] 0 0) : zz_E g l zy_findNext_14_34 zr_findNext_14_34 (zz_QV n (zp_findNext_14_34 p0 S0)) S n 10 [some (.ref 1079), some (zi p0)] [] 0 0 := by
  refine zz_aload_n (x := 1079) rfl zd_14_34_10 ?_
  refine zz_getr (kd := 0) (z := 1098) zd_14_34_11 zf_Md_73 zT_1079 rfl (zz_ltn hn rfl) (zz_G.eq G_S 1079 26 1098 rfl rfl) (by decide) 1098 rfl ?_
  refine zz_iload_n (x := p0) rfl zd_14_34_14 ?_
  have g4 := zz_G.r G_S 1098 p0.toNat (-1) 601 rfl rfl
  refine zz_iald (z := S 1098 p0.toNat) zd_14_34_15 zT_1098 rfl (zz_ltn hn rfl) (by decide) (by omega) rfl ?_
  refine zz_aload_n (x := 1079) rfl zd_14_34_16 ?_
  have g5 := zz_G.r G_S0 1079 19 (-1) 600 rfl rfl
  refine zz_geti (z := S0 1079 19) zd_14_34_17 zf_Md_272 zT_1079 rfl (zz_ltn hn rfl) (zz_rc F_S rfl rfl (fun h => h) rfl) ?_
  refine zz_icmp_ge (by omega) (by omega) zd_14_34_20 (fun c6 => ?_) (fun c6 => ?_)
  · exact zz_vret zd_14_34_51 rfl (Nat.zero_le _) (Nat.zero_le _) ⟨_, rfl, G_S, F_S, by omega⟩
  · refine zz_aload_n (x := 1079) rfl zd_14_34_23 ?_
    refine zz_getr (kd := 0) (z := 1092) zd_14_34_24 zf_Md_54 zT_1079 rfl (zz_ltn hn rfl) (zz_G.eq G_S 1079 20 1092 rfl rfl) (by decide) 1092 rfl ?_
    refine zz_aload_n (x := 1079) rfl zd_14_34_27 ?_
    refine zz_getr (kd := 0) (z := 1098) zd_14_34_28 zf_Md_73 zT_1079 rfl (zz_ltn hn rfl) (zz_G.eq G_S 1079 26 1098 rfl rfl) (by decide) 1098 rfl ?_
    refine zz_iload_n (x := p0) rfl zd_14_34_31 ?_
    refine zz_iald (z := S 1098 p0.toNat) zd_14_34_32 zT_1098 rfl (zz_ltn hn rfl) (by decide) (by omega) rfl ?_
    have g7 := zz_G.r G_S 1092 ((S 1098 p0.toNat).toNat) (-2147483648) 2147483647 rfl rfl
    refine zz_iald (z := S 1092 ((S 1098 p0.toNat).toNat)) zd_14_34_33 zT_1092 rfl (zz_ltn hn rfl) (by decide) (by omega) rfl ?_
    refine zz_iload_n (x := p0) rfl zd_14_34_34 ?_
    refine zz_icmp_eq (by omega) (by omega) zd_14_34_35 (fun c8 => ?_) (fun c8 => ?_)
    · exact zz_vret zd_14_34_51 rfl (Nat.zero_le _) (Nat.zero_le _) ⟨_, rfl, G_S, F_S, by omega⟩
    · refine zz_aload_n (x := 1079) rfl zd_14_34_38 ?_
      refine zz_getr (kd := 0) (z := 1098) zd_14_34_39 zf_Md_73 zT_1079 rfl (zz_ltn hn rfl) (zz_G.eq G_S 1079 26 1098 rfl rfl) (by decide) 1098 rfl ?_
      refine zz_iload_n (x := p0) rfl zd_14_34_42 ?_
      refine zz_dup2_11 rfl rfl zd_14_34_43 ?_
      refine zz_iald (z := S 1098 p0.toNat) zd_14_34_44 zT_1098 rfl (zz_ltn hn rfl) (by decide) (by omega) rfl ?_
      refine zz_iconst zd_14_34_45 ?_
      refine zz_iadd zd_14_34_46 ?_
      refine zz_iast zd_14_34_47 zT_1098 rfl (zz_ltn hn rfl) (by decide) (by omega) (fun S9 qS9 => ?_)
      have G_S9 := zz_G.put G_S qS9 (-1) 601 rfl (by omega)
      have F_S9 := zz_fr.putc F_S qS9 rfl
      refine zz_goto zd_14_34_48 ?_
      have e10 : S9 1098 p0.toNat = (S 1098 p0.toNat) + 1 := (zz_rs qS9)
      exact k10 S9 G_S9 F_S9 (by omega) (by omega)
theorem zi_findNext_14_34 {g : mm_G} {l : Launch} (p0 : Int) (S0 : zz_S) (n : Nat) (hn : zz_end ≤ n) (G_S0 : zz_G S0) (hp0 : 0 ≤ p0 ∧ p0 ≤ 2) (hq : S0 1098 p0.toNat ≤ 600) : ∀ N : Nat, (∀  (S : zz_S), zz_G S → zz_fr [] [1098] (fun _ _ => False) S0 S → (S 1098 p0.toNat > S0 1098 p0.toNat) → (601 - S 1098 p0.toNat).toNat < N → zz_E g l zy_findNext_14_34 zr_findNext_14_34 (zz_QV n (zp_findNext_14_34 p0 S0)) S n 10 [some (.ref 1079), some (zi p0)] [] 0 0) := by
  intro N
  induction N with
  | zero => exact fun  S _ _ _ h => absurd h (Nat.not_lt_zero _)
  | succ N ih =>
    exact fun  S a b j0 hR => zb_findNext_14_34_10 p0 S0 n hn G_S0 hp0 hq  S a b j0 _ rfl (fun  S a b j0 h => ih  S a b j0 (Nat.lt_of_lt_of_le h (Nat.le_of_lt_succ hR)))
theorem zc_findNext_14_34 {g : mm_G} {l : Launch} (p0 : Int) (S0 : zz_S) (n : Nat) (hn : zz_end ≤ n) (G_S0 : zz_G S0) (hp0 : 0 ≤ p0 ∧ p0 ≤ 2) (hq : S0 1098 p0.toNat ≤ 600) : mm_Met g l zy_findNext_14_34 zr_findNext_14_34 [.ref 1079, zi p0] (zz_M S0 n) n (zz_QV n (zp_findNext_14_34 p0 S0)) := by
  refine zz_enter (by decide) (Nat.le_of_ble_eq_true rfl) (zz_less (ls1 := [some (.ref 1079), some (zi p0)]) ⟨rfl, ⟨rfl, trivial⟩⟩ ?_)
  have F_S0 : zz_fr [] [1098] (fun _ _ => False) S0 S0 := zz_fr.refl
  have k10 : ∀  (S : zz_S), zz_G S → zz_fr [] [1098] (fun _ _ => False) S0 S → (S 1098 p0.toNat > S0 1098 p0.toNat) → zz_E g l zy_findNext_14_34 zr_findNext_14_34 (zz_QV n (zp_findNext_14_34 p0 S0)) S n 10 [some (.ref 1079), some (zi p0)] [] 0 0 := fun  S a b j0 => (zi_findNext_14_34 (g := g) (l := l) p0 S0 n hn G_S0 hp0 hq _)  S a b j0 (Nat.lt_succ_self _)
  refine zz_aload_n (x := 1079) rfl zd_14_34_0 ?_
  refine zz_getr (kd := 0) (z := 1098) zd_14_34_1 zf_Md_73 zT_1079 rfl (zz_ltn hn rfl) (zz_G.eq G_S0 1079 26 1098 rfl rfl) (by decide) 1098 rfl ?_
  refine zz_iload_n (x := p0) rfl zd_14_34_4 ?_
  refine zz_dup2_11 rfl rfl zd_14_34_5 ?_
  have g1 := zz_G.r G_S0 1098 p0.toNat (-1) 601 rfl rfl
  refine zz_iald (z := S0 1098 p0.toNat) zd_14_34_6 zT_1098 rfl (zz_ltn hn rfl) (by decide) (by omega) rfl ?_
  refine zz_iconst zd_14_34_7 ?_
  refine zz_iadd zd_14_34_8 ?_
  refine zz_iast zd_14_34_9 zT_1098 rfl (zz_ltn hn rfl) (by decide) (by omega) (fun S2 qS2 => ?_)
  have G_S2 := zz_G.put G_S0 qS2 (-1) 601 rfl (by omega)
  have F_S2 := zz_fr.putc F_S0 qS2 rfl
  have e3 : S2 1098 p0.toNat = (S0 1098 p0.toNat) + 1 := (zz_rs qS2)
  exact k10 S2 G_S2 F_S2 (by omega)
end
