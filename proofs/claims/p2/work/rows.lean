section
-- ===== PART A: goes FIRST, ahead of the names: the tables' words, and 'selects' of the private methods out of them =====
/-- a private method of a class that the tables say can be made, by its rows of tables_1 -/
def lw_okq (q : MethodName × Nat) : Prop := (q.1.cls ≠ "java/lang/invoke/MethodHandle" ∧ q.1.cls ≠ "java/lang/invoke/VarHandle") ∧ Cond.instantiable q.1.cls q.2 ∈ tables_1 ∧ Cond.privateMethod q.1 ∈ tables_1 ∧ Cond.instanceMethod q.1 ∈ tables_1
theorem lw_p0 : lw_okq (⟨"TensorForge$Machine", "shapeFits", "(J)Z"⟩, 14) := ⟨⟨by decide +kernel, by decide +kernel⟩, List.mem_of_getElem? (i := 155) (by decide +kernel), List.mem_of_getElem? (i := 508) (by decide +kernel), List.mem_of_getElem? (i := 509) (by decide +kernel)⟩
theorem lw_p1 : lw_okq (⟨"TensorForge$Machine", "numberFits", "(J)Z"⟩, 14) := ⟨⟨by decide +kernel, by decide +kernel⟩, List.mem_of_getElem? (i := 155) (by decide +kernel), List.mem_of_getElem? (i := 513) (by decide +kernel), List.mem_of_getElem? (i := 514) (by decide +kernel)⟩
theorem lw_p2 : lw_okq (⟨"TensorForge$Reaches", "forget", "()V"⟩, 4) := ⟨⟨by decide +kernel, by decide +kernel⟩, List.mem_of_getElem? (i := 163) (by decide +kernel), List.mem_of_getElem? (i := 528) (by decide +kernel), List.mem_of_getElem? (i := 529) (by decide +kernel)⟩
theorem lw_p3 : lw_okq (⟨"TensorForge$Reaches", "reads", "(III)V"⟩, 4) := ⟨⟨by decide +kernel, by decide +kernel⟩, List.mem_of_getElem? (i := 163) (by decide +kernel), List.mem_of_getElem? (i := 536) (by decide +kernel), List.mem_of_getElem? (i := 537) (by decide +kernel)⟩
theorem lw_p4 : lw_okq (⟨"TensorForge$Reaches", "writes", "(III)V"⟩, 4) := ⟨⟨by decide +kernel, by decide +kernel⟩, List.mem_of_getElem? (i := 163) (by decide +kernel), List.mem_of_getElem? (i := 540) (by decide +kernel), List.mem_of_getElem? (i := 541) (by decide +kernel)⟩
theorem lw_p5 : lw_okq (⟨"TensorForge$Reaches", "takeWork", "(JI)V"⟩, 4) := ⟨⟨by decide +kernel, by decide +kernel⟩, List.mem_of_getElem? (i := 163) (by decide +kernel), List.mem_of_getElem? (i := 544) (by decide +kernel), List.mem_of_getElem? (i := 545) (by decide +kernel)⟩
theorem lw_p6 : lw_okq (⟨"TensorForge$Reaches", "workOnSums", "(IIZ)V"⟩, 4) := ⟨⟨by decide +kernel, by decide +kernel⟩, List.mem_of_getElem? (i := 163) (by decide +kernel), List.mem_of_getElem? (i := 548) (by decide +kernel), List.mem_of_getElem? (i := 549) (by decide +kernel)⟩
theorem lw_p7 : lw_okq (⟨"TensorForge$Assembler", "readInstruction", "()Z"⟩, 4) := ⟨⟨by decide +kernel, by decide +kernel⟩, List.mem_of_getElem? (i := 315) (by decide +kernel), List.mem_of_getElem? (i := 574) (by decide +kernel), List.mem_of_getElem? (i := 575) (by decide +kernel)⟩
theorem lw_p8 : lw_okq (⟨"TensorForge$Assembler", "kindTold", "()I"⟩, 4) := ⟨⟨by decide +kernel, by decide +kernel⟩, List.mem_of_getElem? (i := 315) (by decide +kernel), List.mem_of_getElem? (i := 578) (by decide +kernel), List.mem_of_getElem? (i := 579) (by decide +kernel)⟩
theorem lw_p9 : lw_okq (⟨"TensorForge$Assembler", "readPart", "()Z"⟩, 4) := ⟨⟨by decide +kernel, by decide +kernel⟩, List.mem_of_getElem? (i := 315) (by decide +kernel), List.mem_of_getElem? (i := 650) (by decide +kernel), List.mem_of_getElem? (i := 651) (by decide +kernel)⟩
theorem lw_p10 : lw_okq (⟨"TensorForge$Assembler", "readNumber", "(I)Z"⟩, 4) := ⟨⟨by decide +kernel, by decide +kernel⟩, List.mem_of_getElem? (i := 315) (by decide +kernel), List.mem_of_getElem? (i := 655) (by decide +kernel), List.mem_of_getElem? (i := 656) (by decide +kernel)⟩
theorem lw_p11 : lw_okq (⟨"TensorForge$Assembler", "setOnce", "(II)Z"⟩, 4) := ⟨⟨by decide +kernel, by decide +kernel⟩, List.mem_of_getElem? (i := 315) (by decide +kernel), List.mem_of_getElem? (i := 667) (by decide +kernel), List.mem_of_getElem? (i := 668) (by decide +kernel)⟩
theorem lw_p12 : lw_okq (⟨"TensorForge$Assembler", "readNeighbour", "(II)Z"⟩, 4) := ⟨⟨by decide +kernel, by decide +kernel⟩, List.mem_of_getElem? (i := 315) (by decide +kernel), List.mem_of_getElem? (i := 683) (by decide +kernel), List.mem_of_getElem? (i := 684) (by decide +kernel)⟩
theorem lw_p13 : lw_okq (⟨"TensorForge", "takeSpareWords", "(I)V"⟩, 12) := ⟨⟨by decide +kernel, by decide +kernel⟩, List.mem_of_getElem? (i := 29) (by decide +kernel), List.mem_of_getElem? (i := 690) (by decide +kernel), List.mem_of_getElem? (i := 691) (by decide +kernel)⟩
theorem lw_p14 : lw_okq (⟨"TensorForge$Run", "prepare", "([JI)V"⟩, 10) := ⟨⟨by decide +kernel, by decide +kernel⟩, List.mem_of_getElem? (i := 231) (by decide +kernel), List.mem_of_getElem? (i := 702) (by decide +kernel), List.mem_of_getElem? (i := 703) (by decide +kernel)⟩
theorem lw_p15 : lw_okq (⟨"TensorForge$Run", "nextOf", "(II)I"⟩, 10) := ⟨⟨by decide +kernel, by decide +kernel⟩, List.mem_of_getElem? (i := 231) (by decide +kernel), List.mem_of_getElem? (i := 716) (by decide +kernel), List.mem_of_getElem? (i := 717) (by decide +kernel)⟩
def lw_privs_1 : List (MethodName × Nat) := [(⟨"TensorForge$Machine", "shapeFits", "(J)Z"⟩, 14), (⟨"TensorForge$Machine", "numberFits", "(J)Z"⟩, 14), (⟨"TensorForge$Reaches", "forget", "()V"⟩, 4), (⟨"TensorForge$Reaches", "reads", "(III)V"⟩, 4), (⟨"TensorForge$Reaches", "writes", "(III)V"⟩, 4), (⟨"TensorForge$Reaches", "takeWork", "(JI)V"⟩, 4), (⟨"TensorForge$Reaches", "workOnSums", "(IIZ)V"⟩, 4), (⟨"TensorForge$Assembler", "readInstruction", "()Z"⟩, 4), (⟨"TensorForge$Assembler", "kindTold", "()I"⟩, 4), (⟨"TensorForge$Assembler", "readPart", "()Z"⟩, 4), (⟨"TensorForge$Assembler", "readNumber", "(I)Z"⟩, 4), (⟨"TensorForge$Assembler", "setOnce", "(II)Z"⟩, 4), (⟨"TensorForge$Assembler", "readNeighbour", "(II)Z"⟩, 4), (⟨"TensorForge", "takeSpareWords", "(I)V"⟩, 12), (⟨"TensorForge$Run", "prepare", "([JI)V"⟩, 10), (⟨"TensorForge$Run", "nextOf", "(II)I"⟩, 10)]
theorem lw_r1 : ∀ q ∈ lw_privs_1, lw_okq q := List.forall_mem_cons.mpr ⟨lw_p0, List.forall_mem_cons.mpr ⟨lw_p1, List.forall_mem_cons.mpr ⟨lw_p2, List.forall_mem_cons.mpr ⟨lw_p3, List.forall_mem_cons.mpr ⟨lw_p4, List.forall_mem_cons.mpr ⟨lw_p5, List.forall_mem_cons.mpr ⟨lw_p6, List.forall_mem_cons.mpr ⟨lw_p7, List.forall_mem_cons.mpr ⟨lw_p8, List.forall_mem_cons.mpr ⟨lw_p9, List.forall_mem_cons.mpr ⟨lw_p10, List.forall_mem_cons.mpr ⟨lw_p11, List.forall_mem_cons.mpr ⟨lw_p12, List.forall_mem_cons.mpr ⟨lw_p13, List.forall_mem_cons.mpr ⟨lw_p14, List.forall_mem_cons.mpr ⟨lw_p15, fun _ h => absurd h List.not_mem_nil⟩⟩⟩⟩⟩⟩⟩⟩⟩⟩⟩⟩⟩⟩⟩⟩
theorem lw_p16 : lw_okq (⟨"TensorForge$Run", "firstForbidden", "()I"⟩, 10) := ⟨⟨by decide +kernel, by decide +kernel⟩, List.mem_of_getElem? (i := 231) (by decide +kernel), List.mem_of_getElem? (i := 721) (by decide +kernel), List.mem_of_getElem? (i := 722) (by decide +kernel)⟩
theorem lw_p17 : lw_okq (⟨"TensorForge$Run", "tell", "(III)V"⟩, 10) := ⟨⟨by decide +kernel, by decide +kernel⟩, List.mem_of_getElem? (i := 231) (by decide +kernel), List.mem_of_getElem? (i := 726) (by decide +kernel), List.mem_of_getElem? (i := 727) (by decide +kernel)⟩
theorem lw_p18 : lw_okq (⟨"TensorForge$Run", "endUpTo", "(I)V"⟩, 10) := ⟨⟨by decide +kernel, by decide +kernel⟩, List.mem_of_getElem? (i := 231) (by decide +kernel), List.mem_of_getElem? (i := 730) (by decide +kernel), List.mem_of_getElem? (i := 731) (by decide +kernel)⟩
theorem lw_p19 : lw_okq (⟨"TensorForge$Run", "pushTokens", "(IJ)V"⟩, 10) := ⟨⟨by decide +kernel, by decide +kernel⟩, List.mem_of_getElem? (i := 231) (by decide +kernel), List.mem_of_getElem? (i := 734) (by decide +kernel), List.mem_of_getElem? (i := 735) (by decide +kernel)⟩
theorem lw_p20 : lw_okq (⟨"TensorForge$Run", "addTokens", "(II)V"⟩, 10) := ⟨⟨by decide +kernel, by decide +kernel⟩, List.mem_of_getElem? (i := 231) (by decide +kernel), List.mem_of_getElem? (i := 742) (by decide +kernel), List.mem_of_getElem? (i := 743) (by decide +kernel)⟩
theorem lw_p21 : lw_okq (⟨"TensorForge$Run", "beginAt", "(I)I"⟩, 10) := ⟨⟨by decide +kernel, by decide +kernel⟩, List.mem_of_getElem? (i := 231) (by decide +kernel), List.mem_of_getElem? (i := 749) (by decide +kernel), List.mem_of_getElem? (i := 750) (by decide +kernel)⟩
theorem lw_p22 : lw_okq (⟨"TensorForge$Run", "hasTokens", "(IJ)Z"⟩, 10) := ⟨⟨by decide +kernel, by decide +kernel⟩, List.mem_of_getElem? (i := 231) (by decide +kernel), List.mem_of_getElem? (i := 753) (by decide +kernel), List.mem_of_getElem? (i := 754) (by decide +kernel)⟩
theorem lw_p23 : lw_okq (⟨"TensorForge$Run", "tokens", "(I)I"⟩, 10) := ⟨⟨by decide +kernel, by decide +kernel⟩, List.mem_of_getElem? (i := 231) (by decide +kernel), List.mem_of_getElem? (i := 761) (by decide +kernel), List.mem_of_getElem? (i := 762) (by decide +kernel)⟩
theorem lw_p24 : lw_okq (⟨"TensorForge$Run", "races", "()Z"⟩, 10) := ⟨⟨by decide +kernel, by decide +kernel⟩, List.mem_of_getElem? (i := 231) (by decide +kernel), List.mem_of_getElem? (i := 769) (by decide +kernel), List.mem_of_getElem? (i := 770) (by decide +kernel)⟩
theorem lw_p25 : lw_okq (⟨"TensorForge$Run", "begin", "(III)V"⟩, 10) := ⟨⟨by decide +kernel, by decide +kernel⟩, List.mem_of_getElem? (i := 231) (by decide +kernel), List.mem_of_getElem? (i := 780) (by decide +kernel), List.mem_of_getElem? (i := 781) (by decide +kernel)⟩
theorem lw_p26 : lw_okq (⟨"TensorForge$Run", "popTokens", "(IJ)V"⟩, 10) := ⟨⟨by decide +kernel, by decide +kernel⟩, List.mem_of_getElem? (i := 231) (by decide +kernel), List.mem_of_getElem? (i := 787) (by decide +kernel), List.mem_of_getElem? (i := 788) (by decide +kernel)⟩
theorem lw_p27 : lw_okq (⟨"TensorForge$Machine", "decode", "(J)V"⟩, 14) := ⟨⟨by decide +kernel, by decide +kernel⟩, List.mem_of_getElem? (i := 155) (by decide +kernel), List.mem_of_getElem? (i := 795) (by decide +kernel), List.mem_of_getElem? (i := 796) (by decide +kernel)⟩
theorem lw_p28 : lw_okq (⟨"TensorForge$Machine", "loadBytes", "([B)V"⟩, 14) := ⟨⟨by decide +kernel, by decide +kernel⟩, List.mem_of_getElem? (i := 155) (by decide +kernel), List.mem_of_getElem? (i := 799) (by decide +kernel), List.mem_of_getElem? (i := 800) (by decide +kernel)⟩
theorem lw_p29 : lw_okq (⟨"TensorForge$Machine", "clearCells", "()V"⟩, 14) := ⟨⟨by decide +kernel, by decide +kernel⟩, List.mem_of_getElem? (i := 155) (by decide +kernel), List.mem_of_getElem? (i := 803) (by decide +kernel), List.mem_of_getElem? (i := 804) (by decide +kernel)⟩
theorem lw_p30 : lw_okq (⟨"TensorForge$Machine", "loadSums", "()V"⟩, 14) := ⟨⟨by decide +kernel, by decide +kernel⟩, List.mem_of_getElem? (i := 155) (by decide +kernel), List.mem_of_getElem? (i := 807) (by decide +kernel), List.mem_of_getElem? (i := 808) (by decide +kernel)⟩
theorem lw_p31 : lw_okq (⟨"TensorForge$Machine", "multiply", "()V"⟩, 14) := ⟨⟨by decide +kernel, by decide +kernel⟩, List.mem_of_getElem? (i := 155) (by decide +kernel), List.mem_of_getElem? (i := 814) (by decide +kernel), List.mem_of_getElem? (i := 815) (by decide +kernel)⟩
def lw_privs_2 : List (MethodName × Nat) := [(⟨"TensorForge$Run", "firstForbidden", "()I"⟩, 10), (⟨"TensorForge$Run", "tell", "(III)V"⟩, 10), (⟨"TensorForge$Run", "endUpTo", "(I)V"⟩, 10), (⟨"TensorForge$Run", "pushTokens", "(IJ)V"⟩, 10), (⟨"TensorForge$Run", "addTokens", "(II)V"⟩, 10), (⟨"TensorForge$Run", "beginAt", "(I)I"⟩, 10), (⟨"TensorForge$Run", "hasTokens", "(IJ)Z"⟩, 10), (⟨"TensorForge$Run", "tokens", "(I)I"⟩, 10), (⟨"TensorForge$Run", "races", "()Z"⟩, 10), (⟨"TensorForge$Run", "begin", "(III)V"⟩, 10), (⟨"TensorForge$Run", "popTokens", "(IJ)V"⟩, 10), (⟨"TensorForge$Machine", "decode", "(J)V"⟩, 14), (⟨"TensorForge$Machine", "loadBytes", "([B)V"⟩, 14), (⟨"TensorForge$Machine", "clearCells", "()V"⟩, 14), (⟨"TensorForge$Machine", "loadSums", "()V"⟩, 14), (⟨"TensorForge$Machine", "multiply", "()V"⟩, 14)]
theorem lw_r2 : ∀ q ∈ lw_privs_2, lw_okq q := List.forall_mem_cons.mpr ⟨lw_p16, List.forall_mem_cons.mpr ⟨lw_p17, List.forall_mem_cons.mpr ⟨lw_p18, List.forall_mem_cons.mpr ⟨lw_p19, List.forall_mem_cons.mpr ⟨lw_p20, List.forall_mem_cons.mpr ⟨lw_p21, List.forall_mem_cons.mpr ⟨lw_p22, List.forall_mem_cons.mpr ⟨lw_p23, List.forall_mem_cons.mpr ⟨lw_p24, List.forall_mem_cons.mpr ⟨lw_p25, List.forall_mem_cons.mpr ⟨lw_p26, List.forall_mem_cons.mpr ⟨lw_p27, List.forall_mem_cons.mpr ⟨lw_p28, List.forall_mem_cons.mpr ⟨lw_p29, List.forall_mem_cons.mpr ⟨lw_p30, List.forall_mem_cons.mpr ⟨lw_p31, fun _ h => absurd h List.not_mem_nil⟩⟩⟩⟩⟩⟩⟩⟩⟩⟩⟩⟩⟩⟩⟩⟩
theorem lw_p32 : lw_okq (⟨"TensorForge$Machine", "combine", "()V"⟩, 14) := ⟨⟨by decide +kernel, by decide +kernel⟩, List.mem_of_getElem? (i := 155) (by decide +kernel), List.mem_of_getElem? (i := 818) (by decide +kernel), List.mem_of_getElem? (i := 819) (by decide +kernel)⟩
theorem lw_p33 : lw_okq (⟨"TensorForge$Machine", "narrow", "()V"⟩, 14) := ⟨⟨by decide +kernel, by decide +kernel⟩, List.mem_of_getElem? (i := 155) (by decide +kernel), List.mem_of_getElem? (i := 823) (by decide +kernel), List.mem_of_getElem? (i := 824) (by decide +kernel)⟩
theorem lw_p34 : lw_okq (⟨"TensorForge$Machine", "store", "()V"⟩, 14) := ⟨⟨by decide +kernel, by decide +kernel⟩, List.mem_of_getElem? (i := 155) (by decide +kernel), List.mem_of_getElem? (i := 838) (by decide +kernel), List.mem_of_getElem? (i := 839) (by decide +kernel)⟩
theorem lw_p35 : lw_okq (⟨"TensorForge$Run", "soonestEnd", "()I"⟩, 10) := ⟨⟨by decide +kernel, by decide +kernel⟩, List.mem_of_getElem? (i := 231) (by decide +kernel), List.mem_of_getElem? (i := 842) (by decide +kernel), List.mem_of_getElem? (i := 843) (by decide +kernel)⟩
theorem lw_p36 : lw_okq (⟨"TensorForge$Run", "leastNext", "()I"⟩, 10) := ⟨⟨by decide +kernel, by decide +kernel⟩, List.mem_of_getElem? (i := 231) (by decide +kernel), List.mem_of_getElem? (i := 846) (by decide +kernel), List.mem_of_getElem? (i := 847) (by decide +kernel)⟩
theorem lw_p37 : lw_okq (⟨"TensorForge$Layer", "sumOf", "([BLTensorForge$Layer;LTensorForge$Layer;III)I"⟩, 15) := ⟨⟨by decide +kernel, by decide +kernel⟩, List.mem_of_getElem? (i := 44) (by decide +kernel), List.mem_of_getElem? (i := 871) (by decide +kernel), List.mem_of_getElem? (i := 872) (by decide +kernel)⟩
theorem lw_p38 : lw_okq (⟨"TensorForge$Layer", "convolved", "([BLTensorForge$Layer;III)I"⟩, 15) := ⟨⟨by decide +kernel, by decide +kernel⟩, List.mem_of_getElem? (i := 44) (by decide +kernel), List.mem_of_getElem? (i := 875) (by decide +kernel), List.mem_of_getElem? (i := 876) (by decide +kernel)⟩
theorem lw_p39 : lw_okq (⟨"TensorForge$Layer", "product", "([BLTensorForge$Layer;II)I"⟩, 15) := ⟨⟨by decide +kernel, by decide +kernel⟩, List.mem_of_getElem? (i := 44) (by decide +kernel), List.mem_of_getElem? (i := 892) (by decide +kernel), List.mem_of_getElem? (i := 893) (by decide +kernel)⟩
theorem lw_p40 : lw_okq (⟨"TensorForge$Layer", "greatest", "([BLTensorForge$Layer;III)I"⟩, 15) := ⟨⟨by decide +kernel, by decide +kernel⟩, List.mem_of_getElem? (i := 44) (by decide +kernel), List.mem_of_getElem? (i := 899) (by decide +kernel), List.mem_of_getElem? (i := 900) (by decide +kernel)⟩
theorem lw_p41 : lw_okq (⟨"TensorForge$NetworkReader", "readLayer", "()Z"⟩, 9) := ⟨⟨by decide +kernel, by decide +kernel⟩, List.mem_of_getElem? (i := 335) (by decide +kernel), List.mem_of_getElem? (i := 921) (by decide +kernel), List.mem_of_getElem? (i := 922) (by decide +kernel)⟩
theorem lw_p42 : lw_okq (⟨"TensorForge$NetworkReader", "readTensor", "()I"⟩, 9) := ⟨⟨by decide +kernel, by decide +kernel⟩, List.mem_of_getElem? (i := 335) (by decide +kernel), List.mem_of_getElem? (i := 929) (by decide +kernel), List.mem_of_getElem? (i := 930) (by decide +kernel)⟩
theorem lw_p43 : lw_okq (⟨"TensorForge$NetworkReader", "tensorNamed", "()I"⟩, 9) := ⟨⟨by decide +kernel, by decide +kernel⟩, List.mem_of_getElem? (i := 335) (by decide +kernel), List.mem_of_getElem? (i := 933) (by decide +kernel), List.mem_of_getElem? (i := 934) (by decide +kernel)⟩
theorem lw_p44 : lw_okq (⟨"TensorForge$NetworkReader", "readOptions", "()Z"⟩, 9) := ⟨⟨by decide +kernel, by decide +kernel⟩, List.mem_of_getElem? (i := 335) (by decide +kernel), List.mem_of_getElem? (i := 946) (by decide +kernel), List.mem_of_getElem? (i := 947) (by decide +kernel)⟩
theorem lw_p45 : lw_okq (⟨"TensorForge$NetworkReader", "optionTold", "()I"⟩, 9) := ⟨⟨by decide +kernel, by decide +kernel⟩, List.mem_of_getElem? (i := 335) (by decide +kernel), List.mem_of_getElem? (i := 950) (by decide +kernel), List.mem_of_getElem? (i := 951) (by decide +kernel)⟩
theorem lw_p46 : lw_okq (⟨"TensorForge$NetworkReader", "readOption", "(I)Z"⟩, 9) := ⟨⟨by decide +kernel, by decide +kernel⟩, List.mem_of_getElem? (i := 335) (by decide +kernel), List.mem_of_getElem? (i := 962) (by decide +kernel), List.mem_of_getElem? (i := 963) (by decide +kernel)⟩
theorem lw_p47 : lw_okq (⟨"TensorForge$NetworkReader", "readName", "()Z"⟩, 9) := ⟨⟨by decide +kernel, by decide +kernel⟩, List.mem_of_getElem? (i := 335) (by decide +kernel), List.mem_of_getElem? (i := 966) (by decide +kernel), List.mem_of_getElem? (i := 967) (by decide +kernel)⟩
def lw_privs_3 : List (MethodName × Nat) := [(⟨"TensorForge$Machine", "combine", "()V"⟩, 14), (⟨"TensorForge$Machine", "narrow", "()V"⟩, 14), (⟨"TensorForge$Machine", "store", "()V"⟩, 14), (⟨"TensorForge$Run", "soonestEnd", "()I"⟩, 10), (⟨"TensorForge$Run", "leastNext", "()I"⟩, 10), (⟨"TensorForge$Layer", "sumOf", "([BLTensorForge$Layer;LTensorForge$Layer;III)I"⟩, 15), (⟨"TensorForge$Layer", "convolved", "([BLTensorForge$Layer;III)I"⟩, 15), (⟨"TensorForge$Layer", "product", "([BLTensorForge$Layer;II)I"⟩, 15), (⟨"TensorForge$Layer", "greatest", "([BLTensorForge$Layer;III)I"⟩, 15), (⟨"TensorForge$NetworkReader", "readLayer", "()Z"⟩, 9), (⟨"TensorForge$NetworkReader", "readTensor", "()I"⟩, 9), (⟨"TensorForge$NetworkReader", "tensorNamed", "()I"⟩, 9), (⟨"TensorForge$NetworkReader", "readOptions", "()Z"⟩, 9), (⟨"TensorForge$NetworkReader", "optionTold", "()I"⟩, 9), (⟨"TensorForge$NetworkReader", "readOption", "(I)Z"⟩, 9), (⟨"TensorForge$NetworkReader", "readName", "()Z"⟩, 9)]
theorem lw_r3 : ∀ q ∈ lw_privs_3, lw_okq q := List.forall_mem_cons.mpr ⟨lw_p32, List.forall_mem_cons.mpr ⟨lw_p33, List.forall_mem_cons.mpr ⟨lw_p34, List.forall_mem_cons.mpr ⟨lw_p35, List.forall_mem_cons.mpr ⟨lw_p36, List.forall_mem_cons.mpr ⟨lw_p37, List.forall_mem_cons.mpr ⟨lw_p38, List.forall_mem_cons.mpr ⟨lw_p39, List.forall_mem_cons.mpr ⟨lw_p40, List.forall_mem_cons.mpr ⟨lw_p41, List.forall_mem_cons.mpr ⟨lw_p42, List.forall_mem_cons.mpr ⟨lw_p43, List.forall_mem_cons.mpr ⟨lw_p44, List.forall_mem_cons.mpr ⟨lw_p45, List.forall_mem_cons.mpr ⟨lw_p46, List.forall_mem_cons.mpr ⟨lw_p47, fun _ h => absurd h List.not_mem_nil⟩⟩⟩⟩⟩⟩⟩⟩⟩⟩⟩⟩⟩⟩⟩⟩
theorem lw_p48 : lw_okq (⟨"TensorForge$NetworkReader", "beginsLineOrIsX", "()Z"⟩, 9) := ⟨⟨by decide +kernel, by decide +kernel⟩, List.mem_of_getElem? (i := 335) (by decide +kernel), List.mem_of_getElem? (i := 974) (by decide +kernel), List.mem_of_getElem? (i := 975) (by decide +kernel)⟩
theorem lw_p49 : lw_okq (⟨"TensorForge$NetworkReader", "readKernelFrom", "(ILTensorForge$Layer;)Z"⟩, 9) := ⟨⟨by decide +kernel, by decide +kernel⟩, List.mem_of_getElem? (i := 335) (by decide +kernel), List.mem_of_getElem? (i := 981) (by decide +kernel), List.mem_of_getElem? (i := 982) (by decide +kernel)⟩
theorem lw_p50 : lw_okq (⟨"TensorForge$Layer", "parametersSize", "(LTensorForge$Layer;)I"⟩, 15) := ⟨⟨by decide +kernel, by decide +kernel⟩, List.mem_of_getElem? (i := 44) (by decide +kernel), List.mem_of_getElem? (i := 1006) (by decide +kernel), List.mem_of_getElem? (i := 1007) (by decide +kernel)⟩
theorem lw_p51 : lw_okq (⟨"TensorForge$NetworkReader", "readInput", "()Z"⟩, 9) := ⟨⟨by decide +kernel, by decide +kernel⟩, List.mem_of_getElem? (i := 335) (by decide +kernel), List.mem_of_getElem? (i := 1019) (by decide +kernel), List.mem_of_getElem? (i := 1020) (by decide +kernel)⟩
theorem lw_p52 : lw_okq (⟨"TensorForge$NetworkReader", "keepName", "(I)V"⟩, 9) := ⟨⟨by decide +kernel, by decide +kernel⟩, List.mem_of_getElem? (i := 335) (by decide +kernel), List.mem_of_getElem? (i := 1037) (by decide +kernel), List.mem_of_getElem? (i := 1038) (by decide +kernel)⟩
theorem lw_p53 : lw_okq (⟨"java/lang/Throwable", "fillInStackTrace", "(I)Ljava/lang/Throwable;"⟩, 6) := ⟨⟨by decide +kernel, by decide +kernel⟩, List.mem_of_getElem? (i := 1088) (by decide +kernel), List.mem_of_getElem? (i := 1086) (by decide +kernel), List.mem_of_getElem? (i := 1087) (by decide +kernel)⟩
theorem lw_p54 : lw_okq (⟨"TensorForge$Line", "addToken", "(Ljava/lang/String;)V"⟩, 2) := ⟨⟨by decide +kernel, by decide +kernel⟩, List.mem_of_getElem? (i := 428) (by decide +kernel), List.mem_of_getElem? (i := 1259) (by decide +kernel), List.mem_of_getElem? (i := 1260) (by decide +kernel)⟩
theorem lw_p55 : lw_okq (⟨"TensorForge$Line", "addSign", "(C)V"⟩, 2) := ⟨⟨by decide +kernel, by decide +kernel⟩, List.mem_of_getElem? (i := 428) (by decide +kernel), List.mem_of_getElem? (i := 1263) (by decide +kernel), List.mem_of_getElem? (i := 1264) (by decide +kernel)⟩
theorem lw_p56 : lw_okq (⟨"TensorForge$Line", "addUnlessNothing", "(Ljava/lang/String;JI)V"⟩, 2) := ⟨⟨by decide +kernel, by decide +kernel⟩, List.mem_of_getElem? (i := 428) (by decide +kernel), List.mem_of_getElem? (i := 1270) (by decide +kernel), List.mem_of_getElem? (i := 1271) (by decide +kernel)⟩
theorem lw_p57 : lw_okq (⟨"TensorForge$Line", "addNumbered", "(Ljava/lang/String;I)V"⟩, 2) := ⟨⟨by decide +kernel, by decide +kernel⟩, List.mem_of_getElem? (i := 428) (by decide +kernel), List.mem_of_getElem? (i := 1275) (by decide +kernel), List.mem_of_getElem? (i := 1276) (by decide +kernel)⟩
theorem lw_p58 : lw_okq (⟨"TensorForge$Line", "addNumber", "(I)V"⟩, 2) := ⟨⟨by decide +kernel, by decide +kernel⟩, List.mem_of_getElem? (i := 428) (by decide +kernel), List.mem_of_getElem? (i := 1279) (by decide +kernel), List.mem_of_getElem? (i := 1280) (by decide +kernel)⟩
theorem lw_p59 : lw_okq (⟨"TensorForge$Line", "addPair", "(Ljava/lang/String;II)V"⟩, 2) := ⟨⟨by decide +kernel, by decide +kernel⟩, List.mem_of_getElem? (i := 428) (by decide +kernel), List.mem_of_getElem? (i := 1284) (by decide +kernel), List.mem_of_getElem? (i := 1285) (by decide +kernel)⟩
theorem lw_p60 : lw_okq (⟨"TensorForge$Line", "addIf", "(ZLjava/lang/String;)V"⟩, 2) := ⟨⟨by decide +kernel, by decide +kernel⟩, List.mem_of_getElem? (i := 428) (by decide +kernel), List.mem_of_getElem? (i := 1294) (by decide +kernel), List.mem_of_getElem? (i := 1295) (by decide +kernel)⟩
theorem lw_p61 : lw_okq (⟨"TensorForge", "needRun", "()V"⟩, 12) := ⟨⟨by decide +kernel, by decide +kernel⟩, List.mem_of_getElem? (i := 29) (by decide +kernel), List.mem_of_getElem? (i := 1321) (by decide +kernel), List.mem_of_getElem? (i := 1322) (by decide +kernel)⟩
theorem lw_p62 : lw_okq (⟨"TensorForge", "added", "()I"⟩, 12) := ⟨⟨by decide +kernel, by decide +kernel⟩, List.mem_of_getElem? (i := 29) (by decide +kernel), List.mem_of_getElem? (i := 1368) (by decide +kernel), List.mem_of_getElem? (i := 1369) (by decide +kernel)⟩
theorem lw_p63 : lw_okq (⟨"TensorForge$Compiler", "makeTile", "()V"⟩, 17) := ⟨⟨by decide +kernel, by decide +kernel⟩, List.mem_of_getElem? (i := 369) (by decide +kernel), List.mem_of_getElem? (i := 1417) (by decide +kernel), List.mem_of_getElem? (i := 1418) (by decide +kernel)⟩
def lw_privs_4 : List (MethodName × Nat) := [(⟨"TensorForge$NetworkReader", "beginsLineOrIsX", "()Z"⟩, 9), (⟨"TensorForge$NetworkReader", "readKernelFrom", "(ILTensorForge$Layer;)Z"⟩, 9), (⟨"TensorForge$Layer", "parametersSize", "(LTensorForge$Layer;)I"⟩, 15), (⟨"TensorForge$NetworkReader", "readInput", "()Z"⟩, 9), (⟨"TensorForge$NetworkReader", "keepName", "(I)V"⟩, 9), (⟨"java/lang/Throwable", "fillInStackTrace", "(I)Ljava/lang/Throwable;"⟩, 6), (⟨"TensorForge$Line", "addToken", "(Ljava/lang/String;)V"⟩, 2), (⟨"TensorForge$Line", "addSign", "(C)V"⟩, 2), (⟨"TensorForge$Line", "addUnlessNothing", "(Ljava/lang/String;JI)V"⟩, 2), (⟨"TensorForge$Line", "addNumbered", "(Ljava/lang/String;I)V"⟩, 2), (⟨"TensorForge$Line", "addNumber", "(I)V"⟩, 2), (⟨"TensorForge$Line", "addPair", "(Ljava/lang/String;II)V"⟩, 2), (⟨"TensorForge$Line", "addIf", "(ZLjava/lang/String;)V"⟩, 2), (⟨"TensorForge", "needRun", "()V"⟩, 12), (⟨"TensorForge", "added", "()I"⟩, 12), (⟨"TensorForge$Compiler", "makeTile", "()V"⟩, 17)]
theorem lw_r4 : ∀ q ∈ lw_privs_4, lw_okq q := List.forall_mem_cons.mpr ⟨lw_p48, List.forall_mem_cons.mpr ⟨lw_p49, List.forall_mem_cons.mpr ⟨lw_p50, List.forall_mem_cons.mpr ⟨lw_p51, List.forall_mem_cons.mpr ⟨lw_p52, List.forall_mem_cons.mpr ⟨lw_p53, List.forall_mem_cons.mpr ⟨lw_p54, List.forall_mem_cons.mpr ⟨lw_p55, List.forall_mem_cons.mpr ⟨lw_p56, List.forall_mem_cons.mpr ⟨lw_p57, List.forall_mem_cons.mpr ⟨lw_p58, List.forall_mem_cons.mpr ⟨lw_p59, List.forall_mem_cons.mpr ⟨lw_p60, List.forall_mem_cons.mpr ⟨lw_p61, List.forall_mem_cons.mpr ⟨lw_p62, List.forall_mem_cons.mpr ⟨lw_p63, fun _ h => absurd h List.not_mem_nil⟩⟩⟩⟩⟩⟩⟩⟩⟩⟩⟩⟩⟩⟩⟩⟩
theorem lw_p64 : lw_okq (⟨"TensorForge$Compiler", "makeGroup", "(ZZ)V"⟩, 17) := ⟨⟨by decide +kernel, by decide +kernel⟩, List.mem_of_getElem? (i := 369) (by decide +kernel), List.mem_of_getElem? (i := 1421) (by decide +kernel), List.mem_of_getElem? (i := 1422) (by decide +kernel)⟩
theorem lw_p65 : lw_okq (⟨"TensorForge$Compiler", "loadParameters", "(Z)V"⟩, 17) := ⟨⟨by decide +kernel, by decide +kernel⟩, List.mem_of_getElem? (i := 369) (by decide +kernel), List.mem_of_getElem? (i := 1425) (by decide +kernel), List.mem_of_getElem? (i := 1426) (by decide +kernel)⟩
theorem lw_p66 : lw_okq (⟨"TensorForge$Compiler", "tileHalf", "()I"⟩, 17) := ⟨⟨by decide +kernel, by decide +kernel⟩, List.mem_of_getElem? (i := 369) (by decide +kernel), List.mem_of_getElem? (i := 1432) (by decide +kernel), List.mem_of_getElem? (i := 1433) (by decide +kernel)⟩
theorem lw_p67 : lw_okq (⟨"TensorForge$Compiler", "emit", "(J)V"⟩, 17) := ⟨⟨by decide +kernel, by decide +kernel⟩, List.mem_of_getElem? (i := 369) (by decide +kernel), List.mem_of_getElem? (i := 1438) (by decide +kernel), List.mem_of_getElem? (i := 1439) (by decide +kernel)⟩
theorem lw_p68 : lw_okq (⟨"TensorForge$Compiler", "groupHalf", "()I"⟩, 17) := ⟨⟨by decide +kernel, by decide +kernel⟩, List.mem_of_getElem? (i := 369) (by decide +kernel), List.mem_of_getElem? (i := 1442) (by decide +kernel), List.mem_of_getElem? (i := 1443) (by decide +kernel)⟩
theorem lw_p69 : lw_okq (⟨"TensorForge$Compiler", "loadMet", "(I)V"⟩, 17) := ⟨⟨by decide +kernel, by decide +kernel⟩, List.mem_of_getElem? (i := 369) (by decide +kernel), List.mem_of_getElem? (i := 1447) (by decide +kernel), List.mem_of_getElem? (i := 1448) (by decide +kernel)⟩
theorem lw_p70 : lw_okq (⟨"TensorForge$Compiler", "clearPlaces", "(II)V"⟩, 17) := ⟨⟨by decide +kernel, by decide +kernel⟩, List.mem_of_getElem? (i := 369) (by decide +kernel), List.mem_of_getElem? (i := 1451) (by decide +kernel), List.mem_of_getElem? (i := 1452) (by decide +kernel)⟩
theorem lw_p71 : lw_okq (⟨"TensorForge$Compiler", "metColumn", "(I)I"⟩, 17) := ⟨⟨by decide +kernel, by decide +kernel⟩, List.mem_of_getElem? (i := 369) (by decide +kernel), List.mem_of_getElem? (i := 1455) (by decide +kernel), List.mem_of_getElem? (i := 1456) (by decide +kernel)⟩
theorem lw_p72 : lw_okq (⟨"TensorForge$Compiler", "loadPlaces", "(IIII)V"⟩, 17) := ⟨⟨by decide +kernel, by decide +kernel⟩, List.mem_of_getElem? (i := 369) (by decide +kernel), List.mem_of_getElem? (i := 1460) (by decide +kernel), List.mem_of_getElem? (i := 1461) (by decide +kernel)⟩
theorem lw_p73 : lw_okq (⟨"TensorForge$Compiler", "mark", "(II)V"⟩, 17) := ⟨⟨by decide +kernel, by decide +kernel⟩, List.mem_of_getElem? (i := 369) (by decide +kernel), List.mem_of_getElem? (i := 1464) (by decide +kernel), List.mem_of_getElem? (i := 1465) (by decide +kernel)⟩
theorem lw_p74 : lw_okq (⟨"TensorForge$Compiler", "workOf", "(Z)J"⟩, 17) := ⟨⟨by decide +kernel, by decide +kernel⟩, List.mem_of_getElem? (i := 369) (by decide +kernel), List.mem_of_getElem? (i := 1472) (by decide +kernel), List.mem_of_getElem? (i := 1473) (by decide +kernel)⟩
theorem lw_p75 : lw_okq (⟨"TensorForge$Compiler", "makeWaits", "()V"⟩, 17) := ⟨⟨by decide +kernel, by decide +kernel⟩, List.mem_of_getElem? (i := 369) (by decide +kernel), List.mem_of_getElem? (i := 1477) (by decide +kernel), List.mem_of_getElem? (i := 1478) (by decide +kernel)⟩
theorem lw_p76 : lw_okq (⟨"TensorForge$Line", "addOptions", "(LTensorForge$Layer;)V"⟩, 2) := ⟨⟨by decide +kernel, by decide +kernel⟩, List.mem_of_getElem? (i := 428) (by decide +kernel), List.mem_of_getElem? (i := 1499) (by decide +kernel), List.mem_of_getElem? (i := 1500) (by decide +kernel)⟩
theorem lw_p77 : lw_okq (⟨"TensorForge$Network", "leastSpot", "(I)I"⟩, 2) := ⟨⟨by decide +kernel, by decide +kernel⟩, List.mem_of_getElem? (i := 37) (by decide +kernel), List.mem_of_getElem? (i := 1517) (by decide +kernel), List.mem_of_getElem? (i := 1518) (by decide +kernel)⟩
theorem lw_p78 : lw_okq (⟨"TensorForge$Network", "isNeeded", "(II)Z"⟩, 2) := ⟨⟨by decide +kernel, by decide +kernel⟩, List.mem_of_getElem? (i := 37) (by decide +kernel), List.mem_of_getElem? (i := 1521) (by decide +kernel), List.mem_of_getElem? (i := 1522) (by decide +kernel)⟩
theorem lw_p79 : lw_okq (⟨"TensorForge", "needUnitAndCycle", "(II)V"⟩, 12) := ⟨⟨by decide +kernel, by decide +kernel⟩, List.mem_of_getElem? (i := 29) (by decide +kernel), List.mem_of_getElem? (i := 1542) (by decide +kernel), List.mem_of_getElem? (i := 1543) (by decide +kernel)⟩
def lw_privs_5 : List (MethodName × Nat) := [(⟨"TensorForge$Compiler", "makeGroup", "(ZZ)V"⟩, 17), (⟨"TensorForge$Compiler", "loadParameters", "(Z)V"⟩, 17), (⟨"TensorForge$Compiler", "tileHalf", "()I"⟩, 17), (⟨"TensorForge$Compiler", "emit", "(J)V"⟩, 17), (⟨"TensorForge$Compiler", "groupHalf", "()I"⟩, 17), (⟨"TensorForge$Compiler", "loadMet", "(I)V"⟩, 17), (⟨"TensorForge$Compiler", "clearPlaces", "(II)V"⟩, 17), (⟨"TensorForge$Compiler", "metColumn", "(I)I"⟩, 17), (⟨"TensorForge$Compiler", "loadPlaces", "(IIII)V"⟩, 17), (⟨"TensorForge$Compiler", "mark", "(II)V"⟩, 17), (⟨"TensorForge$Compiler", "workOf", "(Z)J"⟩, 17), (⟨"TensorForge$Compiler", "makeWaits", "()V"⟩, 17), (⟨"TensorForge$Line", "addOptions", "(LTensorForge$Layer;)V"⟩, 2), (⟨"TensorForge$Network", "leastSpot", "(I)I"⟩, 2), (⟨"TensorForge$Network", "isNeeded", "(II)Z"⟩, 2), (⟨"TensorForge", "needUnitAndCycle", "(II)V"⟩, 12)]
theorem lw_r5 : ∀ q ∈ lw_privs_5, lw_okq q := List.forall_mem_cons.mpr ⟨lw_p64, List.forall_mem_cons.mpr ⟨lw_p65, List.forall_mem_cons.mpr ⟨lw_p66, List.forall_mem_cons.mpr ⟨lw_p67, List.forall_mem_cons.mpr ⟨lw_p68, List.forall_mem_cons.mpr ⟨lw_p69, List.forall_mem_cons.mpr ⟨lw_p70, List.forall_mem_cons.mpr ⟨lw_p71, List.forall_mem_cons.mpr ⟨lw_p72, List.forall_mem_cons.mpr ⟨lw_p73, List.forall_mem_cons.mpr ⟨lw_p74, List.forall_mem_cons.mpr ⟨lw_p75, List.forall_mem_cons.mpr ⟨lw_p76, List.forall_mem_cons.mpr ⟨lw_p77, List.forall_mem_cons.mpr ⟨lw_p78, List.forall_mem_cons.mpr ⟨lw_p79, fun _ h => absurd h List.not_mem_nil⟩⟩⟩⟩⟩⟩⟩⟩⟩⟩⟩⟩⟩⟩⟩⟩
theorem lw_p80 : lw_okq (⟨"TensorForge$Run", "hadBegun", "(II)Z"⟩, 10) := ⟨⟨by decide +kernel, by decide +kernel⟩, List.mem_of_getElem? (i := 231) (by decide +kernel), List.mem_of_getElem? (i := 1551) (by decide +kernel), List.mem_of_getElem? (i := 1552) (by decide +kernel)⟩
theorem lw_p81 : lw_okq (⟨"TensorForge$Run", "hadEnded", "(II)Z"⟩, 10) := ⟨⟨by decide +kernel, by decide +kernel⟩, List.mem_of_getElem? (i := 231) (by decide +kernel), List.mem_of_getElem? (i := 1555) (by decide +kernel), List.mem_of_getElem? (i := 1556) (by decide +kernel)⟩
theorem lw_p82 : lw_okq (⟨"TensorForge$Run", "firstNotBegun", "(II)I"⟩, 10) := ⟨⟨by decide +kernel, by decide +kernel⟩, List.mem_of_getElem? (i := 231) (by decide +kernel), List.mem_of_getElem? (i := 1570) (by decide +kernel), List.mem_of_getElem? (i := 1571) (by decide +kernel)⟩
theorem lw_p83 : lw_okq (⟨"TensorForge$Run", "pushesUpTo", "(III)I"⟩, 10) := ⟨⟨by decide +kernel, by decide +kernel⟩, List.mem_of_getElem? (i := 231) (by decide +kernel), List.mem_of_getElem? (i := 1575) (by decide +kernel), List.mem_of_getElem? (i := 1576) (by decide +kernel)⟩
theorem lw_p84 : lw_okq (⟨"TensorForge$Run", "popsUpTo", "(III)I"⟩, 10) := ⟨⟨by decide +kernel, by decide +kernel⟩, List.mem_of_getElem? (i := 231) (by decide +kernel), List.mem_of_getElem? (i := 1579) (by decide +kernel), List.mem_of_getElem? (i := 1580) (by decide +kernel)⟩
theorem lw_p85 : lw_okq (⟨"TensorForgeModel", "form", "(III)V"⟩, 69) := ⟨⟨by decide +kernel, by decide +kernel⟩, List.mem_of_getElem? (i := 1583) (by decide +kernel), List.mem_of_getElem? (i := 1608) (by decide +kernel), List.mem_of_getElem? (i := 1609) (by decide +kernel)⟩
theorem lw_p86 : lw_okq (⟨"TensorForgeModel", "refuse", "(ZZZ)Z"⟩, 69) := ⟨⟨by decide +kernel, by decide +kernel⟩, List.mem_of_getElem? (i := 1583) (by decide +kernel), List.mem_of_getElem? (i := 1833) (by decide +kernel), List.mem_of_getElem? (i := 1834) (by decide +kernel)⟩
theorem lw_p87 : lw_okq (⟨"TensorForgeModel", "sizeOf", "(I)I"⟩, 69) := ⟨⟨by decide +kernel, by decide +kernel⟩, List.mem_of_getElem? (i := 1583) (by decide +kernel), List.mem_of_getElem? (i := 1837) (by decide +kernel), List.mem_of_getElem? (i := 1838) (by decide +kernel)⟩
theorem lw_p88 : lw_okq (⟨"TensorForgeModel", "isIllegal", "(J)Z"⟩, 69) := ⟨⟨by decide +kernel, by decide +kernel⟩, List.mem_of_getElem? (i := 1583) (by decide +kernel), List.mem_of_getElem? (i := 1888) (by decide +kernel), List.mem_of_getElem? (i := 1889) (by decide +kernel)⟩
theorem lw_p89 : lw_okq (⟨"TensorForgeModel", "take", "(J)V"⟩, 69) := ⟨⟨by decide +kernel, by decide +kernel⟩, List.mem_of_getElem? (i := 1583) (by decide +kernel), List.mem_of_getElem? (i := 1892) (by decide +kernel), List.mem_of_getElem? (i := 1893) (by decide +kernel)⟩
theorem lw_p90 : lw_okq (⟨"TensorForgeModel", "unit", "()I"⟩, 69) := ⟨⟨by decide +kernel, by decide +kernel⟩, List.mem_of_getElem? (i := 1583) (by decide +kernel), List.mem_of_getElem? (i := 1900) (by decide +kernel), List.mem_of_getElem? (i := 1901) (by decide +kernel)⟩
theorem lw_p91 : lw_okq (⟨"TensorForgeModel", "reaches", "()V"⟩, 69) := ⟨⟨by decide +kernel, by decide +kernel⟩, List.mem_of_getElem? (i := 1583) (by decide +kernel), List.mem_of_getElem? (i := 1904) (by decide +kernel), List.mem_of_getElem? (i := 1905) (by decide +kernel)⟩
theorem lw_p92 : lw_okq (⟨"TensorForgeModel", "reach", "([IIII)V"⟩, 69) := ⟨⟨by decide +kernel, by decide +kernel⟩, List.mem_of_getElem? (i := 1583) (by decide +kernel), List.mem_of_getElem? (i := 1908) (by decide +kernel), List.mem_of_getElem? (i := 1909) (by decide +kernel)⟩
theorem lw_p93 : lw_okq (⟨"TensorForgeModel", "rowsEnd", "(II)I"⟩, 69) := ⟨⟨by decide +kernel, by decide +kernel⟩, List.mem_of_getElem? (i := 1583) (by decide +kernel), List.mem_of_getElem? (i := 1912) (by decide +kernel), List.mem_of_getElem? (i := 1913) (by decide +kernel)⟩
theorem lw_p94 : lw_okq (⟨"TensorForgeModel", "firstIllegal", "()I"⟩, 69) := ⟨⟨by decide +kernel, by decide +kernel⟩, List.mem_of_getElem? (i := 1583) (by decide +kernel), List.mem_of_getElem? (i := 1920) (by decide +kernel), List.mem_of_getElem? (i := 1921) (by decide +kernel)⟩
theorem lw_p95 : lw_okq (⟨"TensorForgeModel", "startRun", "()V"⟩, 69) := ⟨⟨by decide +kernel, by decide +kernel⟩, List.mem_of_getElem? (i := 1583) (by decide +kernel), List.mem_of_getElem? (i := 1924) (by decide +kernel), List.mem_of_getElem? (i := 1925) (by decide +kernel)⟩
def lw_privs_6 : List (MethodName × Nat) := [(⟨"TensorForge$Run", "hadBegun", "(II)Z"⟩, 10), (⟨"TensorForge$Run", "hadEnded", "(II)Z"⟩, 10), (⟨"TensorForge$Run", "firstNotBegun", "(II)I"⟩, 10), (⟨"TensorForge$Run", "pushesUpTo", "(III)I"⟩, 10), (⟨"TensorForge$Run", "popsUpTo", "(III)I"⟩, 10), (⟨"TensorForgeModel", "form", "(III)V"⟩, 69), (⟨"TensorForgeModel", "refuse", "(ZZZ)Z"⟩, 69), (⟨"TensorForgeModel", "sizeOf", "(I)I"⟩, 69), (⟨"TensorForgeModel", "isIllegal", "(J)Z"⟩, 69), (⟨"TensorForgeModel", "take", "(J)V"⟩, 69), (⟨"TensorForgeModel", "unit", "()I"⟩, 69), (⟨"TensorForgeModel", "reaches", "()V"⟩, 69), (⟨"TensorForgeModel", "reach", "([IIII)V"⟩, 69), (⟨"TensorForgeModel", "rowsEnd", "(II)I"⟩, 69), (⟨"TensorForgeModel", "firstIllegal", "()I"⟩, 69), (⟨"TensorForgeModel", "startRun", "()V"⟩, 69)]
theorem lw_r6 : ∀ q ∈ lw_privs_6, lw_okq q := List.forall_mem_cons.mpr ⟨lw_p80, List.forall_mem_cons.mpr ⟨lw_p81, List.forall_mem_cons.mpr ⟨lw_p82, List.forall_mem_cons.mpr ⟨lw_p83, List.forall_mem_cons.mpr ⟨lw_p84, List.forall_mem_cons.mpr ⟨lw_p85, List.forall_mem_cons.mpr ⟨lw_p86, List.forall_mem_cons.mpr ⟨lw_p87, List.forall_mem_cons.mpr ⟨lw_p88, List.forall_mem_cons.mpr ⟨lw_p89, List.forall_mem_cons.mpr ⟨lw_p90, List.forall_mem_cons.mpr ⟨lw_p91, List.forall_mem_cons.mpr ⟨lw_p92, List.forall_mem_cons.mpr ⟨lw_p93, List.forall_mem_cons.mpr ⟨lw_p94, List.forall_mem_cons.mpr ⟨lw_p95, fun _ h => absurd h List.not_mem_nil⟩⟩⟩⟩⟩⟩⟩⟩⟩⟩⟩⟩⟩⟩⟩⟩
theorem lw_p96 : lw_okq (⟨"TensorForgeModel", "findNext", "(I)V"⟩, 69) := ⟨⟨by decide +kernel, by decide +kernel⟩, List.mem_of_getElem? (i := 1583) (by decide +kernel), List.mem_of_getElem? (i := 1928) (by decide +kernel), List.mem_of_getElem? (i := 1929) (by decide +kernel)⟩
theorem lw_p97 : lw_okq (⟨"TensorForgeModel", "stop", "(III)I"⟩, 69) := ⟨⟨by decide +kernel, by decide +kernel⟩, List.mem_of_getElem? (i := 1583) (by decide +kernel), List.mem_of_getElem? (i := 1932) (by decide +kernel), List.mem_of_getElem? (i := 1933) (by decide +kernel)⟩
theorem lw_p98 : lw_okq (⟨"TensorForgeModel", "cycle", "(I)I"⟩, 69) := ⟨⟨by decide +kernel, by decide +kernel⟩, List.mem_of_getElem? (i := 1583) (by decide +kernel), List.mem_of_getElem? (i := 1936) (by decide +kernel), List.mem_of_getElem? (i := 1937) (by decide +kernel)⟩
theorem lw_p99 : lw_okq (⟨"TensorForgeModel", "pushAll", "(I)V"⟩, 69) := ⟨⟨by decide +kernel, by decide +kernel⟩, List.mem_of_getElem? (i := 1583) (by decide +kernel), List.mem_of_getElem? (i := 1940) (by decide +kernel), List.mem_of_getElem? (i := 1941) (by decide +kernel)⟩
theorem lw_p100 : lw_okq (⟨"TensorForgeModel", "isBusy", "(II)Z"⟩, 69) := ⟨⟨by decide +kernel, by decide +kernel⟩, List.mem_of_getElem? (i := 1583) (by decide +kernel), List.mem_of_getElem? (i := 1947) (by decide +kernel), List.mem_of_getElem? (i := 1948) (by decide +kernel)⟩
theorem lw_p101 : lw_okq (⟨"TensorForgeModel", "hasTokens", "(I)Z"⟩, 69) := ⟨⟨by decide +kernel, by decide +kernel⟩, List.mem_of_getElem? (i := 1583) (by decide +kernel), List.mem_of_getElem? (i := 1951) (by decide +kernel), List.mem_of_getElem? (i := 1952) (by decide +kernel)⟩
theorem lw_p102 : lw_okq (⟨"TensorForgeModel", "races", "(II)Z"⟩, 69) := ⟨⟨by decide +kernel, by decide +kernel⟩, List.mem_of_getElem? (i := 1583) (by decide +kernel), List.mem_of_getElem? (i := 1958) (by decide +kernel), List.mem_of_getElem? (i := 1959) (by decide +kernel)⟩
theorem lw_p103 : lw_okq (⟨"TensorForgeModel", "beginNext", "(II)V"⟩, 69) := ⟨⟨by decide +kernel, by decide +kernel⟩, List.mem_of_getElem? (i := 1583) (by decide +kernel), List.mem_of_getElem? (i := 1965) (by decide +kernel), List.mem_of_getElem? (i := 1966) (by decide +kernel)⟩
theorem lw_p104 : lw_okq (⟨"TensorForgeModel", "cycles", "()I"⟩, 69) := ⟨⟨by decide +kernel, by decide +kernel⟩, List.mem_of_getElem? (i := 1583) (by decide +kernel), List.mem_of_getElem? (i := 1969) (by decide +kernel), List.mem_of_getElem? (i := 1970) (by decide +kernel)⟩
theorem lw_p105 : lw_okq (⟨"TensorForgeModel", "doWord", "()V"⟩, 69) := ⟨⟨by decide +kernel, by decide +kernel⟩, List.mem_of_getElem? (i := 1583) (by decide +kernel), List.mem_of_getElem? (i := 1973) (by decide +kernel), List.mem_of_getElem? (i := 1974) (by decide +kernel)⟩
theorem lw_p106 : lw_okq (⟨"TensorForgeModel", "doPlace", "(II)V"⟩, 69) := ⟨⟨by decide +kernel, by decide +kernel⟩, List.mem_of_getElem? (i := 1583) (by decide +kernel), List.mem_of_getElem? (i := 1977) (by decide +kernel), List.mem_of_getElem? (i := 1978) (by decide +kernel)⟩
theorem lw_p107 : lw_okq (⟨"TensorForgeModel", "intAt", "(I)I"⟩, 69) := ⟨⟨by decide +kernel, by decide +kernel⟩, List.mem_of_getElem? (i := 1583) (by decide +kernel), List.mem_of_getElem? (i := 1981) (by decide +kernel), List.mem_of_getElem? (i := 1982) (by decide +kernel)⟩
theorem lw_p108 : lw_okq (⟨"TensorForgeModel", "readLine", "()I"⟩, 69) := ⟨⟨by decide +kernel, by decide +kernel⟩, List.mem_of_getElem? (i := 1583) (by decide +kernel), List.mem_of_getElem? (i := 2012) (by decide +kernel), List.mem_of_getElem? (i := 2013) (by decide +kernel)⟩
theorem lw_p109 : lw_okq (⟨"TensorForgeModel", "advance", "()V"⟩, 69) := ⟨⟨by decide +kernel, by decide +kernel⟩, List.mem_of_getElem? (i := 1583) (by decide +kernel), List.mem_of_getElem? (i := 2016) (by decide +kernel), List.mem_of_getElem? (i := 2017) (by decide +kernel)⟩
theorem lw_p110 : lw_okq (⟨"TensorForgeModel", "wordAt", "(II)I"⟩, 69) := ⟨⟨by decide +kernel, by decide +kernel⟩, List.mem_of_getElem? (i := 1583) (by decide +kernel), List.mem_of_getElem? (i := 2022) (by decide +kernel), List.mem_of_getElem? (i := 2023) (by decide +kernel)⟩
theorem lw_p111 : lw_okq (⟨"TensorForgeModel", "part", "()I"⟩, 69) := ⟨⟨by decide +kernel, by decide +kernel⟩, List.mem_of_getElem? (i := 1583) (by decide +kernel), List.mem_of_getElem? (i := 2029) (by decide +kernel), List.mem_of_getElem? (i := 2030) (by decide +kernel)⟩
def lw_privs_7 : List (MethodName × Nat) := [(⟨"TensorForgeModel", "findNext", "(I)V"⟩, 69), (⟨"TensorForgeModel", "stop", "(III)I"⟩, 69), (⟨"TensorForgeModel", "cycle", "(I)I"⟩, 69), (⟨"TensorForgeModel", "pushAll", "(I)V"⟩, 69), (⟨"TensorForgeModel", "isBusy", "(II)Z"⟩, 69), (⟨"TensorForgeModel", "hasTokens", "(I)Z"⟩, 69), (⟨"TensorForgeModel", "races", "(II)Z"⟩, 69), (⟨"TensorForgeModel", "beginNext", "(II)V"⟩, 69), (⟨"TensorForgeModel", "cycles", "()I"⟩, 69), (⟨"TensorForgeModel", "doWord", "()V"⟩, 69), (⟨"TensorForgeModel", "doPlace", "(II)V"⟩, 69), (⟨"TensorForgeModel", "intAt", "(I)I"⟩, 69), (⟨"TensorForgeModel", "readLine", "()I"⟩, 69), (⟨"TensorForgeModel", "advance", "()V"⟩, 69), (⟨"TensorForgeModel", "wordAt", "(II)I"⟩, 69), (⟨"TensorForgeModel", "part", "()I"⟩, 69)]
theorem lw_r7 : ∀ q ∈ lw_privs_7, lw_okq q := List.forall_mem_cons.mpr ⟨lw_p96, List.forall_mem_cons.mpr ⟨lw_p97, List.forall_mem_cons.mpr ⟨lw_p98, List.forall_mem_cons.mpr ⟨lw_p99, List.forall_mem_cons.mpr ⟨lw_p100, List.forall_mem_cons.mpr ⟨lw_p101, List.forall_mem_cons.mpr ⟨lw_p102, List.forall_mem_cons.mpr ⟨lw_p103, List.forall_mem_cons.mpr ⟨lw_p104, List.forall_mem_cons.mpr ⟨lw_p105, List.forall_mem_cons.mpr ⟨lw_p106, List.forall_mem_cons.mpr ⟨lw_p107, List.forall_mem_cons.mpr ⟨lw_p108, List.forall_mem_cons.mpr ⟨lw_p109, List.forall_mem_cons.mpr ⟨lw_p110, List.forall_mem_cons.mpr ⟨lw_p111, fun _ h => absurd h List.not_mem_nil⟩⟩⟩⟩⟩⟩⟩⟩⟩⟩⟩⟩⟩⟩⟩⟩
theorem lw_p112 : lw_okq (⟨"TensorForgeModel", "setNumber", "(I)Z"⟩, 69) := ⟨⟨by decide +kernel, by decide +kernel⟩, List.mem_of_getElem? (i := 1583) (by decide +kernel), List.mem_of_getElem? (i := 2033) (by decide +kernel), List.mem_of_getElem? (i := 2034) (by decide +kernel)⟩
theorem lw_p113 : lw_okq (⟨"TensorForgeModel", "wordOfFields", "()J"⟩, 69) := ⟨⟨by decide +kernel, by decide +kernel⟩, List.mem_of_getElem? (i := 1583) (by decide +kernel), List.mem_of_getElem? (i := 2039) (by decide +kernel), List.mem_of_getElem? (i := 2040) (by decide +kernel)⟩
theorem lw_p114 : lw_okq (⟨"TensorForgeModel", "takeMade", "()V"⟩, 69) := ⟨⟨by decide +kernel, by decide +kernel⟩, List.mem_of_getElem? (i := 1583) (by decide +kernel), List.mem_of_getElem? (i := 2043) (by decide +kernel), List.mem_of_getElem? (i := 2044) (by decide +kernel)⟩
theorem lw_p115 : lw_okq (⟨"TensorForgeModel", "sayWord", "(I)V"⟩, 69) := ⟨⟨by decide +kernel, by decide +kernel⟩, List.mem_of_getElem? (i := 1583) (by decide +kernel), List.mem_of_getElem? (i := 2051) (by decide +kernel), List.mem_of_getElem? (i := 2052) (by decide +kernel)⟩
theorem lw_p116 : lw_okq (⟨"TensorForgeModel", "say", "(J)V"⟩, 69) := ⟨⟨by decide +kernel, by decide +kernel⟩, List.mem_of_getElem? (i := 1583) (by decide +kernel), List.mem_of_getElem? (i := 2055) (by decide +kernel), List.mem_of_getElem? (i := 2056) (by decide +kernel)⟩
theorem lw_p117 : lw_okq (⟨"TensorForgeModel", "sayField", "(II)V"⟩, 69) := ⟨⟨by decide +kernel, by decide +kernel⟩, List.mem_of_getElem? (i := 1583) (by decide +kernel), List.mem_of_getElem? (i := 2061) (by decide +kernel), List.mem_of_getElem? (i := 2062) (by decide +kernel)⟩
theorem lw_p118 : lw_okq (⟨"TensorForgeModel", "sayNumber", "(I)V"⟩, 69) := ⟨⟨by decide +kernel, by decide +kernel⟩, List.mem_of_getElem? (i := 1583) (by decide +kernel), List.mem_of_getElem? (i := 2065) (by decide +kernel), List.mem_of_getElem? (i := 2066) (by decide +kernel)⟩
theorem lw_p119 : lw_okq (⟨"TensorForgeModel", "sayFlag", "(I)V"⟩, 69) := ⟨⟨by decide +kernel, by decide +kernel⟩, List.mem_of_getElem? (i := 1583) (by decide +kernel), List.mem_of_getElem? (i := 2069) (by decide +kernel), List.mem_of_getElem? (i := 2070) (by decide +kernel)⟩
theorem lw_p120 : lw_okq (⟨"TensorForgeModel", "isTensor", "(I)Z"⟩, 69) := ⟨⟨by decide +kernel, by decide +kernel⟩, List.mem_of_getElem? (i := 1583) (by decide +kernel), List.mem_of_getElem? (i := 2083) (by decide +kernel), List.mem_of_getElem? (i := 2084) (by decide +kernel)⟩
theorem lw_p121 : lw_okq (⟨"TensorForgeModel", "add", "(IIIII)I"⟩, 69) := ⟨⟨by decide +kernel, by decide +kernel⟩, List.mem_of_getElem? (i := 1583) (by decide +kernel), List.mem_of_getElem? (i := 2094) (by decide +kernel), List.mem_of_getElem? (i := 2095) (by decide +kernel)⟩
theorem lw_p122 : lw_okq (⟨"TensorForgeModel", "setLayer", "(IIIIII)V"⟩, 69) := ⟨⟨by decide +kernel, by decide +kernel⟩, List.mem_of_getElem? (i := 1583) (by decide +kernel), List.mem_of_getElem? (i := 2098) (by decide +kernel), List.mem_of_getElem? (i := 2099) (by decide +kernel)⟩
theorem lw_p123 : lw_okq (⟨"TensorForgeModel", "convolved", "(IIII)I"⟩, 69) := ⟨⟨by decide +kernel, by decide +kernel⟩, List.mem_of_getElem? (i := 1583) (by decide +kernel), List.mem_of_getElem? (i := 2118) (by decide +kernel), List.mem_of_getElem? (i := 2119) (by decide +kernel)⟩
theorem lw_p124 : lw_okq (⟨"TensorForgeModel", "isThere", "(III)Z"⟩, 69) := ⟨⟨by decide +kernel, by decide +kernel⟩, List.mem_of_getElem? (i := 1583) (by decide +kernel), List.mem_of_getElem? (i := 2122) (by decide +kernel), List.mem_of_getElem? (i := 2123) (by decide +kernel)⟩
theorem lw_p125 : lw_okq (⟨"TensorForgeModel", "cellAt", "(IIII)I"⟩, 69) := ⟨⟨by decide +kernel, by decide +kernel⟩, List.mem_of_getElem? (i := 1583) (by decide +kernel), List.mem_of_getElem? (i := 2126) (by decide +kernel), List.mem_of_getElem? (i := 2127) (by decide +kernel)⟩
theorem lw_p126 : lw_okq (⟨"TensorForgeModel", "pooled", "(IIII)I"⟩, 69) := ⟨⟨by decide +kernel, by decide +kernel⟩, List.mem_of_getElem? (i := 1583) (by decide +kernel), List.mem_of_getElem? (i := 2130) (by decide +kernel), List.mem_of_getElem? (i := 2131) (by decide +kernel)⟩
theorem lw_p127 : lw_okq (⟨"TensorForgeModel", "layer", "(I)V"⟩, 69) := ⟨⟨by decide +kernel, by decide +kernel⟩, List.mem_of_getElem? (i := 1583) (by decide +kernel), List.mem_of_getElem? (i := 2138) (by decide +kernel), List.mem_of_getElem? (i := 2139) (by decide +kernel)⟩
def lw_privs_8 : List (MethodName × Nat) := [(⟨"TensorForgeModel", "setNumber", "(I)Z"⟩, 69), (⟨"TensorForgeModel", "wordOfFields", "()J"⟩, 69), (⟨"TensorForgeModel", "takeMade", "()V"⟩, 69), (⟨"TensorForgeModel", "sayWord", "(I)V"⟩, 69), (⟨"TensorForgeModel", "say", "(J)V"⟩, 69), (⟨"TensorForgeModel", "sayField", "(II)V"⟩, 69), (⟨"TensorForgeModel", "sayNumber", "(I)V"⟩, 69), (⟨"TensorForgeModel", "sayFlag", "(I)V"⟩, 69), (⟨"TensorForgeModel", "isTensor", "(I)Z"⟩, 69), (⟨"TensorForgeModel", "add", "(IIIII)I"⟩, 69), (⟨"TensorForgeModel", "setLayer", "(IIIIII)V"⟩, 69), (⟨"TensorForgeModel", "convolved", "(IIII)I"⟩, 69), (⟨"TensorForgeModel", "isThere", "(III)Z"⟩, 69), (⟨"TensorForgeModel", "cellAt", "(IIII)I"⟩, 69), (⟨"TensorForgeModel", "pooled", "(IIII)I"⟩, 69), (⟨"TensorForgeModel", "layer", "(I)V"⟩, 69)]
theorem lw_r8 : ∀ q ∈ lw_privs_8, lw_okq q := List.forall_mem_cons.mpr ⟨lw_p112, List.forall_mem_cons.mpr ⟨lw_p113, List.forall_mem_cons.mpr ⟨lw_p114, List.forall_mem_cons.mpr ⟨lw_p115, List.forall_mem_cons.mpr ⟨lw_p116, List.forall_mem_cons.mpr ⟨lw_p117, List.forall_mem_cons.mpr ⟨lw_p118, List.forall_mem_cons.mpr ⟨lw_p119, List.forall_mem_cons.mpr ⟨lw_p120, List.forall_mem_cons.mpr ⟨lw_p121, List.forall_mem_cons.mpr ⟨lw_p122, List.forall_mem_cons.mpr ⟨lw_p123, List.forall_mem_cons.mpr ⟨lw_p124, List.forall_mem_cons.mpr ⟨lw_p125, List.forall_mem_cons.mpr ⟨lw_p126, List.forall_mem_cons.mpr ⟨lw_p127, fun _ h => absurd h List.not_mem_nil⟩⟩⟩⟩⟩⟩⟩⟩⟩⟩⟩⟩⟩⟩⟩⟩
theorem lw_p128 : lw_okq (⟨"TensorForgeModel", "tile", "(I)V"⟩, 69) := ⟨⟨by decide +kernel, by decide +kernel⟩, List.mem_of_getElem? (i := 1583) (by decide +kernel), List.mem_of_getElem? (i := 2145) (by decide +kernel), List.mem_of_getElem? (i := 2146) (by decide +kernel)⟩
theorem lw_p129 : lw_okq (⟨"TensorForgeModel", "group", "(IIIIIZ)V"⟩, 69) := ⟨⟨by decide +kernel, by decide +kernel⟩, List.mem_of_getElem? (i := 1583) (by decide +kernel), List.mem_of_getElem? (i := 2149) (by decide +kernel), List.mem_of_getElem? (i := 2150) (by decide +kernel)⟩
theorem lw_p130 : lw_okq (⟨"TensorForgeModel", "groupLoads", "(IIIIIZZ)V"⟩, 69) := ⟨⟨by decide +kernel, by decide +kernel⟩, List.mem_of_getElem? (i := 1583) (by decide +kernel), List.mem_of_getElem? (i := 2153) (by decide +kernel), List.mem_of_getElem? (i := 2154) (by decide +kernel)⟩
theorem lw_p131 : lw_okq (⟨"TensorForgeModel", "set", "(IIII)V"⟩, 69) := ⟨⟨by decide +kernel, by decide +kernel⟩, List.mem_of_getElem? (i := 1583) (by decide +kernel), List.mem_of_getElem? (i := 2157) (by decide +kernel), List.mem_of_getElem? (i := 2158) (by decide +kernel)⟩
theorem lw_p132 : lw_okq (⟨"TensorForgeModel", "quarter", "()I"⟩, 69) := ⟨⟨by decide +kernel, by decide +kernel⟩, List.mem_of_getElem? (i := 1583) (by decide +kernel), List.mem_of_getElem? (i := 2161) (by decide +kernel), List.mem_of_getElem? (i := 2162) (by decide +kernel)⟩
theorem lw_p133 : lw_okq (⟨"TensorForgeModel", "with", "(IIII)V"⟩, 69) := ⟨⟨by decide +kernel, by decide +kernel⟩, List.mem_of_getElem? (i := 1583) (by decide +kernel), List.mem_of_getElem? (i := 2165) (by decide +kernel), List.mem_of_getElem? (i := 2166) (by decide +kernel)⟩
theorem lw_p134 : lw_okq (⟨"TensorForgeModel", "load", "(Z)V"⟩, 69) := ⟨⟨by decide +kernel, by decide +kernel⟩, List.mem_of_getElem? (i := 1583) (by decide +kernel), List.mem_of_getElem? (i := 2169) (by decide +kernel), List.mem_of_getElem? (i := 2170) (by decide +kernel)⟩
theorem lw_p135 : lw_okq (⟨"TensorForgeModel", "emit", "(I)V"⟩, 69) := ⟨⟨by decide +kernel, by decide +kernel⟩, List.mem_of_getElem? (i := 1583) (by decide +kernel), List.mem_of_getElem? (i := 2173) (by decide +kernel), List.mem_of_getElem? (i := 2174) (by decide +kernel)⟩
theorem lw_p136 : lw_okq (⟨"TensorForgeModel", "half", "()I"⟩, 69) := ⟨⟨by decide +kernel, by decide +kernel⟩, List.mem_of_getElem? (i := 1583) (by decide +kernel), List.mem_of_getElem? (i := 2177) (by decide +kernel), List.mem_of_getElem? (i := 2178) (by decide +kernel)⟩
theorem lw_p137 : lw_okq (⟨"TensorForgeModel", "works", "(IIZZ)V"⟩, 69) := ⟨⟨by decide +kernel, by decide +kernel⟩, List.mem_of_getElem? (i := 1583) (by decide +kernel), List.mem_of_getElem? (i := 2181) (by decide +kernel), List.mem_of_getElem? (i := 2182) (by decide +kernel)⟩
theorem lw_p138 : lw_okq (⟨"TensorForgeModel", "keepNetwork", "(Z)V"⟩, 69) := ⟨⟨by decide +kernel, by decide +kernel⟩, List.mem_of_getElem? (i := 1583) (by decide +kernel), List.mem_of_getElem? (i := 2189) (by decide +kernel), List.mem_of_getElem? (i := 2190) (by decide +kernel)⟩
theorem lw_p139 : lw_okq (⟨"TensorForgeModel", "keepRow", "([IIIZ)V"⟩, 69) := ⟨⟨by decide +kernel, by decide +kernel⟩, List.mem_of_getElem? (i := 1583) (by decide +kernel), List.mem_of_getElem? (i := 2193) (by decide +kernel), List.mem_of_getElem? (i := 2194) (by decide +kernel)⟩
theorem lw_p140 : lw_okq (⟨"TensorForgeModel", "advanceNet", "()V"⟩, 69) := ⟨⟨by decide +kernel, by decide +kernel⟩, List.mem_of_getElem? (i := 1583) (by decide +kernel), List.mem_of_getElem? (i := 2197) (by decide +kernel), List.mem_of_getElem? (i := 2198) (by decide +kernel)⟩
theorem lw_p141 : lw_okq (⟨"TensorForgeModel", "readLayer", "()Z"⟩, 69) := ⟨⟨by decide +kernel, by decide +kernel⟩, List.mem_of_getElem? (i := 1583) (by decide +kernel), List.mem_of_getElem? (i := 2201) (by decide +kernel), List.mem_of_getElem? (i := 2202) (by decide +kernel)⟩
theorem lw_p142 : lw_okq (⟨"TensorForgeModel", "isWord", "(J)Z"⟩, 69) := ⟨⟨by decide +kernel, by decide +kernel⟩, List.mem_of_getElem? (i := 1583) (by decide +kernel), List.mem_of_getElem? (i := 2206) (by decide +kernel), List.mem_of_getElem? (i := 2207) (by decide +kernel)⟩
theorem lw_p143 : lw_okq (⟨"TensorForgeModel", "takeTensor", "()I"⟩, 69) := ⟨⟨by decide +kernel, by decide +kernel⟩, List.mem_of_getElem? (i := 1583) (by decide +kernel), List.mem_of_getElem? (i := 2212) (by decide +kernel), List.mem_of_getElem? (i := 2213) (by decide +kernel)⟩
def lw_privs_9 : List (MethodName × Nat) := [(⟨"TensorForgeModel", "tile", "(I)V"⟩, 69), (⟨"TensorForgeModel", "group", "(IIIIIZ)V"⟩, 69), (⟨"TensorForgeModel", "groupLoads", "(IIIIIZZ)V"⟩, 69), (⟨"TensorForgeModel", "set", "(IIII)V"⟩, 69), (⟨"TensorForgeModel", "quarter", "()I"⟩, 69), (⟨"TensorForgeModel", "with", "(IIII)V"⟩, 69), (⟨"TensorForgeModel", "load", "(Z)V"⟩, 69), (⟨"TensorForgeModel", "emit", "(I)V"⟩, 69), (⟨"TensorForgeModel", "half", "()I"⟩, 69), (⟨"TensorForgeModel", "works", "(IIZZ)V"⟩, 69), (⟨"TensorForgeModel", "keepNetwork", "(Z)V"⟩, 69), (⟨"TensorForgeModel", "keepRow", "([IIIZ)V"⟩, 69), (⟨"TensorForgeModel", "advanceNet", "()V"⟩, 69), (⟨"TensorForgeModel", "readLayer", "()Z"⟩, 69), (⟨"TensorForgeModel", "isWord", "(J)Z"⟩, 69), (⟨"TensorForgeModel", "takeTensor", "()I"⟩, 69)]
theorem lw_r9 : ∀ q ∈ lw_privs_9, lw_okq q := List.forall_mem_cons.mpr ⟨lw_p128, List.forall_mem_cons.mpr ⟨lw_p129, List.forall_mem_cons.mpr ⟨lw_p130, List.forall_mem_cons.mpr ⟨lw_p131, List.forall_mem_cons.mpr ⟨lw_p132, List.forall_mem_cons.mpr ⟨lw_p133, List.forall_mem_cons.mpr ⟨lw_p134, List.forall_mem_cons.mpr ⟨lw_p135, List.forall_mem_cons.mpr ⟨lw_p136, List.forall_mem_cons.mpr ⟨lw_p137, List.forall_mem_cons.mpr ⟨lw_p138, List.forall_mem_cons.mpr ⟨lw_p139, List.forall_mem_cons.mpr ⟨lw_p140, List.forall_mem_cons.mpr ⟨lw_p141, List.forall_mem_cons.mpr ⟨lw_p142, List.forall_mem_cons.mpr ⟨lw_p143, fun _ h => absurd h List.not_mem_nil⟩⟩⟩⟩⟩⟩⟩⟩⟩⟩⟩⟩⟩⟩⟩⟩
theorem lw_p144 : lw_okq (⟨"TensorForgeModel", "named", "(J)I"⟩, 69) := ⟨⟨by decide +kernel, by decide +kernel⟩, List.mem_of_getElem? (i := 1583) (by decide +kernel), List.mem_of_getElem? (i := 2216) (by decide +kernel), List.mem_of_getElem? (i := 2217) (by decide +kernel)⟩
theorem lw_p145 : lw_okq (⟨"TensorForgeModel", "takeParts", "(I)Z"⟩, 69) := ⟨⟨by decide +kernel, by decide +kernel⟩, List.mem_of_getElem? (i := 1583) (by decide +kernel), List.mem_of_getElem? (i := 2220) (by decide +kernel), List.mem_of_getElem? (i := 2221) (by decide +kernel)⟩
theorem lw_p146 : lw_okq (⟨"TensorForgeModel", "partOf", "()I"⟩, 69) := ⟨⟨by decide +kernel, by decide +kernel⟩, List.mem_of_getElem? (i := 1583) (by decide +kernel), List.mem_of_getElem? (i := 2224) (by decide +kernel), List.mem_of_getElem? (i := 2225) (by decide +kernel)⟩
theorem lw_p147 : lw_okq (⟨"TensorForgeModel", "takePart", "(I)Z"⟩, 69) := ⟨⟨by decide +kernel, by decide +kernel⟩, List.mem_of_getElem? (i := 1583) (by decide +kernel), List.mem_of_getElem? (i := 2233) (by decide +kernel), List.mem_of_getElem? (i := 2234) (by decide +kernel)⟩
theorem lw_p148 : lw_okq (⟨"TensorForgeModel", "takeNet", "(I)Z"⟩, 69) := ⟨⟨by decide +kernel, by decide +kernel⟩, List.mem_of_getElem? (i := 1583) (by decide +kernel), List.mem_of_getElem? (i := 2237) (by decide +kernel), List.mem_of_getElem? (i := 2238) (by decide +kernel)⟩
theorem lw_p149 : lw_okq (⟨"TensorForgeModel", "takeX", "()Z"⟩, 69) := ⟨⟨by decide +kernel, by decide +kernel⟩, List.mem_of_getElem? (i := 1583) (by decide +kernel), List.mem_of_getElem? (i := 2241) (by decide +kernel), List.mem_of_getElem? (i := 2242) (by decide +kernel)⟩
theorem lw_p150 : lw_okq (⟨"TensorForgeModel", "isKeyword", "(J)Z"⟩, 69) := ⟨⟨by decide +kernel, by decide +kernel⟩, List.mem_of_getElem? (i := 1583) (by decide +kernel), List.mem_of_getElem? (i := 2245) (by decide +kernel), List.mem_of_getElem? (i := 2246) (by decide +kernel)⟩
theorem lw_p151 : lw_okq (⟨"TensorForgeModel", "readInput", "()Z"⟩, 69) := ⟨⟨by decide +kernel, by decide +kernel⟩, List.mem_of_getElem? (i := 1583) (by decide +kernel), List.mem_of_getElem? (i := 2253) (by decide +kernel), List.mem_of_getElem? (i := 2254) (by decide +kernel)⟩
theorem lw_p152 : lw_okq (⟨"TensorForgeModel", "sayCode", "(J)V"⟩, 69) := ⟨⟨by decide +kernel, by decide +kernel⟩, List.mem_of_getElem? (i := 1583) (by decide +kernel), List.mem_of_getElem? (i := 2262) (by decide +kernel), List.mem_of_getElem? (i := 2263) (by decide +kernel)⟩
theorem lw_p153 : lw_okq (⟨"TensorForgeModel", "sayCount", "(I)V"⟩, 69) := ⟨⟨by decide +kernel, by decide +kernel⟩, List.mem_of_getElem? (i := 1583) (by decide +kernel), List.mem_of_getElem? (i := 2266) (by decide +kernel), List.mem_of_getElem? (i := 2267) (by decide +kernel)⟩
theorem lw_p154 : lw_okq (⟨"TensorForgeModel", "sayLayer", "(I)V"⟩, 69) := ⟨⟨by decide +kernel, by decide +kernel⟩, List.mem_of_getElem? (i := 1583) (by decide +kernel), List.mem_of_getElem? (i := 2270) (by decide +kernel), List.mem_of_getElem? (i := 2271) (by decide +kernel)⟩
theorem lw_p155 : lw_okq (⟨"TensorForgeModel", "placeAll", "()I"⟩, 69) := ⟨⟨by decide +kernel, by decide +kernel⟩, List.mem_of_getElem? (i := 1583) (by decide +kernel), List.mem_of_getElem? (i := 2278) (by decide +kernel), List.mem_of_getElem? (i := 2279) (by decide +kernel)⟩
theorem lw_p156 : lw_okq (⟨"TensorForgeModel", "meets", "(II)Z"⟩, 69) := ⟨⟨by decide +kernel, by decide +kernel⟩, List.mem_of_getElem? (i := 1583) (by decide +kernel), List.mem_of_getElem? (i := 2282) (by decide +kernel), List.mem_of_getElem? (i := 2283) (by decide +kernel)⟩
theorem lw_p157 : lw_okq (⟨"TensorForgeModel", "isNeeded", "(II)Z"⟩, 69) := ⟨⟨by decide +kernel, by decide +kernel⟩, List.mem_of_getElem? (i := 1583) (by decide +kernel), List.mem_of_getElem? (i := 2286) (by decide +kernel), List.mem_of_getElem? (i := 2287) (by decide +kernel)⟩
theorem lw_p158 : lw_okq (⟨"TensorForgeModel", "takes", "(II)Z"⟩, 69) := ⟨⟨by decide +kernel, by decide +kernel⟩, List.mem_of_getElem? (i := 1583) (by decide +kernel), List.mem_of_getElem? (i := 2290) (by decide +kernel), List.mem_of_getElem? (i := 2291) (by decide +kernel)⟩
theorem lw_p159 : lw_okq (⟨"TensorForgeModel", "isToldOfRun", "(II)Z"⟩, 69) := ⟨⟨by decide +kernel, by decide +kernel⟩, List.mem_of_getElem? (i := 1583) (by decide +kernel), List.mem_of_getElem? (i := 2298) (by decide +kernel), List.mem_of_getElem? (i := 2299) (by decide +kernel)⟩
def lw_privs_10 : List (MethodName × Nat) := [(⟨"TensorForgeModel", "named", "(J)I"⟩, 69), (⟨"TensorForgeModel", "takeParts", "(I)Z"⟩, 69), (⟨"TensorForgeModel", "partOf", "()I"⟩, 69), (⟨"TensorForgeModel", "takePart", "(I)Z"⟩, 69), (⟨"TensorForgeModel", "takeNet", "(I)Z"⟩, 69), (⟨"TensorForgeModel", "takeX", "()Z"⟩, 69), (⟨"TensorForgeModel", "isKeyword", "(J)Z"⟩, 69), (⟨"TensorForgeModel", "readInput", "()Z"⟩, 69), (⟨"TensorForgeModel", "sayCode", "(J)V"⟩, 69), (⟨"TensorForgeModel", "sayCount", "(I)V"⟩, 69), (⟨"TensorForgeModel", "sayLayer", "(I)V"⟩, 69), (⟨"TensorForgeModel", "placeAll", "()I"⟩, 69), (⟨"TensorForgeModel", "meets", "(II)Z"⟩, 69), (⟨"TensorForgeModel", "isNeeded", "(II)Z"⟩, 69), (⟨"TensorForgeModel", "takes", "(II)Z"⟩, 69), (⟨"TensorForgeModel", "isToldOfRun", "(II)Z"⟩, 69)]
theorem lw_r10 : ∀ q ∈ lw_privs_10, lw_okq q := List.forall_mem_cons.mpr ⟨lw_p144, List.forall_mem_cons.mpr ⟨lw_p145, List.forall_mem_cons.mpr ⟨lw_p146, List.forall_mem_cons.mpr ⟨lw_p147, List.forall_mem_cons.mpr ⟨lw_p148, List.forall_mem_cons.mpr ⟨lw_p149, List.forall_mem_cons.mpr ⟨lw_p150, List.forall_mem_cons.mpr ⟨lw_p151, List.forall_mem_cons.mpr ⟨lw_p152, List.forall_mem_cons.mpr ⟨lw_p153, List.forall_mem_cons.mpr ⟨lw_p154, List.forall_mem_cons.mpr ⟨lw_p155, List.forall_mem_cons.mpr ⟨lw_p156, List.forall_mem_cons.mpr ⟨lw_p157, List.forall_mem_cons.mpr ⟨lw_p158, List.forall_mem_cons.mpr ⟨lw_p159, fun _ h => absurd h List.not_mem_nil⟩⟩⟩⟩⟩⟩⟩⟩⟩⟩⟩⟩⟩⟩⟩⟩
theorem lw_p160 : lw_okq (⟨"TensorForgeModel", "underWay", "(II)I"⟩, 69) := ⟨⟨by decide +kernel, by decide +kernel⟩, List.mem_of_getElem? (i := 1583) (by decide +kernel), List.mem_of_getElem? (i := 2302) (by decide +kernel), List.mem_of_getElem? (i := 2303) (by decide +kernel)⟩
theorem lw_p161 : lw_okq (⟨"TensorForgeModel", "isTokenThere", "(IZI)Z"⟩, 69) := ⟨⟨by decide +kernel, by decide +kernel⟩, List.mem_of_getElem? (i := 1583) (by decide +kernel), List.mem_of_getElem? (i := 2310) (by decide +kernel), List.mem_of_getElem? (i := 2311) (by decide +kernel)⟩
def lw_privs_11 : List (MethodName × Nat) := [(⟨"TensorForgeModel", "underWay", "(II)I"⟩, 69), (⟨"TensorForgeModel", "isTokenThere", "(IZI)Z"⟩, 69)]
theorem lw_r11 : ∀ q ∈ lw_privs_11, lw_okq q := List.forall_mem_cons.mpr ⟨lw_p160, List.forall_mem_cons.mpr ⟨lw_p161, fun _ h => absurd h List.not_mem_nil⟩⟩
def lw_privs : List (MethodName × Nat) := lw_privs_1 ++ (lw_privs_2 ++ (lw_privs_3 ++ (lw_privs_4 ++ (lw_privs_5 ++ (lw_privs_6 ++ (lw_privs_7 ++ (lw_privs_8 ++ (lw_privs_9 ++ (lw_privs_10 ++ (lw_privs_11))))))))))
def lw_tbl : List Cond := k2_sels lw_privs ++ tables_1
theorem lw_privs_ok : ∀ q ∈ lw_privs, lw_okq q := by
  show ∀ q ∈ lw_privs_1 ++ (lw_privs_2 ++ (lw_privs_3 ++ (lw_privs_4 ++ (lw_privs_5 ++ (lw_privs_6 ++ (lw_privs_7 ++ (lw_privs_8 ++ (lw_privs_9 ++ (lw_privs_10 ++ (lw_privs_11)))))))))), lw_okq q
  exact List.forall_mem_append.mpr ⟨lw_r1, List.forall_mem_append.mpr ⟨lw_r2, List.forall_mem_append.mpr ⟨lw_r3, List.forall_mem_append.mpr ⟨lw_r4, List.forall_mem_append.mpr ⟨lw_r5, List.forall_mem_append.mpr ⟨lw_r6, List.forall_mem_append.mpr ⟨lw_r7, List.forall_mem_append.mpr ⟨lw_r8, List.forall_mem_append.mpr ⟨lw_r9, List.forall_mem_append.mpr ⟨lw_r10, lw_r11⟩⟩⟩⟩⟩⟩⟩⟩⟩⟩
/-- the words that hold at every later state too -/
def mm_tb : List Cond := lw_tbl.filter goodWord
theorem mm_tb_in (ws : List Cond) (ps : List Nat) (hp : ws = ps.filterMap (fun i => tables_1[i]?)) (h : ws.all goodWord = true) : ∀ w ∈ ws, w ∈ mm_tb := by
  intro w hw
  have h1 := List.all_eq_true.mp h w hw
  rw [hp] at hw
  obtain ⟨i, -, hi⟩ := List.mem_filterMap.mp hw
  exact List.mem_filter.mpr ⟨List.mem_append_right _ (List.mem_of_getElem? hi), h1⟩
theorem mm_tb_1 {w : Cond} (i : Nat) (hi : tables_1[i]? = some w) (h : goodWord w = true) : w ∈ mm_tb := List.mem_filter.mpr ⟨List.mem_append_right _ (List.mem_of_getElem? hi), h⟩
theorem mm_tb_s {w : Cond} (i : Nat) (hi : (k2_sels lw_privs)[i]? = some w) (h : goodWord w = true) : w ∈ mm_tb := List.mem_filter.mpr ⟨List.mem_append_left _ (List.mem_of_getElem? hi), h⟩
theorem mm_tb_good {s : State} {args : Array Value} (h : ∀ w ∈ mm_tb, w.before args s = true) {U : State} (hW : s.WarmedH U.vm) (a : Array Value) : ∀ w ∈ mm_tb, w.before a U = true :=
  fun w hw => word_at hW (good_of_word (List.mem_filter.mp hw).2) (h w hw)
end
section
/-! the classes: names, fields, types; by program out of the words (wip/names.py) -/
def R_TF : String := "TensorForge"
def F_TF : u_T := fun k => match k with
  | 0 => ("TensorForge", "machine", "LTensorForge$Machine;", true)
  | 1 => ("TensorForge", "latest", "LTensorForge$Run;", true)
  | 2 => ("TensorForge", "text", "LTensorForge$Text;", true)
  | 3 => ("TensorForge", "assembler", "LTensorForge$Assembler;", true)
  | 4 => ("TensorForge", "reader", "LTensorForge$NetworkReader;", true)
  | 5 => ("TensorForge", "compiler", "LTensorForge$Compiler;", true)
  | 6 => ("TensorForge", "printed", "LTensorForge$Line;", true)
  | 7 => ("TensorForge", "net", "LTensorForge$Network;", false)
  | 8 => ("TensorForge", "spareNet", "LTensorForge$Network;", false)
  | 9 => ("TensorForge", "words", "[J", false)
  | 10 => ("TensorForge", "spareWords", "[J", false)
  | _ => ("TensorForge", "count", "I", false)
def t_TF : Nat → FieldType := fun k => match k with
  | 0 => .object "TensorForge$Machine"
  | 1 => .object "TensorForge$Run"
  | 2 => .object "TensorForge$Text"
  | 3 => .object "TensorForge$Assembler"
  | 4 => .object "TensorForge$NetworkReader"
  | 5 => .object "TensorForge$Compiler"
  | 6 => .object "TensorForge$Line"
  | 7 => .object "TensorForge$Network"
  | 8 => .object "TensorForge$Network"
  | 9 => .array .long
  | 10 => .array .long
  | _ => .int
theorem n_TF : ∀ a, a < 12 → ∀ b, b < 12 → a ≠ b → (F_TF a).2.1 ≠ (F_TF b).2.1 := by decide +kernel
theorem t_TF_ok : ∀ k, k < 12 → parseFieldDescriptor (F_TF k).2.2.1 = some (t_TF k) := by decide +kernel
theorem i_TF : ∀ w ∈ u_ws R_TF F_TF 12, w ∈ mm_tb := mm_tb_in _ [452, 454, 456, 458, 460, 462, 464, 466, 468, 470, 472, 474] (by decide +kernel) (by decide +kernel)
def R_Network : String := "TensorForge$Network"
def F_Network : u_T := fun k => match k with
  | 0 => ("TensorForge$Network", "layers", "[LTensorForge$Layer;", true)
  | _ => ("TensorForge$Network", "tensors", "I", false)
def t_Network : Nat → FieldType := fun k => match k with
  | 0 => .array (.object "TensorForge$Layer")
  | _ => .int
theorem n_Network : ∀ a, a < 2 → ∀ b, b < 2 → a ≠ b → (F_Network a).2.1 ≠ (F_Network b).2.1 := by decide +kernel
theorem t_Network_ok : ∀ k, k < 2 → parseFieldDescriptor (F_Network k).2.2.1 = some (t_Network k) := by decide +kernel
theorem i_Network : ∀ w ∈ u_ws R_Network F_Network 2, w ∈ mm_tb := mm_tb_in _ [149, 151] (by decide +kernel) (by decide +kernel)
def R_Layer : String := "TensorForge$Layer"
def F_Layer : u_T := fun k => match k with
  | 0 => ("TensorForge$Layer", "kind", "I", false)
  | 1 => ("TensorForge$Layer", "one", "I", false)
  | 2 => ("TensorForge$Layer", "two", "I", false)
  | 3 => ("TensorForge$Layer", "kernelHeight", "I", false)
  | 4 => ("TensorForge$Layer", "kernelWidth", "I", false)
  | 5 => ("TensorForge$Layer", "step", "I", false)
  | 6 => ("TensorForge$Layer", "edge", "I", false)
  | 7 => ("TensorForge$Layer", "shift", "I", false)
  | 8 => ("TensorForge$Layer", "relu", "Z", false)
  | 9 => ("TensorForge$Layer", "address", "I", false)
  | 10 => ("TensorForge$Layer", "height", "I", false)
  | 11 => ("TensorForge$Layer", "width", "I", false)
  | 12 => ("TensorForge$Layer", "channels", "I", false)
  | 13 => ("TensorForge$Layer", "begin", "I", false)
  | _ => ("TensorForge$Layer", "spot", "I", false)
def t_Layer : Nat → FieldType := fun k => match k with
  | 0 => .int
  | 1 => .int
  | 2 => .int
  | 3 => .int
  | 4 => .int
  | 5 => .int
  | 6 => .int
  | 7 => .int
  | 8 => .boolean
  | 9 => .int
  | 10 => .int
  | 11 => .int
  | 12 => .int
  | 13 => .int
  | _ => .int
theorem n_Layer : ∀ a, a < 15 → ∀ b, b < 15 → a ≠ b → (F_Layer a).2.1 ≠ (F_Layer b).2.1 := by decide +kernel
theorem t_Layer_ok : ∀ k, k < 15 → parseFieldDescriptor (F_Layer k).2.2.1 = some (t_Layer k) := by decide +kernel
theorem i_Layer : ∀ w ∈ u_ws R_Layer F_Layer 15, w ∈ mm_tb := mm_tb_in _ [112, 114, 116, 118, 120, 122, 124, 126, 128, 130, 132, 134, 136, 138, 140] (by decide +kernel) (by decide +kernel)
def R_Machine : String := "TensorForge$Machine"
def F_Machine : u_T := fun k => match k with
  | 0 => ("TensorForge$Machine", "memory", "[B", true)
  | 1 => ("TensorForge$Machine", "cells", "[B", true)
  | 2 => ("TensorForge$Machine", "weights", "[B", true)
  | 3 => ("TensorForge$Machine", "sums", "[I", true)
  | 4 => ("TensorForge$Machine", "results", "[B", true)
  | 5 => ("TensorForge$Machine", "probe", "LTensorForge$Reaches;", true)
  | 6 => ("TensorForge$Machine", "side", "I", false)
  | 7 => ("TensorForge$Machine", "address", "I", false)
  | 8 => ("TensorForge$Machine", "rows", "I", false)
  | 9 => ("TensorForge$Machine", "columns", "I", false)
  | 10 => ("TensorForge$Machine", "a", "I", false)
  | 11 => ("TensorForge$Machine", "b", "I", false)
  | 12 => ("TensorForge$Machine", "stride", "I", false)
  | _ => ("TensorForge$Machine", "n", "I", false)
def t_Machine : Nat → FieldType := fun k => match k with
  | 0 => .array .byte
  | 1 => .array .byte
  | 2 => .array .byte
  | 3 => .array .int
  | 4 => .array .byte
  | 5 => .object "TensorForge$Reaches"
  | 6 => .int
  | 7 => .int
  | 8 => .int
  | 9 => .int
  | 10 => .int
  | 11 => .int
  | 12 => .int
  | _ => .int
theorem n_Machine : ∀ a, a < 14 → ∀ b, b < 14 → a ≠ b → (F_Machine a).2.1 ≠ (F_Machine b).2.1 := by decide +kernel
theorem t_Machine_ok : ∀ k, k < 14 → parseFieldDescriptor (F_Machine k).2.2.1 = some (t_Machine k) := by decide +kernel
theorem i_Machine : ∀ w ∈ u_ws R_Machine F_Machine 14, w ∈ mm_tb := mm_tb_in _ [201, 203, 205, 207, 209, 211, 213, 215, 217, 219, 221, 223, 225, 227] (by decide +kernel) (by decide +kernel)
def R_Reaches : String := "TensorForge$Reaches"
def F_Reaches : u_T := fun k => match k with
  | 0 => ("TensorForge$Reaches", "readFrom", "[I", true)
  | 1 => ("TensorForge$Reaches", "readTo", "[I", true)
  | 2 => ("TensorForge$Reaches", "writeFrom", "[I", true)
  | _ => ("TensorForge$Reaches", "writeTo", "[I", true)
def t_Reaches : Nat → FieldType := fun k => match k with
  | 0 => .array .int
  | 1 => .array .int
  | 2 => .array .int
  | _ => .array .int
theorem n_Reaches : ∀ a, a < 4 → ∀ b, b < 4 → a ≠ b → (F_Reaches a).2.1 ≠ (F_Reaches b).2.1 := by decide +kernel
theorem t_Reaches_ok : ∀ k, k < 4 → parseFieldDescriptor (F_Reaches k).2.2.1 = some (t_Reaches k) := by decide +kernel
theorem i_Reaches : ∀ w ∈ u_ws R_Reaches F_Reaches 4, w ∈ mm_tb := mm_tb_in _ [172, 174, 176, 178] (by decide +kernel) (by decide +kernel)
def R_Run : String := "TensorForge$Run"
def F_Run : u_T := fun k => match k with
  | 0 => ("TensorForge$Run", "machine", "LTensorForge$Machine;", true)
  | 1 => ("TensorForge$Run", "told", "[I", true)
  | 2 => ("TensorForge$Run", "words", "[J", true)
  | 3 => ("TensorForge$Run", "began", "[I", true)
  | 4 => ("TensorForge$Run", "ended", "[I", true)
  | 5 => ("TensorForge$Run", "next", "[I", true)
  | 6 => ("TensorForge$Run", "underWay", "[I", true)
  | 7 => ("TensorForge$Run", "reaches", "[LTensorForge$Reaches;", true)
  | 8 => ("TensorForge$Run", "candidate", "LTensorForge$Reaches;", false)
  | _ => ("TensorForge$Run", "count", "I", false)
def t_Run : Nat → FieldType := fun k => match k with
  | 0 => .object "TensorForge$Machine"
  | 1 => .array .int
  | 2 => .array .long
  | 3 => .array .int
  | 4 => .array .int
  | 5 => .array .int
  | 6 => .array .int
  | 7 => .array (.object "TensorForge$Reaches")
  | 8 => .object "TensorForge$Reaches"
  | _ => .int
theorem n_Run : ∀ a, a < 10 → ∀ b, b < 10 → a ≠ b → (F_Run a).2.1 ≠ (F_Run b).2.1 := by decide +kernel
theorem t_Run_ok : ∀ k, k < 10 → parseFieldDescriptor (F_Run k).2.2.1 = some (t_Run k) := by decide +kernel
theorem i_Run : ∀ w ∈ u_ws R_Run F_Run 10, w ∈ mm_tb := mm_tb_in _ [254, 256, 258, 260, 262, 264, 266, 268, 270, 272] (by decide +kernel) (by decide +kernel)
def R_Text : String := "TensorForge$Text"
def F_Text : u_T := fun k => match k with
  | 0 => ("TensorForge$Text", "signs", "[C", true)
  | 1 => ("TensorForge$Text", "count", "I", false)
  | 2 => ("TensorForge$Text", "lineEnd", "I", false)
  | 3 => ("TensorForge$Text", "at", "I", false)
  | 4 => ("TensorForge$Text", "sort", "I", false)
  | 5 => ("TensorForge$Text", "from", "I", false)
  | _ => ("TensorForge$Text", "number", "I", false)
def t_Text : Nat → FieldType := fun k => match k with
  | 0 => .array .char
  | 1 => .int
  | 2 => .int
  | 3 => .int
  | 4 => .int
  | 5 => .int
  | _ => .int
theorem n_Text : ∀ a, a < 7 → ∀ b, b < 7 → a ≠ b → (F_Text a).2.1 ≠ (F_Text b).2.1 := by decide +kernel
theorem t_Text_ok : ∀ k, k < 7 → parseFieldDescriptor (F_Text k).2.2.1 = some (t_Text k) := by decide +kernel
theorem i_Text : ∀ w ∈ u_ws R_Text F_Text 7, w ∈ mm_tb := mm_tb_in _ [298, 300, 302, 304, 306, 308, 310] (by decide +kernel) (by decide +kernel)
def R_Assembler : String := "TensorForge$Assembler"
def F_Assembler : u_T := fun k => match k with
  | 0 => ("TensorForge$Assembler", "text", "LTensorForge$Text;", true)
  | 1 => ("TensorForge$Assembler", "made", "I", false)
  | 2 => ("TensorForge$Assembler", "built", "J", false)
  | _ => ("TensorForge$Assembler", "seen", "I", false)
def t_Assembler : Nat → FieldType := fun k => match k with
  | 0 => .object "TensorForge$Text"
  | 1 => .int
  | 2 => .long
  | _ => .int
theorem n_Assembler : ∀ a, a < 4 → ∀ b, b < 4 → a ≠ b → (F_Assembler a).2.1 ≠ (F_Assembler b).2.1 := by decide +kernel
theorem t_Assembler_ok : ∀ k, k < 4 → parseFieldDescriptor (F_Assembler k).2.2.1 = some (t_Assembler k) := by decide +kernel
theorem i_Assembler : ∀ w ∈ u_ws R_Assembler F_Assembler 4, w ∈ mm_tb := mm_tb_in _ [325, 327, 329, 331] (by decide +kernel) (by decide +kernel)
def R_NetworkReader : String := "TensorForge$NetworkReader"
def F_NetworkReader : u_T := fun k => match k with
  | 0 => ("TensorForge$NetworkReader", "text", "LTensorForge$Text;", true)
  | 1 => ("TensorForge$NetworkReader", "net", "LTensorForge$Network;", false)
  | 2 => ("TensorForge$NetworkReader", "nameFrom", "[I", true)
  | 3 => ("TensorForge$NetworkReader", "nameSize", "[I", true)
  | 4 => ("TensorForge$NetworkReader", "lineNameFrom", "I", false)
  | 5 => ("TensorForge$NetworkReader", "lineNameSize", "I", false)
  | 6 => ("TensorForge$NetworkReader", "allowed", "I", false)
  | 7 => ("TensorForge$NetworkReader", "needed", "I", false)
  | _ => ("TensorForge$NetworkReader", "seen", "I", false)
def t_NetworkReader : Nat → FieldType := fun k => match k with
  | 0 => .object "TensorForge$Text"
  | 1 => .object "TensorForge$Network"
  | 2 => .array .int
  | 3 => .array .int
  | 4 => .int
  | 5 => .int
  | 6 => .int
  | 7 => .int
  | _ => .int
theorem n_NetworkReader : ∀ a, a < 9 → ∀ b, b < 9 → a ≠ b → (F_NetworkReader a).2.1 ≠ (F_NetworkReader b).2.1 := by decide +kernel
theorem t_NetworkReader_ok : ∀ k, k < 9 → parseFieldDescriptor (F_NetworkReader k).2.2.1 = some (t_NetworkReader k) := by decide +kernel
theorem i_NetworkReader : ∀ w ∈ u_ws R_NetworkReader F_NetworkReader 9, w ∈ mm_tb := mm_tb_in _ [349, 351, 353, 355, 357, 359, 361, 363, 365] (by decide +kernel) (by decide +kernel)
def R_Compiler : String := "TensorForge$Compiler"
def F_Compiler : u_T := fun k => match k with
  | 0 => ("TensorForge$Compiler", "words", "[J", false)
  | 1 => ("TensorForge$Compiler", "made", "I", false)
  | 2 => ("TensorForge$Compiler", "side", "I", false)
  | 3 => ("TensorForge$Compiler", "layer", "LTensorForge$Layer;", false)
  | 4 => ("TensorForge$Compiler", "first", "LTensorForge$Layer;", false)
  | 5 => ("TensorForge$Compiler", "second", "LTensorForge$Layer;", false)
  | 6 => ("TensorForge$Compiler", "tile", "I", false)
  | 7 => ("TensorForge$Compiler", "channel", "I", false)
  | 8 => ("TensorForge$Compiler", "columns", "I", false)
  | 9 => ("TensorForge$Compiler", "row", "I", false)
  | 10 => ("TensorForge$Compiler", "start", "I", false)
  | 11 => ("TensorForge$Compiler", "places", "I", false)
  | 12 => ("TensorForge$Compiler", "group", "I", false)
  | 13 => ("TensorForge$Compiler", "kernelRow", "I", false)
  | 14 => ("TensorForge$Compiler", "kernelColumn", "I", false)
  | 15 => ("TensorForge$Compiler", "block", "I", false)
  | _ => ("TensorForge$Compiler", "depth", "I", false)
def t_Compiler : Nat → FieldType := fun k => match k with
  | 0 => .array .long
  | 1 => .int
  | 2 => .int
  | 3 => .object "TensorForge$Layer"
  | 4 => .object "TensorForge$Layer"
  | 5 => .object "TensorForge$Layer"
  | 6 => .int
  | 7 => .int
  | 8 => .int
  | 9 => .int
  | 10 => .int
  | 11 => .int
  | 12 => .int
  | 13 => .int
  | 14 => .int
  | 15 => .int
  | _ => .int
theorem n_Compiler : ∀ a, a < 17 → ∀ b, b < 17 → a ≠ b → (F_Compiler a).2.1 ≠ (F_Compiler b).2.1 := by decide +kernel
theorem t_Compiler_ok : ∀ k, k < 17 → parseFieldDescriptor (F_Compiler k).2.2.1 = some (t_Compiler k) := by decide +kernel
theorem i_Compiler : ∀ w ∈ u_ws R_Compiler F_Compiler 17, w ∈ mm_tb := mm_tb_in _ [392, 394, 396, 398, 400, 402, 404, 406, 408, 410, 412, 414, 416, 418, 420, 422, 424] (by decide +kernel) (by decide +kernel)
def R_Line : String := "TensorForge$Line"
def F_Line : u_T := fun k => match k with
  | 0 => ("TensorForge$Line", "signs", "[C", true)
  | _ => ("TensorForge$Line", "count", "I", false)
def t_Line : Nat → FieldType := fun k => match k with
  | 0 => .array .char
  | _ => .int
theorem n_Line : ∀ a, a < 2 → ∀ b, b < 2 → a ≠ b → (F_Line a).2.1 ≠ (F_Line b).2.1 := by decide +kernel
theorem t_Line_ok : ∀ k, k < 2 → parseFieldDescriptor (F_Line k).2.2.1 = some (t_Line k) := by decide +kernel
theorem i_Line : ∀ w ∈ u_ws R_Line F_Line 2, w ∈ mm_tb := mm_tb_in _ [435, 437] (by decide +kernel) (by decide +kernel)
def R_Md : String := "TensorForgeModel"
def F_Md : u_T := fun k => match k with
  | 0 => ("TensorForgeModel", "thrown", "I", false)
  | 1 => ("TensorForgeModel", "side", "I", false)
  | 2 => ("TensorForgeModel", "memory", "[I", true)
  | 3 => ("TensorForgeModel", "cells", "[I", true)
  | 4 => ("TensorForgeModel", "weights", "[I", true)
  | 5 => ("TensorForgeModel", "sums", "[I", true)
  | 6 => ("TensorForgeModel", "results", "[I", true)
  | 7 => ("TensorForgeModel", "length", "I", false)
  | 8 => ("TensorForgeModel", "words", "[J", true)
  | 9 => ("TensorForgeModel", "made", "[J", true)
  | 10 => ("TensorForgeModel", "makes", "I", false)
  | 11 => ("TensorForgeModel", "field", "[I", true)
  | 12 => ("TensorForgeModel", "reads", "[I", true)
  | 13 => ("TensorForgeModel", "writes", "[I", true)
  | 14 => ("TensorForgeModel", "stopped", "I", false)
  | 15 => ("TensorForgeModel", "culprit", "I", false)
  | 16 => ("TensorForgeModel", "stopCycle", "I", false)
  | 17 => ("TensorForgeModel", "worked", "[I", true)
  | 18 => ("TensorForgeModel", "tokens", "[I", true)
  | 19 => ("TensorForgeModel", "ran", "I", false)
  | 20 => ("TensorForgeModel", "units", "[I", true)
  | 21 => ("TensorForgeModel", "begins", "[I", true)
  | 22 => ("TensorForgeModel", "ends", "[I", true)
  | 23 => ("TensorForgeModel", "pushed", "[Z", true)
  | 24 => ("TensorForgeModel", "flags", "[I", true)
  | 25 => ("TensorForgeModel", "under", "[I", true)
  | 26 => ("TensorForgeModel", "next", "[I", true)
  | 27 => ("TensorForgeModel", "signs", "[I", true)
  | 28 => ("TensorForgeModel", "size", "I", false)
  | 29 => ("TensorForgeModel", "names", "[J", true)
  | 30 => ("TensorForgeModel", "token", "I", false)
  | 31 => ("TensorForgeModel", "tokenValue", "I", false)
  | 32 => ("TensorForgeModel", "at", "I", false)
  | 33 => ("TensorForgeModel", "lineEnd", "I", false)
  | 34 => ("TensorForgeModel", "listed", "I", false)
  | 35 => ("TensorForgeModel", "list", "[I", true)
  | 36 => ("TensorForgeModel", "tensors", "I", false)
  | 37 => ("TensorForgeModel", "heights", "[I", true)
  | 38 => ("TensorForgeModel", "widths", "[I", true)
  | 39 => ("TensorForgeModel", "channels", "[I", true)
  | 40 => ("TensorForgeModel", "froms", "[I", true)
  | 41 => ("TensorForgeModel", "kinds", "[I", true)
  | 42 => ("TensorForgeModel", "ones", "[I", true)
  | 43 => ("TensorForgeModel", "twos", "[I", true)
  | 44 => ("TensorForgeModel", "kernelRows", "[I", true)
  | 45 => ("TensorForgeModel", "kernelColumns", "[I", true)
  | 46 => ("TensorForgeModel", "steps", "[I", true)
  | 47 => ("TensorForgeModel", "edges", "[I", true)
  | 48 => ("TensorForgeModel", "shifts", "[I", true)
  | 49 => ("TensorForgeModel", "parameters", "[I", true)
  | 50 => ("TensorForgeModel", "tiles", "I", false)
  | 51 => ("TensorForgeModel", "groups", "I", false)
  | 52 => ("TensorForgeModel", "places", "I", false)
  | 53 => ("TensorForgeModel", "wide", "I", false)
  | 54 => ("TensorForgeModel", "firstPlace", "I", false)
  | 55 => ("TensorForgeModel", "tileRow", "I", false)
  | 56 => ("TensorForgeModel", "firstChannel", "I", false)
  | 57 => ("TensorForgeModel", "loads", "I", false)
  | 58 => ("TensorForgeModel", "ownReads", "[I", true)
  | 59 => ("TensorForgeModel", "ownWrites", "[I", true)
  | 60 => ("TensorForgeModel", "loadsLeft", "I", false)
  | 61 => ("TensorForgeModel", "wordCode", "J", false)
  | 62 => ("TensorForgeModel", "tensorNames", "[J", true)
  | 63 => ("TensorForgeModel", "told", "[I", true)
  | 64 => ("TensorForgeModel", "toldName", "J", false)
  | 65 => ("TensorForgeModel", "toldBits", "I", false)
  | 66 => ("TensorForgeModel", "keptTensors", "I", false)
  | 67 => ("TensorForgeModel", "kept", "[I", true)
  | _ => ("TensorForgeModel", "placesBefore", "[I", true)
def t_Md : Nat → FieldType := fun k => match k with
  | 0 => .int
  | 1 => .int
  | 2 => .array .int
  | 3 => .array .int
  | 4 => .array .int
  | 5 => .array .int
  | 6 => .array .int
  | 7 => .int
  | 8 => .array .long
  | 9 => .array .long
  | 10 => .int
  | 11 => .array .int
  | 12 => .array .int
  | 13 => .array .int
  | 14 => .int
  | 15 => .int
  | 16 => .int
  | 17 => .array .int
  | 18 => .array .int
  | 19 => .int
  | 20 => .array .int
  | 21 => .array .int
  | 22 => .array .int
  | 23 => .array .boolean
  | 24 => .array .int
  | 25 => .array .int
  | 26 => .array .int
  | 27 => .array .int
  | 28 => .int
  | 29 => .array .long
  | 30 => .int
  | 31 => .int
  | 32 => .int
  | 33 => .int
  | 34 => .int
  | 35 => .array .int
  | 36 => .int
  | 37 => .array .int
  | 38 => .array .int
  | 39 => .array .int
  | 40 => .array .int
  | 41 => .array .int
  | 42 => .array .int
  | 43 => .array .int
  | 44 => .array .int
  | 45 => .array .int
  | 46 => .array .int
  | 47 => .array .int
  | 48 => .array .int
  | 49 => .array .int
  | 50 => .int
  | 51 => .int
  | 52 => .int
  | 53 => .int
  | 54 => .int
  | 55 => .int
  | 56 => .int
  | 57 => .int
  | 58 => .array .int
  | 59 => .array .int
  | 60 => .int
  | 61 => .long
  | 62 => .array .long
  | 63 => .array .int
  | 64 => .long
  | 65 => .int
  | 66 => .int
  | 67 => .array .int
  | _ => .array .int
theorem n_Md : ∀ a, a < 69 → ∀ b, b < 69 → a ≠ b → (F_Md a).2.1 ≠ (F_Md b).2.1 := by decide +kernel
theorem t_Md_ok : ∀ k, k < 69 → parseFieldDescriptor (F_Md k).2.2.1 = some (t_Md k) := by decide +kernel
theorem i_Md : ∀ w ∈ u_ws R_Md F_Md 69, w ∈ mm_tb := mm_tb_in _ [1680, 1682, 1684, 1686, 1688, 1690, 1692, 1694, 1696, 1698, 1700, 1702, 1704, 1706, 1708, 1710, 1712, 1714, 1716, 1718, 1720, 1722, 1724, 1726, 1728, 1730, 1732, 1734, 1736, 1738, 1740, 1742, 1744, 1746, 1748, 1750, 1752, 1754, 1756, 1758, 1760, 1762, 1764, 1766, 1768, 1770, 1772, 1774, 1776, 1778, 1780, 1782, 1784, 1786, 1788, 1790, 1792, 1794, 1796, 1798, 1800, 1802, 1804, 1806, 1808, 1810, 1812, 1814, 1816] (by decide +kernel) (by decide +kernel)
abbrev mm_cl : List vw_C := [(R_TF, F_TF, 12), (R_Network, F_Network, 2), (R_Layer, F_Layer, 15), (R_Machine, F_Machine, 14), (R_Reaches, F_Reaches, 4), (R_Run, F_Run, 10), (R_Text, F_Text, 7), (R_Assembler, F_Assembler, 4), (R_NetworkReader, F_NetworkReader, 9), (R_Compiler, F_Compiler, 17), (R_Line, F_Line, 2), (R_Md, F_Md, 69)]
-- class 0: TensorForge
-- class 1: TensorForge$Network
-- class 2: TensorForge$Layer
-- class 3: TensorForge$Machine
-- class 4: TensorForge$Reaches
-- class 5: TensorForge$Run
-- class 6: TensorForge$Text
-- class 7: TensorForge$Assembler
-- class 8: TensorForge$NetworkReader
-- class 9: TensorForge$Compiler
-- class 10: TensorForge$Line
-- class 11: TensorForgeModel
abbrev mm_ty : List FieldType := [.object "TensorForge$Layer", .long, .byte, .int, .object "TensorForge$Reaches", .char, .boolean]
end
section
/-! A heap of places: our own cells are numbered from 1000 on in the order in which they are made, cells that were there before have numbers below 1000; a cell's references are such numbers. -/
abbrev mm_E : Type := (Nat × vp_A) ⊕ (Nat × List Value)
abbrev mm_M : Type := Nat → Option mm_E
/-- classes and slots; array classes by the number of their type; where our cells begin; the addresses of the old cells -/
abbrev mm_G : Type := va_G × (Nat → ClassId) × Nat × (Nat → Nat)
def mm_ad (g : mm_G) (a : Nat) : Nat := if a < 1000 then g.2.2.2 a else g.2.2.1 + (a - 1000)
def mm_tr (g : mm_G) (v : Value) : Value := match v with
  | .ref a => .ref (mm_ad g a)
  | v => v
def mm_trA (g : mm_G) (x : vp_A) : vp_A := match x with
  | (n, .inr (.inr (.inr (.inr f)))) => (n, .inr (.inr (.inr (.inr (fun i => (f i).map (mm_ad g))))))
  | x => x
def mm_trE (g : mm_G) (e : mm_E) : va_E := match e with
  | .inl (t, x) => .inl (g.2.1 t, mm_trA g x)
  | .inr (ci, fs) => .inr (ci, fs.map (mm_tr g))
def mm_up (M : mm_M) (a : Nat) (e : mm_E) : mm_M := fun b => if b = a then some e else M b
theorem mm_up_s {M : mm_M} {a : Nat} {e : mm_E} : mm_up M a e a = some e := by simp [mm_up]
theorem mm_up_n {M : mm_M} {a b : Nat} {e : mm_E} (h : b ≠ a) : mm_up M a e b = M b := by simp [mm_up, h]
theorem mm_ad_lt {g : mm_G} {a b : Nat} (ha : 1000 ≤ a) (h : a < b) : mm_ad g a < mm_ad g b := by
  unfold mm_ad
  rw [if_neg (by omega), if_neg (by omega)]
  omega
theorem mm_ad_inj {g : mm_G} {a b : Nat} (ha : 1000 ≤ a) (hb : 1000 ≤ b) (h : mm_ad g a = mm_ad g b) : a = b := by
  rcases Nat.lt_trichotomy a b with q | q | q
  · have := mm_ad_lt (g := g) ha q
    omega
  · exact q
  · have := mm_ad_lt (g := g) hb q
    omega
/-- the heap holds the cells: all that were made so far, in their order (some of them of no interest) -/
def mm_H (g : mm_G) (M : mm_M) (n : Nat) (H : Heap) : Prop := 1000 ≤ n ∧ H.size + 1000 = g.2.2.1 + n ∧ ∀ (a : Nat) (e : mm_E), M a = some e → 1000 ≤ a ∧ a < n ∧ va_at g.1 mm_cl (mm_ad g a, mm_trE g e) H
def mm_A (g : mm_G) : Nat → Prop := fun q => g.2.2.1 ≤ q
theorem mm_ad_A {g : mm_G} {a : Nat} (h : 1000 ≤ a) : mm_A g (mm_ad g a) := by
  unfold mm_A mm_ad
  rw [if_neg (by omega)]
  omega
theorem mm_one {D : va_G} {cl : List vw_C} {q : Nat × va_E} {H : Heap} (h : va_at D cl q H) : va_P D cl [q] H := by
  intro k r hk
  cases k with
  | zero => cases hk; exact h
  | succ k => simp at hk
theorem mm_H.P {g : mm_G} {M : mm_M} {n : Nat} {H : Heap} (h : mm_H g M n H) {a : Nat} {e : mm_E} (hm : M a = some e) : va_P g.1 mm_cl [(mm_ad g a, mm_trE g e)] H := mm_one (h.2.2 a e hm).2.2
/-- behind a write of one cell -/
theorem mm_H.set {g : mm_G} {M : mm_M} {n : Nat} {H H1 : Heap} (h : mm_H g M n H) {a : Nat} {e e1 : mm_E} (hm : M a = some e) (hz : H1.size = H.size) (ho : ∀ q : Nat, q ≠ mm_ad g a → H1[q]? = H[q]?) (hP : va_at g.1 mm_cl (mm_ad g a, mm_trE g e1) H1) : mm_H g (mm_up M a e1) n H1 := by
  refine ⟨h.1, by rw [hz]; exact h.2.1, fun b f hb => ?_⟩
  by_cases q : b = a
  · subst q
    rw [mm_up_s] at hb
    cases hb
    exact ⟨(h.2.2 b e hm).1, (h.2.2 b e hm).2.1, hP⟩
  · rw [mm_up_n q] at hb
    obtain ⟨h1, h2, h3⟩ := h.2.2 b f hb
    exact ⟨h1, h2, h3.kept (ho _ (fun z => q (mm_ad_inj h1 (h.2.2 a e hm).1 z)))⟩
theorem mm_H.end {g : mm_G} {M : mm_M} {n : Nat} {H : Heap} (h : mm_H g M n H) : mm_ad g n = H.size := by
  unfold mm_ad
  have h1 := h.1
  have h2 := h.2.1
  rw [if_neg (by omega)]
  omega
/-- behind a new cell -/
theorem mm_H.push {g : mm_G} {M : mm_M} {n : Nat} {H H1 : Heap} (h : mm_H g M n H) {e1 : mm_E} (hz : H1.size = H.size + 1) (ho : ∀ q : Nat, q < H.size → H1[q]? = H[q]?) (hP : va_at g.1 mm_cl (mm_ad g n, mm_trE g e1) H1) : mm_H g (mm_up M n e1) (n + 1) H1 := by
  have h1 := h.1
  have h2 := h.2.1
  refine ⟨by omega, by omega, fun b f hb => ?_⟩
  by_cases z : b = n
  · subst z
    rw [mm_up_s] at hb
    cases hb
    exact ⟨h1, by omega, hP⟩
  · rw [mm_up_n z] at hb
    obtain ⟨q1, q2, q3⟩ := h.2.2 b f hb
    exact ⟨q1, by omega, q3.kept (ho _ q3.lt)⟩
/-- cells of no interest come -/
theorem mm_H.more {g : mm_G} {M : mm_M} {n k : Nat} {H H1 : Heap} (h : mm_H g M n H) (hz : H1.size = H.size + k) (ho : ∀ q : Nat, q < H.size → H1[q]? = H[q]?) : mm_H g M (n + k) H1 := by
  have h1 := h.1
  have h2 := h.2.1
  refine ⟨by omega, by omega, fun b f hb => ?_⟩
  obtain ⟨q1, q2, q3⟩ := h.2.2 b f hb
  exact ⟨q1, by omega, q3.kept (ho _ q3.lt)⟩
/-- the locals: what is known of them -/
def mm_lg : List (Option Value) → Nat → Option Value
  | [], _ => none
  | a :: _, 0 => a
  | _ :: l, i + 1 => mm_lg l i
def mm_lset : List (Option Value) → Nat → Option Value → List (Option Value)
  | [], 0, v => [v]
  | [], i + 1, v => none :: mm_lset [] i v
  | _ :: l, 0, v => v :: l
  | a :: l, i + 1, v => a :: mm_lset l i v
theorem mm_lg_set : ∀ (l : List (Option Value)) (i : Nat) (v : Option Value) (j : Nat), mm_lg (mm_lset l i v) j = if j = i then v else mm_lg l j
  | [], 0, v, 0 => rfl
  | [], 0, v, j + 1 => rfl
  | [], i + 1, v, 0 => rfl
  | [], i + 1, v, j + 1 => by
    show mm_lg (mm_lset [] i v) j = _
    rw [mm_lg_set [] i v j]
    by_cases h : j = i
    · rw [if_pos h, if_pos (by omega)]
    · rw [if_neg h, if_neg (by omega)]; rfl
  | a :: l, 0, v, 0 => rfl
  | a :: l, 0, v, j + 1 => rfl
  | a :: l, i + 1, v, 0 => rfl
  | a :: l, i + 1, v, j + 1 => by
    show mm_lg (mm_lset l i v) j = _
    rw [mm_lg_set l i v j]
    by_cases h : j = i
    · rw [if_pos h, if_pos (by omega)]
    · rw [if_neg h, if_neg (by omega)]; rfl
/-- a value of two words is lost when its second word is written -/
def mm_c2 (o : Option Value) : Option Value := match o with
  | some (.long _) => none
  | some (.double _) => none
  | o => o
theorem mm_c2_of {o : Option Value} {v : Value} (h : mm_c2 o = some v) : o = some v ∧ ¬ v.category = 2 := by
  cases o with
  | none => cases h
  | some w => cases w <;> first | (cases h; done) | (cases h; exact ⟨rfl, by simp [Value.category]⟩)
def mm_st1 (ls : List (Option Value)) (i : Nat) (v : Value) : List (Option Value) := match i with
  | 0 => mm_lset ls 0 (some v)
  | i + 1 => mm_lset (mm_lset ls i (mm_c2 (mm_lg ls i))) (i + 1) (some v)
def mm_st2 (ls : List (Option Value)) (i : Nat) (v : Value) : List (Option Value) := mm_lset (mm_st1 ls i v) (i + 1) none
theorem mm_st1_of {ls : List (Option Value)} {i j : Nat} {v w : Value} (h : mm_lg (mm_st1 ls i v) j = some w) : (j = i ∧ w = v) ∨ (j ≠ i ∧ mm_lg ls j = some w ∧ ¬ (j + 1 = i ∧ w.category = 2)) := by
  cases i with
  | zero =>
    simp only [mm_st1, mm_lg_set] at h
    by_cases q : j = 0
    · rw [if_pos q] at h
      exact Or.inl ⟨q, (Option.some.inj h).symm⟩
    · rw [if_neg q] at h
      exact Or.inr ⟨q, h, fun z => by omega⟩
  | succ i =>
    simp only [mm_st1, mm_lg_set] at h
    by_cases q : j = i + 1
    · rw [if_pos q] at h
      exact Or.inl ⟨q, (Option.some.inj h).symm⟩
    · rw [if_neg q] at h
      by_cases q2 : j = i
      · rw [if_pos q2] at h
        obtain ⟨h1, h2⟩ := mm_c2_of h
        subst q2
        exact Or.inr ⟨q, h1, fun z => h2 z.2⟩
      · rw [if_neg q2] at h
        exact Or.inr ⟨q, h, fun z => by omega⟩
theorem mm_st2_of {ls : List (Option Value)} {i j : Nat} {v w : Value} (h : mm_lg (mm_st2 ls i v) j = some w) : (j = i ∧ w = v) ∨ (j ≠ i ∧ j ≠ i + 1 ∧ mm_lg ls j = some w ∧ ¬ (j + 1 = i ∧ w.category = 2)) := by
  simp only [mm_st2, mm_lg_set] at h
  by_cases q : j = i + 1
  · rw [if_pos q] at h; cases h
  · rw [if_neg q] at h
    rcases mm_st1_of h with h | ⟨h1, h2, h3⟩
    · exact Or.inl h
    · exact Or.inr ⟨h1, q, h2, h3⟩
theorem mm_tr_cat (g : mm_G) (v : Value) : (mm_tr g v).category = v.category := by cases v <;> rfl
def mm_L (g : mm_G) (nL : Nat) (ls : List (Option Value)) (lsM : Array Slot) : Prop := lsM.size = nL ∧ lv_wf lsM ∧ ∀ (i : Nat) (v : Value), mm_lg ls i = some v → lsM[i]? = some (.val (mm_tr g v))
def mm_kn (g : mm_G) (nL : Nat) (ls : List (Option Value)) : List (Nat × Value) := (List.range nL).filterMap (fun i => (mm_lg ls i).map (fun v => (i, mm_tr g v)))
theorem mm_kn_mem {g : mm_G} {nL : Nat} {ls : List (Option Value)} {q : Nat × Value} : q ∈ mm_kn g nL ls ↔ ∃ i v, i < nL ∧ mm_lg ls i = some v ∧ q = (i, mm_tr g v) := by
  unfold mm_kn
  rw [List.mem_filterMap]
  constructor
  · rintro ⟨a, ha, h⟩
    cases hm : mm_lg ls a with
    | none => rw [hm] at h; cases h
    | some e => rw [hm] at h; exact ⟨a, e, List.mem_range.mp ha, hm, (Option.some.inj h).symm⟩
  · rintro ⟨a, e, ha, hm, rfl⟩
    exact ⟨a, List.mem_range.mpr ha, by rw [hm]; rfl⟩
theorem mm_L.has {g : mm_G} {nL : Nat} {ls : List (Option Value)} {lsM : Array Slot} (h : mm_L g nL ls lsM) : lv_has lsM nL (mm_kn g nL ls) := by
  refine ⟨h.1, h.2.1, fun q hq => ?_⟩
  obtain ⟨i, v, -, hv, rfl⟩ := mm_kn_mem.mp hq
  exact h.2.2 i v hv
theorem mm_L.lt {g : mm_G} {nL : Nat} {ls : List (Option Value)} {lsM : Array Slot} (h : mm_L g nL ls lsM) {i : Nat} {v : Value} (hv : mm_lg ls i = some v) : i < nL := by
  have := lv_lt (h.2.2 i v hv)
  rw [h.1] at this
  exact this
theorem mm_L.st1 {g : mm_G} {nL i : Nat} {ls : List (Option Value)} {lsM ls1 : Array Slot} {v : Value} (h : mm_L g nL ls lsM) (h1 : lv_has ls1 nL ((i, mm_tr g v) :: (mm_kn g nL ls).filter (fun q => !(q.1 == i) && !(q.1 + 1 == i && q.2.category == 2)))) : mm_L g nL (mm_st1 ls i v) ls1 := by
  refine ⟨h1.1, h1.2.1, fun j w hw => ?_⟩
  rcases mm_st1_of hw with ⟨rfl, rfl⟩ | ⟨q1, q2, q3⟩
  · exact h1.2.2 (j, mm_tr g w) List.mem_cons_self
  · refine h1.2.2 (j, mm_tr g w) (List.mem_cons_of_mem _ (List.mem_filter.mpr ⟨mm_kn_mem.mpr ⟨j, w, h.lt q2, q2, rfl⟩, ?_⟩))
    simp only [Bool.and_eq_true, Bool.not_eq_true', beq_eq_false_iff_ne, ne_eq, Bool.and_eq_false_iff, mm_tr_cat]
    refine ⟨q1, ?_⟩
    by_cases z : j + 1 = i
    · exact Or.inr (fun z2 => q3 ⟨z, z2⟩)
    · exact Or.inl z
theorem mm_L.st2 {g : mm_G} {nL i : Nat} {ls : List (Option Value)} {lsM ls1 : Array Slot} {v : Value} (h : mm_L g nL ls lsM) (h1 : lv_has ls1 nL ((i, mm_tr g v) :: (mm_kn g nL ls).filter (fun q => !(q.1 == i) && (!(q.1 == i + 1) && !(q.1 + 1 == i && q.2.category == 2))))) : mm_L g nL (mm_st2 ls i v) ls1 := by
  refine ⟨h1.1, h1.2.1, fun j w hw => ?_⟩
  rcases mm_st2_of hw with ⟨rfl, rfl⟩ | ⟨q1, q2, q3, q4⟩
  · exact h1.2.2 (j, mm_tr g w) List.mem_cons_self
  · refine h1.2.2 (j, mm_tr g w) (List.mem_cons_of_mem _ (List.mem_filter.mpr ⟨mm_kn_mem.mpr ⟨j, w, h.lt q3, q3, rfl⟩, ?_⟩))
    simp only [Bool.and_eq_true, Bool.not_eq_true', beq_eq_false_iff_ne, ne_eq, Bool.and_eq_false_iff, mm_tr_cat]
    refine ⟨q1, q2, ?_⟩
    by_cases z : j + 1 = i
    · exact Or.inr (fun z2 => q4 ⟨z, z2⟩)
    · exact Or.inl z
theorem mm_L.less {g : mm_G} {nL : Nat} {ls ls1 : List (Option Value)} {lsM : Array Slot} (h : mm_L g nL ls lsM) (hs : ∀ (i : Nat) (v : Value), mm_lg ls1 i = some v → mm_lg ls i = some v) : mm_L g nL ls1 lsM := ⟨h.1, h.2.1, fun i v hv => h.2.2 i v (hs i v hv)⟩
end
