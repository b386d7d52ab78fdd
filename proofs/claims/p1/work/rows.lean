section
-- ===== PART A: goes FIRST, ahead of the names: the tables' words, and 'selects' of the private methods out of them =====
/-- a private method of a class that the tables say can be made, by its rows of tables_1 -/
def lw_okq (q : MethodName × Nat) : Prop := (q.1.cls ≠ "java/lang/invoke/MethodHandle" ∧ q.1.cls ≠ "java/lang/invoke/VarHandle") ∧ Cond.instantiable q.1.cls q.2 ∈ tables_1 ∧ Cond.privateMethod q.1 ∈ tables_1 ∧ Cond.instanceMethod q.1 ∈ tables_1
theorem lw_p0 : lw_okq (⟨"NoiseFields", "beginFarm", "(LNoiseFields$Farm;)V"⟩, 15) := ⟨⟨by decide +kernel, by decide +kernel⟩, List.mem_of_getElem? (i := 28) (by decide +kernel), List.mem_of_getElem? (i := 460) (by decide +kernel), List.mem_of_getElem? (i := 461) (by decide +kernel)⟩
theorem lw_p1 : lw_okq (⟨"NoiseFields", "worksKept", "()I"⟩, 15) := ⟨⟨by decide +kernel, by decide +kernel⟩, List.mem_of_getElem? (i := 28) (by decide +kernel), List.mem_of_getElem? (i := 555) (by decide +kernel), List.mem_of_getElem? (i := 556) (by decide +kernel)⟩
theorem lw_p2 : lw_okq (⟨"NoiseFields$Breeding", "add", "(II)V"⟩, 6) := ⟨⟨by decide +kernel, by decide +kernel⟩, List.mem_of_getElem? (i := 224) (by decide +kernel), List.mem_of_getElem? (i := 586) (by decide +kernel), List.mem_of_getElem? (i := 587) (by decide +kernel)⟩
theorem lw_p3 : lw_okq (⟨"NoiseFields$Breeding", "crossAll", "(III)V"⟩, 6) := ⟨⟨by decide +kernel, by decide +kernel⟩, List.mem_of_getElem? (i := 224) (by decide +kernel), List.mem_of_getElem? (i := 590) (by decide +kernel), List.mem_of_getElem? (i := 591) (by decide +kernel)⟩
theorem lw_p4 : lw_okq (⟨"NoiseFields", "imagesKept", "()I"⟩, 15) := ⟨⟨by decide +kernel, by decide +kernel⟩, List.mem_of_getElem? (i := 28) (by decide +kernel), List.mem_of_getElem? (i := 602) (by decide +kernel), List.mem_of_getElem? (i := 603) (by decide +kernel)⟩
theorem lw_p5 : lw_okq (⟨"NoiseFields", "needLength", "(II)V"⟩, 15) := ⟨⟨by decide +kernel, by decide +kernel⟩, List.mem_of_getElem? (i := 28) (by decide +kernel), List.mem_of_getElem? (i := 677) (by decide +kernel), List.mem_of_getElem? (i := 678) (by decide +kernel)⟩
theorem lw_p6 : lw_okq (⟨"NoiseFields", "needBetween", "(III)V"⟩, 15) := ⟨⟨by decide +kernel, by decide +kernel⟩, List.mem_of_getElem? (i := 28) (by decide +kernel), List.mem_of_getElem? (i := 682) (by decide +kernel), List.mem_of_getElem? (i := 683) (by decide +kernel)⟩
theorem lw_p7 : lw_okq (⟨"NoiseFields", "refuseWrong", "()V"⟩, 15) := ⟨⟨by decide +kernel, by decide +kernel⟩, List.mem_of_getElem? (i := 28) (by decide +kernel), List.mem_of_getElem? (i := 686) (by decide +kernel), List.mem_of_getElem? (i := 687) (by decide +kernel)⟩
theorem lw_p8 : lw_okq (⟨"java/lang/Throwable", "fillInStackTrace", "(I)Ljava/lang/Throwable;"⟩, 6) := ⟨⟨by decide +kernel, by decide +kernel⟩, List.mem_of_getElem? (i := 727) (by decide +kernel), List.mem_of_getElem? (i := 725) (by decide +kernel), List.mem_of_getElem? (i := 726) (by decide +kernel)⟩
theorem lw_p9 : lw_okq (⟨"NoiseFields$Tape", "skipBlanks", "()V"⟩, 9) := ⟨⟨by decide +kernel, by decide +kernel⟩, List.mem_of_getElem? (i := 36) (by decide +kernel), List.mem_of_getElem? (i := 768) (by decide +kernel), List.mem_of_getElem? (i := 769) (by decide +kernel)⟩
theorem lw_p10 : lw_okq (⟨"NoiseFields$Farm", "isFull", "(I)Z"⟩, 16) := ⟨⟨by decide +kernel, by decide +kernel⟩, List.mem_of_getElem? (i := 370) (by decide +kernel), List.mem_of_getElem? (i := 842) (by decide +kernel), List.mem_of_getElem? (i := 843) (by decide +kernel)⟩
theorem lw_p11 : lw_okq (⟨"NoiseFields$Farm", "readClause", "(LNoiseFields$Tape;I)V"⟩, 16) := ⟨⟨by decide +kernel, by decide +kernel⟩, List.mem_of_getElem? (i := 370) (by decide +kernel), List.mem_of_getElem? (i := 846) (by decide +kernel), List.mem_of_getElem? (i := 847) (by decide +kernel)⟩
theorem lw_p12 : lw_okq (⟨"NoiseFields$Law", "readSum", "(LNoiseFields$Tape;I)V"⟩, 6) := ⟨⟨by decide +kernel, by decide +kernel⟩, List.mem_of_getElem? (i := 81) (by decide +kernel), List.mem_of_getElem? (i := 879) (by decide +kernel), List.mem_of_getElem? (i := 880) (by decide +kernel)⟩
theorem lw_p13 : lw_okq (⟨"NoiseFields$Law", "readProduct", "(LNoiseFields$Tape;I)V"⟩, 6) := ⟨⟨by decide +kernel, by decide +kernel⟩, List.mem_of_getElem? (i := 81) (by decide +kernel), List.mem_of_getElem? (i := 883) (by decide +kernel), List.mem_of_getElem? (i := 884) (by decide +kernel)⟩
theorem lw_p14 : lw_okq (⟨"NoiseFields$Law", "readUnit", "(LNoiseFields$Tape;I)V"⟩, 6) := ⟨⟨by decide +kernel, by decide +kernel⟩, List.mem_of_getElem? (i := 81) (by decide +kernel), List.mem_of_getElem? (i := 887) (by decide +kernel), List.mem_of_getElem? (i := 888) (by decide +kernel)⟩
theorem lw_p15 : lw_okq (⟨"NoiseFields$Law", "put", "(I)V"⟩, 6) := ⟨⟨by decide +kernel, by decide +kernel⟩, List.mem_of_getElem? (i := 81) (by decide +kernel), List.mem_of_getElem? (i := 898) (by decide +kernel), List.mem_of_getElem? (i := 899) (by decide +kernel)⟩
def lw_privs_1 : List (MethodName × Nat) := [(⟨"NoiseFields", "beginFarm", "(LNoiseFields$Farm;)V"⟩, 15), (⟨"NoiseFields", "worksKept", "()I"⟩, 15), (⟨"NoiseFields$Breeding", "add", "(II)V"⟩, 6), (⟨"NoiseFields$Breeding", "crossAll", "(III)V"⟩, 6), (⟨"NoiseFields", "imagesKept", "()I"⟩, 15), (⟨"NoiseFields", "needLength", "(II)V"⟩, 15), (⟨"NoiseFields", "needBetween", "(III)V"⟩, 15), (⟨"NoiseFields", "refuseWrong", "()V"⟩, 15), (⟨"java/lang/Throwable", "fillInStackTrace", "(I)Ljava/lang/Throwable;"⟩, 6), (⟨"NoiseFields$Tape", "skipBlanks", "()V"⟩, 9), (⟨"NoiseFields$Farm", "isFull", "(I)Z"⟩, 16), (⟨"NoiseFields$Farm", "readClause", "(LNoiseFields$Tape;I)V"⟩, 16), (⟨"NoiseFields$Law", "readSum", "(LNoiseFields$Tape;I)V"⟩, 6), (⟨"NoiseFields$Law", "readProduct", "(LNoiseFields$Tape;I)V"⟩, 6), (⟨"NoiseFields$Law", "readUnit", "(LNoiseFields$Tape;I)V"⟩, 6), (⟨"NoiseFields$Law", "put", "(I)V"⟩, 6)]
theorem lw_r1 : ∀ q ∈ lw_privs_1, lw_okq q := List.forall_mem_cons.mpr ⟨lw_p0, List.forall_mem_cons.mpr ⟨lw_p1, List.forall_mem_cons.mpr ⟨lw_p2, List.forall_mem_cons.mpr ⟨lw_p3, List.forall_mem_cons.mpr ⟨lw_p4, List.forall_mem_cons.mpr ⟨lw_p5, List.forall_mem_cons.mpr ⟨lw_p6, List.forall_mem_cons.mpr ⟨lw_p7, List.forall_mem_cons.mpr ⟨lw_p8, List.forall_mem_cons.mpr ⟨lw_p9, List.forall_mem_cons.mpr ⟨lw_p10, List.forall_mem_cons.mpr ⟨lw_p11, List.forall_mem_cons.mpr ⟨lw_p12, List.forall_mem_cons.mpr ⟨lw_p13, List.forall_mem_cons.mpr ⟨lw_p14, List.forall_mem_cons.mpr ⟨lw_p15, fun _ h => absurd h List.not_mem_nil⟩⟩⟩⟩⟩⟩⟩⟩⟩⟩⟩⟩⟩⟩⟩⟩
theorem lw_p16 : lw_okq (⟨"NoiseFields$Law", "readBrackets", "(LNoiseFields$Tape;I)V"⟩, 6) := ⟨⟨by decide +kernel, by decide +kernel⟩, List.mem_of_getElem? (i := 81) (by decide +kernel), List.mem_of_getElem? (i := 902) (by decide +kernel), List.mem_of_getElem? (i := 903) (by decide +kernel)⟩
theorem lw_p17 : lw_okq (⟨"NoiseFields$Law", "readNamed", "(LNoiseFields$Tape;I)V"⟩, 6) := ⟨⟨by decide +kernel, by decide +kernel⟩, List.mem_of_getElem? (i := 81) (by decide +kernel), List.mem_of_getElem? (i := 909) (by decide +kernel), List.mem_of_getElem? (i := 910) (by decide +kernel)⟩
theorem lw_p18 : lw_okq (⟨"NoiseFields$Work", "readSteps", "(LNoiseFields$Tape;I)V"⟩, 8) := ⟨⟨by decide +kernel, by decide +kernel⟩, List.mem_of_getElem? (i := 134) (by decide +kernel), List.mem_of_getElem? (i := 940) (by decide +kernel), List.mem_of_getElem? (i := 941) (by decide +kernel)⟩
theorem lw_p19 : lw_okq (⟨"NoiseFields$Work", "readStep", "(LNoiseFields$Tape;I)V"⟩, 8) := ⟨⟨by decide +kernel, by decide +kernel⟩, List.mem_of_getElem? (i := 134) (by decide +kernel), List.mem_of_getElem? (i := 947) (by decide +kernel), List.mem_of_getElem? (i := 948) (by decide +kernel)⟩
theorem lw_p20 : lw_okq (⟨"NoiseFields$Work", "put", "(III)V"⟩, 8) := ⟨⟨by decide +kernel, by decide +kernel⟩, List.mem_of_getElem? (i := 134) (by decide +kernel), List.mem_of_getElem? (i := 954) (by decide +kernel), List.mem_of_getElem? (i := 955) (by decide +kernel)⟩
theorem lw_p21 : lw_okq (⟨"NoiseFields$Work", "readAgain", "(LNoiseFields$Tape;I)V"⟩, 8) := ⟨⟨by decide +kernel, by decide +kernel⟩, List.mem_of_getElem? (i := 134) (by decide +kernel), List.mem_of_getElem? (i := 963) (by decide +kernel), List.mem_of_getElem? (i := 964) (by decide +kernel)⟩
theorem lw_p22 : lw_okq (⟨"NoiseFields$Work", "runAgain", "(II)V"⟩, 8) := ⟨⟨by decide +kernel, by decide +kernel⟩, List.mem_of_getElem? (i := 134) (by decide +kernel), List.mem_of_getElem? (i := 972) (by decide +kernel), List.mem_of_getElem? (i := 973) (by decide +kernel)⟩
theorem lw_p23 : lw_okq (⟨"NoiseFields$Work", "runStep", "(I)V"⟩, 8) := ⟨⟨by decide +kernel, by decide +kernel⟩, List.mem_of_getElem? (i := 134) (by decide +kernel), List.mem_of_getElem? (i := 980) (by decide +kernel), List.mem_of_getElem? (i := 981) (by decide +kernel)⟩
theorem lw_p24 : lw_okq (⟨"NoiseFields$World", "store", "()V"⟩, 4) := ⟨⟨by decide +kernel, by decide +kernel⟩, List.mem_of_getElem? (i := 107) (by decide +kernel), List.mem_of_getElem? (i := 1034) (by decide +kernel), List.mem_of_getElem? (i := 1035) (by decide +kernel)⟩
theorem lw_p25 : lw_okq (⟨"NoiseFields$World", "serveOrders", "()V"⟩, 4) := ⟨⟨by decide +kernel, by decide +kernel⟩, List.mem_of_getElem? (i := 107) (by decide +kernel), List.mem_of_getElem? (i := 1042) (by decide +kernel), List.mem_of_getElem? (i := 1043) (by decide +kernel)⟩
theorem lw_p26 : lw_okq (⟨"NoiseFields$World", "deliver", "(I)Z"⟩, 4) := ⟨⟨by decide +kernel, by decide +kernel⟩, List.mem_of_getElem? (i := 107) (by decide +kernel), List.mem_of_getElem? (i := 1046) (by decide +kernel), List.mem_of_getElem? (i := 1047) (by decide +kernel)⟩
theorem lw_p27 : lw_okq (⟨"NoiseFields$World", "spoilBales", "()V"⟩, 4) := ⟨⟨by decide +kernel, by decide +kernel⟩, List.mem_of_getElem? (i := 107) (by decide +kernel), List.mem_of_getElem? (i := 1050) (by decide +kernel), List.mem_of_getElem? (i := 1051) (by decide +kernel)⟩
theorem lw_p28 : lw_okq (⟨"NoiseFields$Book", "readLine", "(LNoiseFields$Tape;I)V"⟩, 6) := ⟨⟨by decide +kernel, by decide +kernel⟩, List.mem_of_getElem? (i := 251) (by decide +kernel), List.mem_of_getElem? (i := 1070) (by decide +kernel), List.mem_of_getElem? (i := 1071) (by decide +kernel)⟩
theorem lw_p29 : lw_okq (⟨"NoiseFields$Book", "isTold", "(I)Z"⟩, 6) := ⟨⟨by decide +kernel, by decide +kernel⟩, List.mem_of_getElem? (i := 251) (by decide +kernel), List.mem_of_getElem? (i := 1075) (by decide +kernel), List.mem_of_getElem? (i := 1076) (by decide +kernel)⟩
theorem lw_p30 : lw_okq (⟨"NoiseFields", "needField", "(I)V"⟩, 15) := ⟨⟨by decide +kernel, by decide +kernel⟩, List.mem_of_getElem? (i := 28) (by decide +kernel), List.mem_of_getElem? (i := 1099) (by decide +kernel), List.mem_of_getElem? (i := 1100) (by decide +kernel)⟩
theorem lw_p31 : lw_okq (⟨"NoiseFields", "refuseMissing", "()V"⟩, 15) := ⟨⟨by decide +kernel, by decide +kernel⟩, List.mem_of_getElem? (i := 28) (by decide +kernel), List.mem_of_getElem? (i := 1103) (by decide +kernel), List.mem_of_getElem? (i := 1104) (by decide +kernel)⟩
def lw_privs_2 : List (MethodName × Nat) := [(⟨"NoiseFields$Law", "readBrackets", "(LNoiseFields$Tape;I)V"⟩, 6), (⟨"NoiseFields$Law", "readNamed", "(LNoiseFields$Tape;I)V"⟩, 6), (⟨"NoiseFields$Work", "readSteps", "(LNoiseFields$Tape;I)V"⟩, 8), (⟨"NoiseFields$Work", "readStep", "(LNoiseFields$Tape;I)V"⟩, 8), (⟨"NoiseFields$Work", "put", "(III)V"⟩, 8), (⟨"NoiseFields$Work", "readAgain", "(LNoiseFields$Tape;I)V"⟩, 8), (⟨"NoiseFields$Work", "runAgain", "(II)V"⟩, 8), (⟨"NoiseFields$Work", "runStep", "(I)V"⟩, 8), (⟨"NoiseFields$World", "store", "()V"⟩, 4), (⟨"NoiseFields$World", "serveOrders", "()V"⟩, 4), (⟨"NoiseFields$World", "deliver", "(I)Z"⟩, 4), (⟨"NoiseFields$World", "spoilBales", "()V"⟩, 4), (⟨"NoiseFields$Book", "readLine", "(LNoiseFields$Tape;I)V"⟩, 6), (⟨"NoiseFields$Book", "isTold", "(I)Z"⟩, 6), (⟨"NoiseFields", "needField", "(I)V"⟩, 15), (⟨"NoiseFields", "refuseMissing", "()V"⟩, 15)]
theorem lw_r2 : ∀ q ∈ lw_privs_2, lw_okq q := List.forall_mem_cons.mpr ⟨lw_p16, List.forall_mem_cons.mpr ⟨lw_p17, List.forall_mem_cons.mpr ⟨lw_p18, List.forall_mem_cons.mpr ⟨lw_p19, List.forall_mem_cons.mpr ⟨lw_p20, List.forall_mem_cons.mpr ⟨lw_p21, List.forall_mem_cons.mpr ⟨lw_p22, List.forall_mem_cons.mpr ⟨lw_p23, List.forall_mem_cons.mpr ⟨lw_p24, List.forall_mem_cons.mpr ⟨lw_p25, List.forall_mem_cons.mpr ⟨lw_p26, List.forall_mem_cons.mpr ⟨lw_p27, List.forall_mem_cons.mpr ⟨lw_p28, List.forall_mem_cons.mpr ⟨lw_p29, List.forall_mem_cons.mpr ⟨lw_p30, List.forall_mem_cons.mpr ⟨lw_p31, fun _ h => absurd h List.not_mem_nil⟩⟩⟩⟩⟩⟩⟩⟩⟩⟩⟩⟩⟩⟩⟩⟩
theorem lw_p32 : lw_okq (⟨"NoiseFields", "needSound", "(I)V"⟩, 15) := ⟨⟨by decide +kernel, by decide +kernel⟩, List.mem_of_getElem? (i := 28) (by decide +kernel), List.mem_of_getElem? (i := 1130) (by decide +kernel), List.mem_of_getElem? (i := 1131) (by decide +kernel)⟩
theorem lw_p33 : lw_okq (⟨"NoiseFields$Plans", "findGains", "()V"⟩, 15) := ⟨⟨by decide +kernel, by decide +kernel⟩, List.mem_of_getElem? (i := 168) (by decide +kernel), List.mem_of_getElem? (i := 1199) (by decide +kernel), List.mem_of_getElem? (i := 1200) (by decide +kernel)⟩
theorem lw_p34 : lw_okq (⟨"NoiseFields$Plans", "loudOfChoice", "(I)I"⟩, 15) := ⟨⟨by decide +kernel, by decide +kernel⟩, List.mem_of_getElem? (i := 168) (by decide +kernel), List.mem_of_getElem? (i := 1204) (by decide +kernel), List.mem_of_getElem? (i := 1205) (by decide +kernel)⟩
theorem lw_p35 : lw_okq (⟨"NoiseFields$Plans", "findGainsBy", "(I)V"⟩, 15) := ⟨⟨by decide +kernel, by decide +kernel⟩, List.mem_of_getElem? (i := 168) (by decide +kernel), List.mem_of_getElem? (i := 1209) (by decide +kernel), List.mem_of_getElem? (i := 1210) (by decide +kernel)⟩
theorem lw_p36 : lw_okq (⟨"NoiseFields$Plans", "weighField", "(II)V"⟩, 15) := ⟨⟨by decide +kernel, by decide +kernel⟩, List.mem_of_getElem? (i := 168) (by decide +kernel), List.mem_of_getElem? (i := 1217) (by decide +kernel), List.mem_of_getElem? (i := 1218) (by decide +kernel)⟩
theorem lw_p37 : lw_okq (⟨"NoiseFields$Plans", "bestNext", "(III)I"⟩, 15) := ⟨⟨by decide +kernel, by decide +kernel⟩, List.mem_of_getElem? (i := 168) (by decide +kernel), List.mem_of_getElem? (i := 1221) (by decide +kernel), List.mem_of_getElem? (i := 1222) (by decide +kernel)⟩
theorem lw_p38 : lw_okq (⟨"NoiseFields$Plans", "penceWith", "(IIII)I"⟩, 15) := ⟨⟨by decide +kernel, by decide +kernel⟩, List.mem_of_getElem? (i := 168) (by decide +kernel), List.mem_of_getElem? (i := 1225) (by decide +kernel), List.mem_of_getElem? (i := 1226) (by decide +kernel)⟩
theorem lw_p39 : lw_okq (⟨"NoiseFields$Plans", "spellSowing", "()V"⟩, 15) := ⟨⟨by decide +kernel, by decide +kernel⟩, List.mem_of_getElem? (i := 168) (by decide +kernel), List.mem_of_getElem? (i := 1232) (by decide +kernel), List.mem_of_getElem? (i := 1233) (by decide +kernel)⟩
theorem lw_p40 : lw_okq (⟨"NoiseFields$Plans", "mostFrom", "(IIII)I"⟩, 15) := ⟨⟨by decide +kernel, by decide +kernel⟩, List.mem_of_getElem? (i := 168) (by decide +kernel), List.mem_of_getElem? (i := 1248) (by decide +kernel), List.mem_of_getElem? (i := 1249) (by decide +kernel)⟩
theorem lw_p41 : lw_okq (⟨"NoiseFields$Plans", "bestChoice", "(IIII)I"⟩, 15) := ⟨⟨by decide +kernel, by decide +kernel⟩, List.mem_of_getElem? (i := 168) (by decide +kernel), List.mem_of_getElem? (i := 1252) (by decide +kernel), List.mem_of_getElem? (i := 1253) (by decide +kernel)⟩
theorem lw_p42 : lw_okq (⟨"NoiseFields$Plans", "penceBy", "(IIIII)I"⟩, 15) := ⟨⟨by decide +kernel, by decide +kernel⟩, List.mem_of_getElem? (i := 168) (by decide +kernel), List.mem_of_getElem? (i := 1256) (by decide +kernel), List.mem_of_getElem? (i := 1257) (by decide +kernel)⟩
theorem lw_p43 : lw_okq (⟨"NoiseFields$Plans", "turnPence", "(IIIII)I"⟩, 15) := ⟨⟨by decide +kernel, by decide +kernel⟩, List.mem_of_getElem? (i := 168) (by decide +kernel), List.mem_of_getElem? (i := 1260) (by decide +kernel), List.mem_of_getElem? (i := 1261) (by decide +kernel)⟩
theorem lw_p44 : lw_okq (⟨"NoiseFields$Plans", "setFrom", "(II)V"⟩, 15) := ⟨⟨by decide +kernel, by decide +kernel⟩, List.mem_of_getElem? (i := 168) (by decide +kernel), List.mem_of_getElem? (i := 1291) (by decide +kernel), List.mem_of_getElem? (i := 1292) (by decide +kernel)⟩
theorem lw_p45 : lw_okq (⟨"NoiseFields$Plans", "isDrownedBy", "(II)Z"⟩, 15) := ⟨⟨by decide +kernel, by decide +kernel⟩, List.mem_of_getElem? (i := 168) (by decide +kernel), List.mem_of_getElem? (i := 1295) (by decide +kernel), List.mem_of_getElem? (i := 1296) (by decide +kernel)⟩
theorem lw_p46 : lw_okq (⟨"NoiseFields$Hearing", "findKinds", "()V"⟩, 18) := ⟨⟨by decide +kernel, by decide +kernel⟩, List.mem_of_getElem? (i := 280) (by decide +kernel), List.mem_of_getElem? (i := 1336) (by decide +kernel), List.mem_of_getElem? (i := 1337) (by decide +kernel)⟩
theorem lw_p47 : lw_okq (⟨"NoiseFields$Hearing", "hearAll", "()V"⟩, 18) := ⟨⟨by decide +kernel, by decide +kernel⟩, List.mem_of_getElem? (i := 280) (by decide +kernel), List.mem_of_getElem? (i := 1341) (by decide +kernel), List.mem_of_getElem? (i := 1342) (by decide +kernel)⟩
def lw_privs_3 : List (MethodName × Nat) := [(⟨"NoiseFields", "needSound", "(I)V"⟩, 15), (⟨"NoiseFields$Plans", "findGains", "()V"⟩, 15), (⟨"NoiseFields$Plans", "loudOfChoice", "(I)I"⟩, 15), (⟨"NoiseFields$Plans", "findGainsBy", "(I)V"⟩, 15), (⟨"NoiseFields$Plans", "weighField", "(II)V"⟩, 15), (⟨"NoiseFields$Plans", "bestNext", "(III)I"⟩, 15), (⟨"NoiseFields$Plans", "penceWith", "(IIII)I"⟩, 15), (⟨"NoiseFields$Plans", "spellSowing", "()V"⟩, 15), (⟨"NoiseFields$Plans", "mostFrom", "(IIII)I"⟩, 15), (⟨"NoiseFields$Plans", "bestChoice", "(IIII)I"⟩, 15), (⟨"NoiseFields$Plans", "penceBy", "(IIIII)I"⟩, 15), (⟨"NoiseFields$Plans", "turnPence", "(IIIII)I"⟩, 15), (⟨"NoiseFields$Plans", "setFrom", "(II)V"⟩, 15), (⟨"NoiseFields$Plans", "isDrownedBy", "(II)Z"⟩, 15), (⟨"NoiseFields$Hearing", "findKinds", "()V"⟩, 18), (⟨"NoiseFields$Hearing", "hearAll", "()V"⟩, 18)]
theorem lw_r3 : ∀ q ∈ lw_privs_3, lw_okq q := List.forall_mem_cons.mpr ⟨lw_p32, List.forall_mem_cons.mpr ⟨lw_p33, List.forall_mem_cons.mpr ⟨lw_p34, List.forall_mem_cons.mpr ⟨lw_p35, List.forall_mem_cons.mpr ⟨lw_p36, List.forall_mem_cons.mpr ⟨lw_p37, List.forall_mem_cons.mpr ⟨lw_p38, List.forall_mem_cons.mpr ⟨lw_p39, List.forall_mem_cons.mpr ⟨lw_p40, List.forall_mem_cons.mpr ⟨lw_p41, List.forall_mem_cons.mpr ⟨lw_p42, List.forall_mem_cons.mpr ⟨lw_p43, List.forall_mem_cons.mpr ⟨lw_p44, List.forall_mem_cons.mpr ⟨lw_p45, List.forall_mem_cons.mpr ⟨lw_p46, List.forall_mem_cons.mpr ⟨lw_p47, fun _ h => absurd h List.not_mem_nil⟩⟩⟩⟩⟩⟩⟩⟩⟩⟩⟩⟩⟩⟩⟩⟩
theorem lw_p48 : lw_okq (⟨"NoiseFields$Hearing", "fillHalf", "(III)V"⟩, 18) := ⟨⟨by decide +kernel, by decide +kernel⟩, List.mem_of_getElem? (i := 280) (by decide +kernel), List.mem_of_getElem? (i := 1346) (by decide +kernel), List.mem_of_getElem? (i := 1347) (by decide +kernel)⟩
theorem lw_p49 : lw_okq (⟨"NoiseFields$Hearing", "rowsOver", "(I)I"⟩, 18) := ⟨⟨by decide +kernel, by decide +kernel⟩, List.mem_of_getElem? (i := 280) (by decide +kernel), List.mem_of_getElem? (i := 1350) (by decide +kernel), List.mem_of_getElem? (i := 1351) (by decide +kernel)⟩
theorem lw_p50 : lw_okq (⟨"NoiseFields$Hearing", "sowKind", "(III)V"⟩, 18) := ⟨⟨by decide +kernel, by decide +kernel⟩, List.mem_of_getElem? (i := 280) (by decide +kernel), List.mem_of_getElem? (i := 1354) (by decide +kernel), List.mem_of_getElem? (i := 1355) (by decide +kernel)⟩
theorem lw_p51 : lw_okq (⟨"NoiseFields$Hearing", "chainBehind", "()V"⟩, 18) := ⟨⟨by decide +kernel, by decide +kernel⟩, List.mem_of_getElem? (i := 280) (by decide +kernel), List.mem_of_getElem? (i := 1359) (by decide +kernel), List.mem_of_getElem? (i := 1360) (by decide +kernel)⟩
theorem lw_p52 : lw_okq (⟨"NoiseFields$Hearing", "joinHalves", "(I)V"⟩, 18) := ⟨⟨by decide +kernel, by decide +kernel⟩, List.mem_of_getElem? (i := 280) (by decide +kernel), List.mem_of_getElem? (i := 1363) (by decide +kernel), List.mem_of_getElem? (i := 1364) (by decide +kernel)⟩
theorem lw_p53 : lw_okq (⟨"NoiseFields$Hearing", "agree", "(II)Z"⟩, 18) := ⟨⟨by decide +kernel, by decide +kernel⟩, List.mem_of_getElem? (i := 280) (by decide +kernel), List.mem_of_getElem? (i := 1367) (by decide +kernel), List.mem_of_getElem? (i := 1368) (by decide +kernel)⟩
theorem lw_p54 : lw_okq (⟨"NoiseFields$Hearing", "loudnessOf", "(III)I"⟩, 18) := ⟨⟨by decide +kernel, by decide +kernel⟩, List.mem_of_getElem? (i := 280) (by decide +kernel), List.mem_of_getElem? (i := 1371) (by decide +kernel), List.mem_of_getElem? (i := 1372) (by decide +kernel)⟩
theorem lw_p55 : lw_okq (⟨"NoiseFields$Hearing", "noteWay", "(III)V"⟩, 18) := ⟨⟨by decide +kernel, by decide +kernel⟩, List.mem_of_getElem? (i := 280) (by decide +kernel), List.mem_of_getElem? (i := 1375) (by decide +kernel), List.mem_of_getElem? (i := 1376) (by decide +kernel)⟩
theorem lw_p56 : lw_okq (⟨"NoiseFields$Hearing", "worstAt", "(I)I"⟩, 18) := ⟨⟨by decide +kernel, by decide +kernel⟩, List.mem_of_getElem? (i := 280) (by decide +kernel), List.mem_of_getElem? (i := 1408) (by decide +kernel), List.mem_of_getElem? (i := 1409) (by decide +kernel)⟩
theorem lw_p57 : lw_okq (⟨"NoiseFields$Hearing", "tallyAll", "(I)V"⟩, 18) := ⟨⟨by decide +kernel, by decide +kernel⟩, List.mem_of_getElem? (i := 280) (by decide +kernel), List.mem_of_getElem? (i := 1412) (by decide +kernel), List.mem_of_getElem? (i := 1413) (by decide +kernel)⟩
theorem lw_p58 : lw_okq (⟨"NoiseFields$Hearing", "spread", "(II)V"⟩, 18) := ⟨⟨by decide +kernel, by decide +kernel⟩, List.mem_of_getElem? (i := 280) (by decide +kernel), List.mem_of_getElem? (i := 1416) (by decide +kernel), List.mem_of_getElem? (i := 1417) (by decide +kernel)⟩
theorem lw_p59 : lw_okq (⟨"NoiseFields$Plans", "isBestReply", "(II)Z"⟩, 15) := ⟨⟨by decide +kernel, by decide +kernel⟩, List.mem_of_getElem? (i := 168) (by decide +kernel), List.mem_of_getElem? (i := 1432) (by decide +kernel), List.mem_of_getElem? (i := 1433) (by decide +kernel)⟩
theorem lw_p60 : lw_okq (⟨"NoiseFields$Plans", "payFor", "(II)I"⟩, 15) := ⟨⟨by decide +kernel, by decide +kernel⟩, List.mem_of_getElem? (i := 168) (by decide +kernel), List.mem_of_getElem? (i := 1436) (by decide +kernel), List.mem_of_getElem? (i := 1437) (by decide +kernel)⟩
theorem lw_p61 : lw_okq (⟨"NoiseFields$Blights", "reapOrLose", "(ZII)V"⟩, 5) := ⟨⟨by decide +kernel, by decide +kernel⟩, List.mem_of_getElem? (i := 345) (by decide +kernel), List.mem_of_getElem? (i := 1469) (by decide +kernel), List.mem_of_getElem? (i := 1470) (by decide +kernel)⟩
theorem lw_p62 : lw_okq (⟨"NoiseFieldsModel", "tellsNothing", "()V"⟩, 49) := ⟨⟨by decide +kernel, by decide +kernel⟩, List.mem_of_getElem? (i := 1488) (by decide +kernel), List.mem_of_getElem? (i := 1496) (by decide +kernel), List.mem_of_getElem? (i := 1497) (by decide +kernel)⟩
theorem lw_p63 : lw_okq (⟨"NoiseFieldsModel", "stands", "()V"⟩, 49) := ⟨⟨by decide +kernel, by decide +kernel⟩, List.mem_of_getElem? (i := 1488) (by decide +kernel), List.mem_of_getElem? (i := 1500) (by decide +kernel), List.mem_of_getElem? (i := 1501) (by decide +kernel)⟩
def lw_privs_4 : List (MethodName × Nat) := [(⟨"NoiseFields$Hearing", "fillHalf", "(III)V"⟩, 18), (⟨"NoiseFields$Hearing", "rowsOver", "(I)I"⟩, 18), (⟨"NoiseFields$Hearing", "sowKind", "(III)V"⟩, 18), (⟨"NoiseFields$Hearing", "chainBehind", "()V"⟩, 18), (⟨"NoiseFields$Hearing", "joinHalves", "(I)V"⟩, 18), (⟨"NoiseFields$Hearing", "agree", "(II)Z"⟩, 18), (⟨"NoiseFields$Hearing", "loudnessOf", "(III)I"⟩, 18), (⟨"NoiseFields$Hearing", "noteWay", "(III)V"⟩, 18), (⟨"NoiseFields$Hearing", "worstAt", "(I)I"⟩, 18), (⟨"NoiseFields$Hearing", "tallyAll", "(I)V"⟩, 18), (⟨"NoiseFields$Hearing", "spread", "(II)V"⟩, 18), (⟨"NoiseFields$Plans", "isBestReply", "(II)Z"⟩, 15), (⟨"NoiseFields$Plans", "payFor", "(II)I"⟩, 15), (⟨"NoiseFields$Blights", "reapOrLose", "(ZII)V"⟩, 5), (⟨"NoiseFieldsModel", "tellsNothing", "()V"⟩, 49), (⟨"NoiseFieldsModel", "stands", "()V"⟩, 49)]
theorem lw_r4 : ∀ q ∈ lw_privs_4, lw_okq q := List.forall_mem_cons.mpr ⟨lw_p48, List.forall_mem_cons.mpr ⟨lw_p49, List.forall_mem_cons.mpr ⟨lw_p50, List.forall_mem_cons.mpr ⟨lw_p51, List.forall_mem_cons.mpr ⟨lw_p52, List.forall_mem_cons.mpr ⟨lw_p53, List.forall_mem_cons.mpr ⟨lw_p54, List.forall_mem_cons.mpr ⟨lw_p55, List.forall_mem_cons.mpr ⟨lw_p56, List.forall_mem_cons.mpr ⟨lw_p57, List.forall_mem_cons.mpr ⟨lw_p58, List.forall_mem_cons.mpr ⟨lw_p59, List.forall_mem_cons.mpr ⟨lw_p60, List.forall_mem_cons.mpr ⟨lw_p61, List.forall_mem_cons.mpr ⟨lw_p62, List.forall_mem_cons.mpr ⟨lw_p63, fun _ h => absurd h List.not_mem_nil⟩⟩⟩⟩⟩⟩⟩⟩⟩⟩⟩⟩⟩⟩⟩⟩
theorem lw_p64 : lw_okq (⟨"NoiseFieldsModel", "bad", "(ZII)Z"⟩, 49) := ⟨⟨by decide +kernel, by decide +kernel⟩, List.mem_of_getElem? (i := 1488) (by decide +kernel), List.mem_of_getElem? (i := 1670) (by decide +kernel), List.mem_of_getElem? (i := 1671) (by decide +kernel)⟩
theorem lw_p65 : lw_okq (⟨"NoiseFieldsModel", "starts", "(I)V"⟩, 49) := ⟨⟨by decide +kernel, by decide +kernel⟩, List.mem_of_getElem? (i := 1488) (by decide +kernel), List.mem_of_getElem? (i := 1674) (by decide +kernel), List.mem_of_getElem? (i := 1675) (by decide +kernel)⟩
theorem lw_p66 : lw_okq (⟨"NoiseFieldsModel", "blanks", "()V"⟩, 49) := ⟨⟨by decide +kernel, by decide +kernel⟩, List.mem_of_getElem? (i := 1488) (by decide +kernel), List.mem_of_getElem? (i := 1678) (by decide +kernel), List.mem_of_getElem? (i := 1679) (by decide +kernel)⟩
theorem lw_p67 : lw_okq (⟨"NoiseFieldsModel", "byteAt", "(I)I"⟩, 49) := ⟨⟨by decide +kernel, by decide +kernel⟩, List.mem_of_getElem? (i := 1488) (by decide +kernel), List.mem_of_getElem? (i := 1682) (by decide +kernel), List.mem_of_getElem? (i := 1683) (by decide +kernel)⟩
theorem lw_p68 : lw_okq (⟨"NoiseFieldsModel", "clause", "()V"⟩, 49) := ⟨⟨by decide +kernel, by decide +kernel⟩, List.mem_of_getElem? (i := 1488) (by decide +kernel), List.mem_of_getElem? (i := 1686) (by decide +kernel), List.mem_of_getElem? (i := 1687) (by decide +kernel)⟩
theorem lw_p69 : lw_okq (⟨"NoiseFieldsModel", "kindHere", "()I"⟩, 49) := ⟨⟨by decide +kernel, by decide +kernel⟩, List.mem_of_getElem? (i := 1488) (by decide +kernel), List.mem_of_getElem? (i := 1690) (by decide +kernel), List.mem_of_getElem? (i := 1691) (by decide +kernel)⟩
theorem lw_p70 : lw_okq (⟨"NoiseFieldsModel", "isWord", "(IIIII)Z"⟩, 49) := ⟨⟨by decide +kernel, by decide +kernel⟩, List.mem_of_getElem? (i := 1488) (by decide +kernel), List.mem_of_getElem? (i := 1694) (by decide +kernel), List.mem_of_getElem? (i := 1695) (by decide +kernel)⟩
theorem lw_p71 : lw_okq (⟨"NoiseFieldsModel", "wordHere", "()I"⟩, 49) := ⟨⟨by decide +kernel, by decide +kernel⟩, List.mem_of_getElem? (i := 1488) (by decide +kernel), List.mem_of_getElem? (i := 1698) (by decide +kernel), List.mem_of_getElem? (i := 1699) (by decide +kernel)⟩
theorem lw_p72 : lw_okq (⟨"NoiseFieldsModel", "wrong", "(II)V"⟩, 49) := ⟨⟨by decide +kernel, by decide +kernel⟩, List.mem_of_getElem? (i := 1488) (by decide +kernel), List.mem_of_getElem? (i := 1708) (by decide +kernel), List.mem_of_getElem? (i := 1709) (by decide +kernel)⟩
theorem lw_p73 : lw_okq (⟨"NoiseFieldsModel", "skipWord", "()V"⟩, 49) := ⟨⟨by decide +kernel, by decide +kernel⟩, List.mem_of_getElem? (i := 1488) (by decide +kernel), List.mem_of_getElem? (i := 1712) (by decide +kernel), List.mem_of_getElem? (i := 1713) (by decide +kernel)⟩
theorem lw_p74 : lw_okq (⟨"NoiseFieldsModel", "number", "(II)I"⟩, 49) := ⟨⟨by decide +kernel, by decide +kernel⟩, List.mem_of_getElem? (i := 1488) (by decide +kernel), List.mem_of_getElem? (i := 1716) (by decide +kernel), List.mem_of_getElem? (i := 1717) (by decide +kernel)⟩
theorem lw_p75 : lw_okq (⟨"NoiseFieldsModel", "sign", "(I)V"⟩, 49) := ⟨⟨by decide +kernel, by decide +kernel⟩, List.mem_of_getElem? (i := 1488) (by decide +kernel), List.mem_of_getElem? (i := 1724) (by decide +kernel), List.mem_of_getElem? (i := 1725) (by decide +kernel)⟩
theorem lw_p76 : lw_okq (⟨"NoiseFieldsModel", "ends", "()I"⟩, 49) := ⟨⟨by decide +kernel, by decide +kernel⟩, List.mem_of_getElem? (i := 1488) (by decide +kernel), List.mem_of_getElem? (i := 1728) (by decide +kernel), List.mem_of_getElem? (i := 1729) (by decide +kernel)⟩
theorem lw_p77 : lw_okq (⟨"NoiseFieldsModel", "sum", "()V"⟩, 49) := ⟨⟨by decide +kernel, by decide +kernel⟩, List.mem_of_getElem? (i := 1488) (by decide +kernel), List.mem_of_getElem? (i := 1736) (by decide +kernel), List.mem_of_getElem? (i := 1737) (by decide +kernel)⟩
theorem lw_p78 : lw_okq (⟨"NoiseFieldsModel", "product", "()V"⟩, 49) := ⟨⟨by decide +kernel, by decide +kernel⟩, List.mem_of_getElem? (i := 1488) (by decide +kernel), List.mem_of_getElem? (i := 1740) (by decide +kernel), List.mem_of_getElem? (i := 1741) (by decide +kernel)⟩
theorem lw_p79 : lw_okq (⟨"NoiseFieldsModel", "one", "()V"⟩, 49) := ⟨⟨by decide +kernel, by decide +kernel⟩, List.mem_of_getElem? (i := 1488) (by decide +kernel), List.mem_of_getElem? (i := 1744) (by decide +kernel), List.mem_of_getElem? (i := 1745) (by decide +kernel)⟩
def lw_privs_5 : List (MethodName × Nat) := [(⟨"NoiseFieldsModel", "bad", "(ZII)Z"⟩, 49), (⟨"NoiseFieldsModel", "starts", "(I)V"⟩, 49), (⟨"NoiseFieldsModel", "blanks", "()V"⟩, 49), (⟨"NoiseFieldsModel", "byteAt", "(I)I"⟩, 49), (⟨"NoiseFieldsModel", "clause", "()V"⟩, 49), (⟨"NoiseFieldsModel", "kindHere", "()I"⟩, 49), (⟨"NoiseFieldsModel", "isWord", "(IIIII)Z"⟩, 49), (⟨"NoiseFieldsModel", "wordHere", "()I"⟩, 49), (⟨"NoiseFieldsModel", "wrong", "(II)V"⟩, 49), (⟨"NoiseFieldsModel", "skipWord", "()V"⟩, 49), (⟨"NoiseFieldsModel", "number", "(II)I"⟩, 49), (⟨"NoiseFieldsModel", "sign", "(I)V"⟩, 49), (⟨"NoiseFieldsModel", "ends", "()I"⟩, 49), (⟨"NoiseFieldsModel", "sum", "()V"⟩, 49), (⟨"NoiseFieldsModel", "product", "()V"⟩, 49), (⟨"NoiseFieldsModel", "one", "()V"⟩, 49)]
theorem lw_r5 : ∀ q ∈ lw_privs_5, lw_okq q := List.forall_mem_cons.mpr ⟨lw_p64, List.forall_mem_cons.mpr ⟨lw_p65, List.forall_mem_cons.mpr ⟨lw_p66, List.forall_mem_cons.mpr ⟨lw_p67, List.forall_mem_cons.mpr ⟨lw_p68, List.forall_mem_cons.mpr ⟨lw_p69, List.forall_mem_cons.mpr ⟨lw_p70, List.forall_mem_cons.mpr ⟨lw_p71, List.forall_mem_cons.mpr ⟨lw_p72, List.forall_mem_cons.mpr ⟨lw_p73, List.forall_mem_cons.mpr ⟨lw_p74, List.forall_mem_cons.mpr ⟨lw_p75, List.forall_mem_cons.mpr ⟨lw_p76, List.forall_mem_cons.mpr ⟨lw_p77, List.forall_mem_cons.mpr ⟨lw_p78, List.forall_mem_cons.mpr ⟨lw_p79, fun _ h => absurd h List.not_mem_nil⟩⟩⟩⟩⟩⟩⟩⟩⟩⟩⟩⟩⟩⟩⟩⟩
theorem lw_p80 : lw_okq (⟨"NoiseFieldsModel", "opens", "()Z"⟩, 49) := ⟨⟨by decide +kernel, by decide +kernel⟩, List.mem_of_getElem? (i := 1488) (by decide +kernel), List.mem_of_getElem? (i := 1748) (by decide +kernel), List.mem_of_getElem? (i := 1749) (by decide +kernel)⟩
theorem lw_p81 : lw_okq (⟨"NoiseFieldsModel", "notes", "(II)V"⟩, 49) := ⟨⟨by decide +kernel, by decide +kernel⟩, List.mem_of_getElem? (i := 1488) (by decide +kernel), List.mem_of_getElem? (i := 1752) (by decide +kernel), List.mem_of_getElem? (i := 1753) (by decide +kernel)⟩
theorem lw_p82 : lw_okq (⟨"NoiseFieldsModel", "knownHere", "()I"⟩, 49) := ⟨⟨by decide +kernel, by decide +kernel⟩, List.mem_of_getElem? (i := 1488) (by decide +kernel), List.mem_of_getElem? (i := 1756) (by decide +kernel), List.mem_of_getElem? (i := 1757) (by decide +kernel)⟩
theorem lw_p83 : lw_okq (⟨"NoiseFieldsModel", "takes", "(IIIII)Z"⟩, 49) := ⟨⟨by decide +kernel, by decide +kernel⟩, List.mem_of_getElem? (i := 1488) (by decide +kernel), List.mem_of_getElem? (i := 1760) (by decide +kernel), List.mem_of_getElem? (i := 1761) (by decide +kernel)⟩
theorem lw_p84 : lw_okq (⟨"NoiseFieldsModel", "takesSign", "(I)Z"⟩, 49) := ⟨⟨by decide +kernel, by decide +kernel⟩, List.mem_of_getElem? (i := 1488) (by decide +kernel), List.mem_of_getElem? (i := 1764) (by decide +kernel), List.mem_of_getElem? (i := 1765) (by decide +kernel)⟩
theorem lw_p85 : lw_okq (⟨"NoiseFieldsModel", "yieldNow", "()I"⟩, 49) := ⟨⟨by decide +kernel, by decide +kernel⟩, List.mem_of_getElem? (i := 1488) (by decide +kernel), List.mem_of_getElem? (i := 1772) (by decide +kernel), List.mem_of_getElem? (i := 1773) (by decide +kernel)⟩
theorem lw_p86 : lw_okq (⟨"NoiseFieldsModel", "byLaw", "()I"⟩, 49) := ⟨⟨by decide +kernel, by decide +kernel⟩, List.mem_of_getElem? (i := 1488) (by decide +kernel), List.mem_of_getElem? (i := 1776) (by decide +kernel), List.mem_of_getElem? (i := 1777) (by decide +kernel)⟩
theorem lw_p87 : lw_okq (⟨"NoiseFieldsModel", "readsStep", "()V"⟩, 49) := ⟨⟨by decide +kernel, by decide +kernel⟩, List.mem_of_getElem? (i := 1488) (by decide +kernel), List.mem_of_getElem? (i := 1793) (by decide +kernel), List.mem_of_getElem? (i := 1794) (by decide +kernel)⟩
theorem lw_p88 : lw_okq (⟨"NoiseFieldsModel", "stepHere", "()I"⟩, 49) := ⟨⟨by decide +kernel, by decide +kernel⟩, List.mem_of_getElem? (i := 1488) (by decide +kernel), List.mem_of_getElem? (i := 1797) (by decide +kernel), List.mem_of_getElem? (i := 1798) (by decide +kernel)⟩
theorem lw_p89 : lw_okq (⟨"NoiseFieldsModel", "fieldHere", "()I"⟩, 49) := ⟨⟨by decide +kernel, by decide +kernel⟩, List.mem_of_getElem? (i := 1488) (by decide +kernel), List.mem_of_getElem? (i := 1801) (by decide +kernel), List.mem_of_getElem? (i := 1802) (by decide +kernel)⟩
theorem lw_p90 : lw_okq (⟨"NoiseFieldsModel", "soundHere", "()I"⟩, 49) := ⟨⟨by decide +kernel, by decide +kernel⟩, List.mem_of_getElem? (i := 1488) (by decide +kernel), List.mem_of_getElem? (i := 1805) (by decide +kernel), List.mem_of_getElem? (i := 1806) (by decide +kernel)⟩
theorem lw_p91 : lw_okq (⟨"NoiseFieldsModel", "goes", "(II)V"⟩, 49) := ⟨⟨by decide +kernel, by decide +kernel⟩, List.mem_of_getElem? (i := 1488) (by decide +kernel), List.mem_of_getElem? (i := 1812) (by decide +kernel), List.mem_of_getElem? (i := 1813) (by decide +kernel)⟩
theorem lw_p92 : lw_okq (⟨"NoiseFieldsModel", "does", "([I[I)Z"⟩, 49) := ⟨⟨by decide +kernel, by decide +kernel⟩, List.mem_of_getElem? (i := 1488) (by decide +kernel), List.mem_of_getElem? (i := 1816) (by decide +kernel), List.mem_of_getElem? (i := 1817) (by decide +kernel)⟩
theorem lw_p93 : lw_okq (⟨"NoiseFieldsModel", "yearEnds", "([I)V"⟩, 49) := ⟨⟨by decide +kernel, by decide +kernel⟩, List.mem_of_getElem? (i := 1488) (by decide +kernel), List.mem_of_getElem? (i := 1820) (by decide +kernel), List.mem_of_getElem? (i := 1821) (by decide +kernel)⟩
theorem lw_p94 : lw_okq (⟨"NoiseFieldsModel", "laysYields", "([I)V"⟩, 49) := ⟨⟨by decide +kernel, by decide +kernel⟩, List.mem_of_getElem? (i := 1488) (by decide +kernel), List.mem_of_getElem? (i := 1824) (by decide +kernel), List.mem_of_getElem? (i := 1825) (by decide +kernel)⟩
theorem lw_p95 : lw_okq (⟨"NoiseFieldsModel", "yieldOf", "([III)I"⟩, 49) := ⟨⟨by decide +kernel, by decide +kernel⟩, List.mem_of_getElem? (i := 1488) (by decide +kernel), List.mem_of_getElem? (i := 1828) (by decide +kernel), List.mem_of_getElem? (i := 1829) (by decide +kernel)⟩
def lw_privs_6 : List (MethodName × Nat) := [(⟨"NoiseFieldsModel", "opens", "()Z"⟩, 49), (⟨"NoiseFieldsModel", "notes", "(II)V"⟩, 49), (⟨"NoiseFieldsModel", "knownHere", "()I"⟩, 49), (⟨"NoiseFieldsModel", "takes", "(IIIII)Z"⟩, 49), (⟨"NoiseFieldsModel", "takesSign", "(I)Z"⟩, 49), (⟨"NoiseFieldsModel", "yieldNow", "()I"⟩, 49), (⟨"NoiseFieldsModel", "byLaw", "()I"⟩, 49), (⟨"NoiseFieldsModel", "readsStep", "()V"⟩, 49), (⟨"NoiseFieldsModel", "stepHere", "()I"⟩, 49), (⟨"NoiseFieldsModel", "fieldHere", "()I"⟩, 49), (⟨"NoiseFieldsModel", "soundHere", "()I"⟩, 49), (⟨"NoiseFieldsModel", "goes", "(II)V"⟩, 49), (⟨"NoiseFieldsModel", "does", "([I[I)Z"⟩, 49), (⟨"NoiseFieldsModel", "yearEnds", "([I)V"⟩, 49), (⟨"NoiseFieldsModel", "laysYields", "([I)V"⟩, 49), (⟨"NoiseFieldsModel", "yieldOf", "([III)I"⟩, 49)]
theorem lw_r6 : ∀ q ∈ lw_privs_6, lw_okq q := List.forall_mem_cons.mpr ⟨lw_p80, List.forall_mem_cons.mpr ⟨lw_p81, List.forall_mem_cons.mpr ⟨lw_p82, List.forall_mem_cons.mpr ⟨lw_p83, List.forall_mem_cons.mpr ⟨lw_p84, List.forall_mem_cons.mpr ⟨lw_p85, List.forall_mem_cons.mpr ⟨lw_p86, List.forall_mem_cons.mpr ⟨lw_p87, List.forall_mem_cons.mpr ⟨lw_p88, List.forall_mem_cons.mpr ⟨lw_p89, List.forall_mem_cons.mpr ⟨lw_p90, List.forall_mem_cons.mpr ⟨lw_p91, List.forall_mem_cons.mpr ⟨lw_p92, List.forall_mem_cons.mpr ⟨lw_p93, List.forall_mem_cons.mpr ⟨lw_p94, List.forall_mem_cons.mpr ⟨lw_p95, fun _ h => absurd h List.not_mem_nil⟩⟩⟩⟩⟩⟩⟩⟩⟩⟩⟩⟩⟩⟩⟩⟩
theorem lw_p96 : lw_okq (⟨"NoiseFieldsModel", "nearOf", "([II)I"⟩, 49) := ⟨⟨by decide +kernel, by decide +kernel⟩, List.mem_of_getElem? (i := 1488) (by decide +kernel), List.mem_of_getElem? (i := 1835) (by decide +kernel), List.mem_of_getElem? (i := 1836) (by decide +kernel)⟩
theorem lw_p97 : lw_okq (⟨"NoiseFieldsModel", "hailIn", "(I)I"⟩, 49) := ⟨⟨by decide +kernel, by decide +kernel⟩, List.mem_of_getElem? (i := 1488) (by decide +kernel), List.mem_of_getElem? (i := 1839) (by decide +kernel), List.mem_of_getElem? (i := 1840) (by decide +kernel)⟩
theorem lw_p98 : lw_okq (⟨"NoiseFieldsModel", "ages", "([I)V"⟩, 49) := ⟨⟨by decide +kernel, by decide +kernel⟩, List.mem_of_getElem? (i := 1488) (by decide +kernel), List.mem_of_getElem? (i := 1843) (by decide +kernel), List.mem_of_getElem? (i := 1844) (by decide +kernel)⟩
theorem lw_p99 : lw_okq (⟨"NoiseFieldsModel", "isField", "(I)Z"⟩, 49) := ⟨⟨by decide +kernel, by decide +kernel⟩, List.mem_of_getElem? (i := 1488) (by decide +kernel), List.mem_of_getElem? (i := 1870) (by decide +kernel), List.mem_of_getElem? (i := 1871) (by decide +kernel)⟩
theorem lw_p100 : lw_okq (⟨"NoiseFieldsModel", "isSound", "(I)Z"⟩, 49) := ⟨⟨by decide +kernel, by decide +kernel⟩, List.mem_of_getElem? (i := 1488) (by decide +kernel), List.mem_of_getElem? (i := 1878) (by decide +kernel), List.mem_of_getElem? (i := 1879) (by decide +kernel)⟩
theorem lw_p101 : lw_okq (⟨"NoiseFieldsModel", "loudOf", "([II)I"⟩, 49) := ⟨⟨by decide +kernel, by decide +kernel⟩, List.mem_of_getElem? (i := 1488) (by decide +kernel), List.mem_of_getElem? (i := 1894) (by decide +kernel), List.mem_of_getElem? (i := 1895) (by decide +kernel)⟩
theorem lw_p102 : lw_okq (⟨"NoiseFieldsModel", "drownedOf", "([I)I"⟩, 49) := ⟨⟨by decide +kernel, by decide +kernel⟩, List.mem_of_getElem? (i := 1488) (by decide +kernel), List.mem_of_getElem? (i := 1902) (by decide +kernel), List.mem_of_getElem? (i := 1903) (by decide +kernel)⟩
theorem lw_p103 : lw_okq (⟨"NoiseFieldsModel", "ordersOf", "([II)I"⟩, 49) := ⟨⟨by decide +kernel, by decide +kernel⟩, List.mem_of_getElem? (i := 1488) (by decide +kernel), List.mem_of_getElem? (i := 1913) (by decide +kernel), List.mem_of_getElem? (i := 1914) (by decide +kernel)⟩
theorem lw_p104 : lw_okq (⟨"NoiseFieldsModel", "sows", "([II)V"⟩, 49) := ⟨⟨by decide +kernel, by decide +kernel⟩, List.mem_of_getElem? (i := 1488) (by decide +kernel), List.mem_of_getElem? (i := 1928) (by decide +kernel), List.mem_of_getElem? (i := 1929) (by decide +kernel)⟩
theorem lw_p105 : lw_okq (⟨"NoiseFieldsModel", "worthOf", "([I)I"⟩, 49) := ⟨⟨by decide +kernel, by decide +kernel⟩, List.mem_of_getElem? (i := 1488) (by decide +kernel), List.mem_of_getElem? (i := 1932) (by decide +kernel), List.mem_of_getElem? (i := 1933) (by decide +kernel)⟩
theorem lw_p106 : lw_okq (⟨"NoiseFieldsModel", "digitsOf", "([I)I"⟩, 49) := ⟨⟨by decide +kernel, by decide +kernel⟩, List.mem_of_getElem? (i := 1488) (by decide +kernel), List.mem_of_getElem? (i := 1936) (by decide +kernel), List.mem_of_getElem? (i := 1937) (by decide +kernel)⟩
theorem lw_p107 : lw_okq (⟨"NoiseFieldsModel", "wants", "(I)Z"⟩, 49) := ⟨⟨by decide +kernel, by decide +kernel⟩, List.mem_of_getElem? (i := 1488) (by decide +kernel), List.mem_of_getElem? (i := 1948) (by decide +kernel), List.mem_of_getElem? (i := 1949) (by decide +kernel)⟩
theorem lw_p108 : lw_okq (⟨"NoiseFieldsModel", "isWanted", "([I)Z"⟩, 49) := ⟨⟨by decide +kernel, by decide +kernel⟩, List.mem_of_getElem? (i := 1488) (by decide +kernel), List.mem_of_getElem? (i := 1952) (by decide +kernel), List.mem_of_getElem? (i := 1953) (by decide +kernel)⟩
theorem lw_p109 : lw_okq (⟨"NoiseFieldsModel", "crosses", "(II)I"⟩, 49) := ⟨⟨by decide +kernel, by decide +kernel⟩, List.mem_of_getElem? (i := 1488) (by decide +kernel), List.mem_of_getElem? (i := 1960) (by decide +kernel), List.mem_of_getElem? (i := 1961) (by decide +kernel)⟩
theorem lw_p110 : lw_okq (⟨"NoiseFieldsModel", "rowsAtFirst", "()J"⟩, 49) := ⟨⟨by decide +kernel, by decide +kernel⟩, List.mem_of_getElem? (i := 1488) (by decide +kernel), List.mem_of_getElem? (i := 1968) (by decide +kernel), List.mem_of_getElem? (i := 1969) (by decide +kernel)⟩
theorem lw_p111 : lw_okq (⟨"NoiseFieldsModel", "nextRows", "(J)J"⟩, 49) := ⟨⟨by decide +kernel, by decide +kernel⟩, List.mem_of_getElem? (i := 1488) (by decide +kernel), List.mem_of_getElem? (i := 1972) (by decide +kernel), List.mem_of_getElem? (i := 1973) (by decide +kernel)⟩
def lw_privs_7 : List (MethodName × Nat) := [(⟨"NoiseFieldsModel", "nearOf", "([II)I"⟩, 49), (⟨"NoiseFieldsModel", "hailIn", "(I)I"⟩, 49), (⟨"NoiseFieldsModel", "ages", "([I)V"⟩, 49), (⟨"NoiseFieldsModel", "isField", "(I)Z"⟩, 49), (⟨"NoiseFieldsModel", "isSound", "(I)Z"⟩, 49), (⟨"NoiseFieldsModel", "loudOf", "([II)I"⟩, 49), (⟨"NoiseFieldsModel", "drownedOf", "([I)I"⟩, 49), (⟨"NoiseFieldsModel", "ordersOf", "([II)I"⟩, 49), (⟨"NoiseFieldsModel", "sows", "([II)V"⟩, 49), (⟨"NoiseFieldsModel", "worthOf", "([I)I"⟩, 49), (⟨"NoiseFieldsModel", "digitsOf", "([I)I"⟩, 49), (⟨"NoiseFieldsModel", "wants", "(I)Z"⟩, 49), (⟨"NoiseFieldsModel", "isWanted", "([I)Z"⟩, 49), (⟨"NoiseFieldsModel", "crosses", "(II)I"⟩, 49), (⟨"NoiseFieldsModel", "rowsAtFirst", "()J"⟩, 49), (⟨"NoiseFieldsModel", "nextRows", "(J)J"⟩, 49)]
theorem lw_r7 : ∀ q ∈ lw_privs_7, lw_okq q := List.forall_mem_cons.mpr ⟨lw_p96, List.forall_mem_cons.mpr ⟨lw_p97, List.forall_mem_cons.mpr ⟨lw_p98, List.forall_mem_cons.mpr ⟨lw_p99, List.forall_mem_cons.mpr ⟨lw_p100, List.forall_mem_cons.mpr ⟨lw_p101, List.forall_mem_cons.mpr ⟨lw_p102, List.forall_mem_cons.mpr ⟨lw_p103, List.forall_mem_cons.mpr ⟨lw_p104, List.forall_mem_cons.mpr ⟨lw_p105, List.forall_mem_cons.mpr ⟨lw_p106, List.forall_mem_cons.mpr ⟨lw_p107, List.forall_mem_cons.mpr ⟨lw_p108, List.forall_mem_cons.mpr ⟨lw_p109, List.forall_mem_cons.mpr ⟨lw_p110, List.forall_mem_cons.mpr ⟨lw_p111, fun _ h => absurd h List.not_mem_nil⟩⟩⟩⟩⟩⟩⟩⟩⟩⟩⟩⟩⟩⟩⟩⟩
theorem lw_p112 : lw_okq (⟨"NoiseFieldsModel", "isHeard", "([I)Z"⟩, 49) := ⟨⟨by decide +kernel, by decide +kernel⟩, List.mem_of_getElem? (i := 1488) (by decide +kernel), List.mem_of_getElem? (i := 1988) (by decide +kernel), List.mem_of_getElem? (i := 1989) (by decide +kernel)⟩
theorem lw_p113 : lw_okq (⟨"NoiseFieldsModel", "worstAt", "(I)I"⟩, 49) := ⟨⟨by decide +kernel, by decide +kernel⟩, List.mem_of_getElem? (i := 1488) (by decide +kernel), List.mem_of_getElem? (i := 2000) (by decide +kernel), List.mem_of_getElem? (i := 2001) (by decide +kernel)⟩
theorem lw_p114 : lw_okq (⟨"NoiseFieldsModel", "isBest", "(II)Z"⟩, 49) := ⟨⟨by decide +kernel, by decide +kernel⟩, List.mem_of_getElem? (i := 1488) (by decide +kernel), List.mem_of_getElem? (i := 2008) (by decide +kernel), List.mem_of_getElem? (i := 2009) (by decide +kernel)⟩
theorem lw_p115 : lw_okq (⟨"NoiseFieldsModel", "getsBy", "(II)I"⟩, 49) := ⟨⟨by decide +kernel, by decide +kernel⟩, List.mem_of_getElem? (i := 1488) (by decide +kernel), List.mem_of_getElem? (i := 2012) (by decide +kernel), List.mem_of_getElem? (i := 2013) (by decide +kernel)⟩
theorem lw_p116 : lw_okq (⟨"NoiseFieldsModel", "blights", "(III)V"⟩, 49) := ⟨⟨by decide +kernel, by decide +kernel⟩, List.mem_of_getElem? (i := 1488) (by decide +kernel), List.mem_of_getElem? (i := 2024) (by decide +kernel), List.mem_of_getElem? (i := 2025) (by decide +kernel)⟩
theorem lw_p117 : lw_okq (⟨"NoiseFieldsModel", "putsAll", "([IZ)V"⟩, 49) := ⟨⟨by decide +kernel, by decide +kernel⟩, List.mem_of_getElem? (i := 1488) (by decide +kernel), List.mem_of_getElem? (i := 2037) (by decide +kernel), List.mem_of_getElem? (i := 2038) (by decide +kernel)⟩
theorem lw_p118 : lw_okq (⟨"NoiseFieldsModel", "puts", "([IIZ)I"⟩, 49) := ⟨⟨by decide +kernel, by decide +kernel⟩, List.mem_of_getElem? (i := 1488) (by decide +kernel), List.mem_of_getElem? (i := 2041) (by decide +kernel), List.mem_of_getElem? (i := 2042) (by decide +kernel)⟩
def lw_privs_8 : List (MethodName × Nat) := [(⟨"NoiseFieldsModel", "isHeard", "([I)Z"⟩, 49), (⟨"NoiseFieldsModel", "worstAt", "(I)I"⟩, 49), (⟨"NoiseFieldsModel", "isBest", "(II)Z"⟩, 49), (⟨"NoiseFieldsModel", "getsBy", "(II)I"⟩, 49), (⟨"NoiseFieldsModel", "blights", "(III)V"⟩, 49), (⟨"NoiseFieldsModel", "putsAll", "([IZ)V"⟩, 49), (⟨"NoiseFieldsModel", "puts", "([IIZ)I"⟩, 49)]
theorem lw_r8 : ∀ q ∈ lw_privs_8, lw_okq q := List.forall_mem_cons.mpr ⟨lw_p112, List.forall_mem_cons.mpr ⟨lw_p113, List.forall_mem_cons.mpr ⟨lw_p114, List.forall_mem_cons.mpr ⟨lw_p115, List.forall_mem_cons.mpr ⟨lw_p116, List.forall_mem_cons.mpr ⟨lw_p117, List.forall_mem_cons.mpr ⟨lw_p118, fun _ h => absurd h List.not_mem_nil⟩⟩⟩⟩⟩⟩⟩
def lw_privs : List (MethodName × Nat) := lw_privs_1 ++ (lw_privs_2 ++ (lw_privs_3 ++ (lw_privs_4 ++ (lw_privs_5 ++ (lw_privs_6 ++ (lw_privs_7 ++ (lw_privs_8)))))))
def lw_tbl : List Cond := k2_sels lw_privs ++ tables_1
theorem lw_privs_ok : ∀ q ∈ lw_privs, lw_okq q := by
  show ∀ q ∈ lw_privs_1 ++ (lw_privs_2 ++ (lw_privs_3 ++ (lw_privs_4 ++ (lw_privs_5 ++ (lw_privs_6 ++ (lw_privs_7 ++ (lw_privs_8))))))), lw_okq q
  exact List.forall_mem_append.mpr ⟨lw_r1, List.forall_mem_append.mpr ⟨lw_r2, List.forall_mem_append.mpr ⟨lw_r3, List.forall_mem_append.mpr ⟨lw_r4, List.forall_mem_append.mpr ⟨lw_r5, List.forall_mem_append.mpr ⟨lw_r6, List.forall_mem_append.mpr ⟨lw_r7, lw_r8⟩⟩⟩⟩⟩⟩⟩
end
section
/-! ===== BEGIN words of one list among another's, by their places ===== -/
theorem goodIn_r {big : List Cond} (ws : List Cond) (ps : List Nat) (hp : ws = ps.filterMap (fun i => big[i]?)) (h : ws.all goodWord = true) : GoodIn big ws := by
  intro w hw
  have h1 := List.all_eq_true.mp h w hw
  rw [hp] at hw
  obtain ⟨i, -, hi⟩ := List.mem_filterMap.mp hw
  have hm : w ∈ big := by first | exact List.mem_of_getElem? hi | exact List.getElem?_mem hi
  exact ⟨hm, good_of_word h1⟩
theorem goodIn_app {big a b : List Cond} (ha : GoodIn big a) (hb : GoodIn big b) : GoodIn big (a ++ b) := fun w h => (List.mem_append.mp h).elim (ha w) (hb w)
theorem goodIn_ca {big a b : List Cond} {c : Cond} (ha : GoodIn big (c :: a)) (hb : GoodIn big b) : GoodIn big (c :: (a ++ b)) := fun w h => (List.mem_cons.mp h).elim (fun e => ha w (List.mem_cons.mpr (Or.inl e))) (fun h => (List.mem_append.mp h).elim (fun h => ha w (List.mem_cons.mpr (Or.inr h))) (hb w))
theorem goodIn_sub {big ws : List Cond} (hm : ∀ w ∈ ws, w ∈ big) (h : ws.all goodWord = true) : GoodIn big ws := fun w hw => ⟨hm w hw, good_of_word (List.all_eq_true.mp h w hw)⟩
/-! ===== END ===== -/

/-! ===== BEGIN new T[n][m]: the outer array a place, the inner ones among the pooled ===== -/
/-- f, but v at every address of l -/
def vr_up {α : Type} (f : Nat → α) (l : List Nat) (v : α) : Nat → α := fun a => if a ∈ l then v else f a
theorem vr_up_in {α : Type} {f : Nat → α} {l : List Nat} {v : α} {a : Nat} (h : a ∈ l) : vr_up f l v a = v := if_pos h
theorem vr_up_ne {α : Type} {f : Nat → α} {l : List Nat} {v : α} {a : Nat} (h : a ∉ l) : vr_up f l v a = f a := if_neg h
theorem vr_rows {L l : List Nat} {f : Nat → va_E} {e : va_E} (h : ∀ a, a ∈ l → a ∉ L) : va_pl L f ++ l.map (fun a => (a, e)) = va_pl (L ++ l) (vr_up f l e) := by
  unfold va_pl
  rw [List.map_append]
  congr 1
  · apply List.map_congr_left
    intro a ha
    rw [vr_up_ne (fun q => h a q ha)]
  · apply List.map_congr_left
    intro a ha
    rw [vr_up_in ha]
theorem vr_lay {X rows : va_W} {x : Nat × va_E} {pl : va_W} {D : va_G} {cl : List vw_C} {H : Heap} (hP : va_P D cl (((X ++ pl) ++ [x]) ++ rows) H) : va_P D cl ((X ++ [x]) ++ (pl ++ rows)) H := by
  rw [List.append_assoc (X ++ pl)] at hP
  have h := va_P.swap hP
  rw [← List.append_assoc X] at h
  have h2 := va_P.swap h
  rw [List.append_assoc (X ++ [x])] at h2
  exact h2
theorem vr_layD {X rows : va_W} {x : Nat × va_E} {pl : va_W} {A : Nat → Prop} (hD : va_D A (((X ++ pl) ++ [x]) ++ rows)) : va_D A ((X ++ [x]) ++ (pl ++ rows)) := by
  rw [List.append_assoc (X ++ pl)] at hD
  have h := va_D.swap hD
  rw [← List.append_assoc X] at h
  have h2 := va_D.swap h
  rw [List.append_assoc (X ++ [x])] at h2
  exact h2
theorem vr_outer (c : ClassId) (N h0 : Nat) : ∀ i : Nat, Jvm.Free.Multi.outerC c N h0 i = arrV c N (fun j => va_rf (if j < i then some (h0 + 1 + j) else none))
  | 0 => by
    show ({ cls := c, slots := Array.replicate N .null, vm := .none } : Cell) = _
    rw [arrV_new]
    refine congrArg (arrV c N) (funext fun j => ?_)
    simp [va_rf]
  | i + 1 => by
    show (Jvm.Free.Multi.outerC c N h0 i).setSlot i (.ref (h0 + 1 + i)) = _
    rw [vr_outer c N h0 i, arrV_store]
    refine congrArg (arrV c N) (funext fun j => ?_)
    by_cases e : j = i
    · subst e
      simp [updV, va_rf]
    · by_cases h : j < i
      · simp [updV, e, h, Nat.lt_succ_of_lt h]
      · simp [updV, e, h, show ¬ j < i + 1 by omega]
section VGM
variable {p : Program} {l : Launch} {e : Env} {R : Room} {s : State} {m : MethodId} {args : Array Value} {below : List Frame} {meth : Method} {c : Code} {H : Heap} {locs : List Loc} {cells slots : Nat} {Q : State → Prop}
variable {cc : ByteArray} {pc : Nat} {ls : Array Slot} {rest : List Value} {D : va_G} {cl : List vw_C} {A : Nat → Prop} {a : Nat} {tys : List (ClassId × FieldType)} {ws : va_W} {H0 : Heap}
end VGM
/-! ===== END ===== -/

/-! ===== BEGIN exceptions that leave a method, and their catching by the caller (launches without stack traces) ===== -/
section VXA
/-! The laws vx_back, vx_callV, vx_callS, vx_callSW, vx_throw0, vx_throwS follow proofs of the library, with one case more: JvmDerived/Free/Laws.lean (Back.of_free), Shelf42/LK1.lean (callV, callS), Shelf/KitTraced.lean (throwNew0V, throwNewS). -/

/-- where a method has thrown q: the class by its name, the cell, what was written, the world -/
def vx_T (XC : String → State → State → Prop) (st : State) (q : Addr) (t : State) (mc ms : Nat) (free : Addr → Prop) : Prop :=
  ∃ (E : String) (ce : Cell) (L : List Loc), XC E st t ∧ t.heap[q]? = some ce ∧ ce.vm = .none ∧ st.vm.findClass E = some ce.cls ∧ st.WarmedH t.vm ∧ st.sameButNew ({ t with vm := st.vm } : State) L mc ms ∧ ∀ z ∈ L, free z.base
def vx_Q (Qc : Array Value → State → Outcome → State → Prop) (XC : String → State → State → Prop) (mc ms : Nat) (free : Addr → Prop) : Array Value → State → Outcome → State → Prop := fun a st o t =>
  (Qc a st o t ∧ ∃ L, FrameEnd st o t L mc ms ∧ ∀ q ∈ L, free q.base) ∨ ∃ q, o = .threw q ∧ vx_T XC st q t mc ms free
/-- a callee that returns or throws -/
def vx_Met (l : Launch) (y : MethodName) (ws : List Cond) (rm : Room) (Pc : Array Value → State → Prop) (Qc : Array Value → State → Outcome → State → Prop) (XC : String → State → State → Prop) (mc ms : Nat) (free : Addr → Prop) : Prop :=
  MetFree l y (headSpec ws rm) Pc (fun _ _ _ _ _ => True) (vx_Q Qc XC mc ms free)
def vx_Post (XC : String → State → State → Prop) (mc ms : Nat) (free : Addr → Prop) : Pt → Array Value → Addr → Pt → Prop := fun A a q B =>
  ∃ (g : JFrame) (mk : MethodId) (t : State) (L : List Loc) (E : String) (ce : Cell), B.U.heap = t.heap ∧ B.U.vm = t.vm ∧ XC E (A.U.calling g mk a) t ∧ t.heap[q]? = some ce ∧ ce.vm = .none ∧ A.U.vm.findClass E = some ce.cls ∧ B.locs = A.locs ++ L ∧ (∀ z ∈ L, free z.base) ∧ B.cells = A.cells + mc ∧ B.slots = A.slots + ms
def vx_Back (l : Launch) (R : Room) (p : Program) (e : Env) (below : List Frame) (s : State) (sargs : Array Value) (y : MethodName) (len W9 : Nat)
    (Pre : Pt → Array Value → Prop) (Post : Pt → Array Value → Option Value → Pt → Prop) (PostX : Pt → Array Value → Addr → Pt → Prop) : Prop :=
  ∀ (m : MethodId) (meth : Method) (c : Code) (A : Pt) (g : JFrame) (ig : Instr) (mk : MethodId) (a : Array Value),
    Stand p l e R s m sargs below meth c A.U A.locs A.cells A.slots → g.method = m → g.locals.size = c.maxLocals → decode c.code g.pc = .ok (ig, len) →
    2 * g.monitorRoom + (g.stack.map fun v => v.category).sum ≤ W9 → A.U.methodNamed? y = some mk → Pre A a →
    (∃ (v : Option Value) (B : Pt), Stand p l e R s m sargs below meth c B.U B.locs B.cells B.slots ∧ Post A a v B ∧
      Steps p.tables e below (doInvoke e (A.U.setTop g) [] mk a).1 (B.U.setTop { g with pc := g.pc + len, stack := v.toList ++ g.stack })) ∨
    (∃ (q : Addr) (B : Pt), Stand p l e R s m sargs below meth c B.U B.locs B.cells B.slots ∧ PostX A a q B ∧
      Steps p.tables e below (doInvoke e (A.U.setTop g) [] mk a).1 ((B.U.setTop g).pushFrame (.throwing q)))
section Payer
variable {l : Launch} {R : Room} {p : Program} {e : Env} {below : List Frame} {s : State} {sargs : Array Value} {y : MethodName} {len W9 : Nat}
theorem vx_back {ws : List Cond} {rm : Room} {Pc : Array Value → State → Prop} {Qc : Array Value → State → Outcome → State → Prop} {XC : String → State → State → Prop} {mc ms : Nat} {free : Addr → Prop} {bytes : ByteArray} {maxL : Nat} {ret : Option FieldType}
    (hM : vx_Met l y ws rm Pc Qc XC mc ms free) (hblind : FrameBlind Pc) (hrc : rm.cells = mc) (hrs : rm.slots = ms)
    (hframes : rm.frames + 1 ≤ R.frames) (hlocals : W9 + (maxL + 11) + rm.locals ≤ R.locals)
    (hws : ∀ w ∈ ws, ∀ a' U, s.WarmedH U.vm → w.before a' U = true) (hcode : Cond.code y bytes maxL ret ∈ ws) (hinit : ∀ a' U, s.WarmedH U.vm → (Cond.initialized y.cls).before a' U = true) :
    vx_Back l R p e below s sargs y len W9 (PreOf R mc ms Pc) (PostOf Qc mc ms free) (vx_Post XC mc ms free) := by
  intro m meth c A g ig mk a X hg hsize hdg hW hn hp
  have h1 : (headSpec ws rm).pre.before a A.U = true := atoms_intro fun w hw => hws w hw _ _ X.warmed
  have h2 : (Cond.code y bytes maxL ret).before a A.U = true := hws _ hcode _ _ X.warmed
  have h3 : (Cond.initialized y.cls).before a A.U = true := hinit _ _ X.warmed
  have h4 : A.cells + (headSpec ws rm).room.cells ≤ R.cells := by rw [show (headSpec ws rm).room.cells = mc from hrc]; exact hp.1
  have h5 : A.slots + (headSpec ws rm).room.slots ≤ R.slots := by rw [show (headSpec ws rm).room.slots = ms from hrs]; exact hp.2.1
  have hPc : Pc a (A.U.calling g mk a) := hblind _ _ _ _ hp.2.2
  obtain ⟨U, Ls, c0, s0⟩ := A
  dsimp only [Pt.U, Pt.locs, Pt.cells, Pt.slots] at h1 h2 h3 h4 h5 X hn hPc ⊢
  obtain ⟨methY, cY, hmY, hcY, -, hlY, -, -, -, -⟩ := Cond.code_spec hn h2
  obtain ⟨kY, hkY, -⟩ := className_of_methodNamed hn
  have hinitY : kY.init = .initialized := Cond.initialized_spec (findClass_of_methodNamed hn) hkY h3
  have h : At U g.method c below := by rw [hg]; exact X.here
  have hlocals9 : W9 + (maxL + 11) + (headSpec ws rm).room.locals ≤ R.locals := hlocals
  have happ : (headSpec ws rm).appliesLoose y e.platform (U.calling g mk a) = true :=
    Spec.appliesLoose_calling (g := g) h hdg hn hkY hinitY
      (X.room_calling (g := g) (R' := (headSpec ws rm).room) hsize hmY hcY hframes (by rw [hlY]; omega) h4 h5) h1
  obtain ⟨mid, hmid⟩ := h.above
  have hfr : (U.setTop g).frames = (.java g :: mid) ++ below := by rw [State.frames_setTop' g h.top, hmid]; rfl
  obtain ⟨o, s₂, hsteps, -, hend, hq⟩ := Steps.callFree hM p X.admits X.cas X.clock (acts := []) hfr happ hPc trivial
  have hq' : vx_Q Qc XC mc ms free a (U.calling g mk a) o s₂ := hq
  rw [State.frames_setTop' g h.top] at hend
  obtain ⟨g₀, hg0⟩ := Option.isSome_iff_exists.mp h.top
  obtain ⟨r, hr⟩ := State.topJava?_eq_some.mp hg0
  have hr' : (({ U with heap := s₂.heap, slotsUsed := s₂.slotsUsed } : State).setVm s₂.vm).frames = .java g₀ :: r := hr
  rcases hq' with ⟨hqc, L, hfe, hL⟩ | ⟨q, rfl, E, ce, L, hx, hce, hcv, hcl, hW₂, hsm, hL⟩
  · obtain ⟨⟨v, rfl⟩, hW₂, e2, q2, q3, q4, q5, q6⟩ := id hfe
    have e3 : s₂ = ({ (U.calling g mk a).setFrames s₂.frames with heap := s₂.heap, slotsUsed := s₂.slotsUsed } : State).setVm s₂.vm := by
      have : s₂ = ({ s₂ with vm := (U.calling g mk a).vm } : State).setVm s₂.vm := rfl
      rw [e2] at this
      exact this
    obtain ⟨c₂, i₂, len₂, hc₂, hd₂, hf₂⟩ := hend
    have hW' : U.WarmedH s₂.vm := hW₂
    have hcc : c₂ = c := by
      have h1 : s₂.code? g.method = U.code? g.method := by
        rw [State.code?_eq, State.code?_eq, hW'.alike.method?]
      exact Option.some.inj (hc₂.symm.trans (h1.trans h.code))
    subst hcc
    have hlen : len₂ = len := by rw [hdg] at hd₂; cases hd₂; rfl
    subst hlen
    have hs₂ : s₂ = (({ U with heap := s₂.heap, slotsUsed := s₂.slotsUsed } : State).setVm s₂.vm).setTop { g with pc := g.pc + len₂, stack := v.toList ++ g.stack } := by
      refine e3.trans ?_
      rw [hf₂, State.calling_eq h.top, State.setFrames_setFrames, State.setTop_of_frames _ hr', hr]
      rfl
    have hsame : U.sameButNew ({ U with heap := s₂.heap, slotsUsed := s₂.slotsUsed } : State) L mc ms := by
      refine ⟨?_, q2, q3, q4, q5, q6⟩
      obtain ⟨t, ht, -⟩ := State.frames_cons hr
      show ({ U with heap := s₂.heap, slotsUsed := s₂.slotsUsed } : State) = { U.setFrames U.frames with heap := s₂.heap, slotsUsed := s₂.slotsUsed }
      rw [State.setFrames_self ht]
    subst hg
    refine Or.inl ⟨v, ⟨(({ U with heap := s₂.heap, slotsUsed := s₂.slotsUsed } : State).setVm s₂.vm), Ls ++ L, c0 + mc, s0 + ms⟩,
      ⟨X.admits, X.cas, X.clock, X.frames, X.room, X.hears, X.method, X.code, (X.here.setHeapUsed s₂.heap s₂.slotsUsed).setVm hW'.alike, X.tail, State.WarmedH.trans X.warmed hW', X.limits, X.bytes, X.same.trans (hsame.setVm s.vm)⟩,
      ⟨g, mk, s₂, L, rfl, rfl, hqc, rfl, hL, rfl, rfl⟩, ?_⟩
    show Steps p.tables e below _ ((({ U with heap := s₂.heap, slotsUsed := s₂.slotsUsed } : State).setVm s₂.vm).setTop { g with pc := g.pc + len₂, stack := v.toList ++ g.stack })
    rw [← hs₂]
    exact hsteps
  · obtain ⟨e2, q2, q3, q4, q5, q6⟩ := id hsm
    have e3 : s₂ = ({ (U.calling g mk a).setFrames s₂.frames with heap := s₂.heap, slotsUsed := s₂.slotsUsed } : State).setVm s₂.vm := by
      have : s₂ = ({ s₂ with vm := (U.calling g mk a).vm } : State).setVm s₂.vm := rfl
      rw [e2] at this
      exact this
    have hf₂ : s₂.frames = .throwing q :: .java g :: U.frames.tail := hend
    have hW' : U.WarmedH s₂.vm := hW₂
    have hs₂ : s₂ = ((({ U with heap := s₂.heap, slotsUsed := s₂.slotsUsed } : State).setVm s₂.vm).setTop g).pushFrame (.throwing q) := by
      refine e3.trans ?_
      rw [hf₂, State.calling_eq h.top, State.setFrames_setFrames, State.pushFrame, State.frames_setTop _ hr', State.setTop_of_frames _ hr', State.setFrames_setFrames, hr]
      rfl
    have hsame : U.sameButNew ({ U with heap := s₂.heap, slotsUsed := s₂.slotsUsed } : State) L mc ms := by
      refine ⟨?_, q2, q3, q4, q5, q6⟩
      obtain ⟨t, ht, -⟩ := State.frames_cons hr
      show ({ U with heap := s₂.heap, slotsUsed := s₂.slotsUsed } : State) = { U.setFrames U.frames with heap := s₂.heap, slotsUsed := s₂.slotsUsed }
      rw [State.setFrames_self ht]
    subst hg
    refine Or.inr ⟨q, ⟨(({ U with heap := s₂.heap, slotsUsed := s₂.slotsUsed } : State).setVm s₂.vm), Ls ++ L, c0 + mc, s0 + ms⟩,
      ⟨X.admits, X.cas, X.clock, X.frames, X.room, X.hears, X.method, X.code, (X.here.setHeapUsed s₂.heap s₂.slotsUsed).setVm hW'.alike, X.tail, State.WarmedH.trans X.warmed hW', X.limits, X.bytes, X.same.trans (hsame.setVm s.vm)⟩,
      ⟨g, mk, s₂, L, E, ce, rfl, rfl, hx, hce, hcv, hcl, rfl, hL, rfl, rfl⟩, ?_⟩
    show Steps p.tables e below _ (((({ U with heap := s₂.heap, slotsUsed := s₂.slotsUsed } : State).setVm s₂.vm).setTop g).pushFrame (.throwing q))
    rw [← hs₂]
    exact hsteps
end Payer
section Calls
variable {p : Program} {l : Launch} {e : Env} {R : Room} {s : State} {m : MethodId} {args : Array Value} {below : List Frame} {meth : Method} {c : Code} {T : State} {locs : List Loc} {cells slots : Nat}
theorem vx_callV (X : Stand p l e R s m args below meth c T locs cells slots) (hexec : p.tables.exec = Jvm.exec) {own C : String} {index : Nat} {y : MethodName} {bytes : ByteArray} {maxL : Nat} {ret : Option FieldType}
    (hown : s.vm.findClass own = some m.cls) (hlink : (Cond.methodLink own index y).before args s = true) (hinst : (Cond.instanceMethod y).before args s = true) (hsel : (Cond.selects C y y).before args s = true)
    (hcode : (Cond.code y bytes maxL ret).before args s = true) (hy : y.cls ≠ "java/lang/invoke/MethodHandle" ∧ y.cls ≠ "java/lang/invoke/VarHandle")
    {W9 : Nat} {Pre : Pt → Array Value → Prop} {Post : Pt → Array Value → Option Value → Pt → Prop} {PostX : Pt → Array Value → Addr → Pt → Prop} (hK : vx_Back l R p e below s args y 3 W9 Pre Post PostX)
    {b : Addr} {cellB : Cell} (hcell : T.heap[b]? = some cellB) (hobj : cellB.vm.isStatics = false) (hcls : s.vm.findClass C = some cellB.cls)
    {g : JFrame} (hg : g.method = m) (hsize : g.locals.size = c.maxLocals) {argsL rest : List Value} (hlen : ∀ sig, parseMethodDescriptor y.desc = some sig → argsL.length = sig.parameters.length)
    (hstack : g.stack = argsL.reverse ++ .ref b :: rest) (hW : 2 * g.monitorRoom + (rest.map fun v => v.category).sum ≤ W9) (hdg : decode c.code g.pc = .ok (.invokevirtual index, 3))
    (hpre : ∀ vm₁, s.WarmedH vm₁ → Pre ⟨T.setVm vm₁, locs, cells, slots⟩ (Value.ref b :: argsL).toArray) :
    (∃ (v : Option Value) (vm₁ : Vm) (B : Pt), s.WarmedH vm₁ ∧ Stand p l e R s m args below meth c B.U B.locs B.cells B.slots ∧ Post ⟨T.setVm vm₁, locs, cells, slots⟩ (Value.ref b :: argsL).toArray v B ∧
      ∀ target, Steps p.tables e below (B.U.setTop { g with pc := g.pc + 3, stack := v.toList ++ rest }) target → Steps p.tables e below (T.setTop g) target) ∨
    (∃ (q : Addr) (vm₁ : Vm) (B : Pt), s.WarmedH vm₁ ∧ Stand p l e R s m args below meth c B.U B.locs B.cells B.slots ∧ PostX ⟨T.setVm vm₁, locs, cells, slots⟩ (Value.ref b :: argsL).toArray q B ∧
      Steps p.tables e below (T.setTop g) ((B.U.setTop { g with stack := rest }).pushFrame (.throwing q))) := by
  obtain ⟨mk, methM, hnamed, hmethM, hstM, habM⟩ := Cond.instanceMethod_spec hinst
  obtain ⟨methM', cM, hmethM', -, -, -, -, -, -, hsigM⟩ := Cond.code_spec hnamed hcode
  cases hmethM.symm.trans hmethM'
  obtain ⟨c2, r2, m2, q1, q2, q3, q4, kP, hkP, hkPi⟩ := Cond.selects_spec hsel
  cases hcls.symm.trans q1
  cases (State.methodFound?_of_named hnamed hy).symm.trans q2
  cases hnamed.symm.trans q3
  have hselP : selectMethod e.platform s.vm cellB.cls mk = .method mk := by rw [Launch.admits_selectMethod X.admits]; exact q4
  obtain ⟨vm₁, X₁, hstep₁⟩ := X.invokevirtual hexec hown hlink hnamed hmethM hstM hkP hkPi hy (a := b) (cell := cellB) hcell
    (fun z h => by rw [h] at hobj; cases hobj) hselP hmethM habM hkP hkPi (g := g) hg (argsL := argsL) (rest := rest) (hlen _ hsigM) hstack hdg
  rcases hK m meth c ⟨T.setVm vm₁, locs, cells, slots⟩ { g with stack := rest } (.invokevirtual index) mk (Value.ref b :: argsL).toArray X₁ hg hsize hdg hW (X₁.named hnamed) (hpre vm₁ X₁.warmed) with ⟨v, B, X', hpost, hsteps⟩ | ⟨q, B, X', hpost, hsteps⟩
  · exact Or.inl ⟨v, vm₁, B, X₁.warmed, X', hpost, fun target h => hstep₁ _ fun acts => by rw [doInvoke_state]; exact hsteps.trans h⟩
  · exact Or.inr ⟨q, vm₁, B, X₁.warmed, X', hpost, hstep₁ _ fun acts => by rw [doInvoke_state]; exact hsteps⟩
theorem vx_callS (X : Stand p l e R s m args below meth c T locs cells slots) (hexec : p.tables.exec = Jvm.exec) {own : String} {index : Nat} {y : MethodName} {bytes : ByteArray} {maxL : Nat} {ret : Option FieldType}
    (hown : s.vm.findClass own = some m.cls) (hlink : (Cond.methodLink own index y).before args s = true) (hstat : (Cond.static y).before args s = true) (hinit : (Cond.initialized y.cls).before args s = true)
    (hcode : (Cond.code y bytes maxL ret).before args s = true) (hy : y.cls ≠ "java/lang/invoke/MethodHandle" ∧ y.cls ≠ "java/lang/invoke/VarHandle")
    {W9 : Nat} {Pre : Pt → Array Value → Prop} {Post : Pt → Array Value → Option Value → Pt → Prop} {PostX : Pt → Array Value → Addr → Pt → Prop} (hK : vx_Back l R p e below s args y 3 W9 Pre Post PostX)
    {g : JFrame} (hg : g.method = m) (hsize : g.locals.size = c.maxLocals) {argsL rest : List Value} (hlen : ∀ sig, parseMethodDescriptor y.desc = some sig → argsL.length = sig.parameters.length)
    (hstack : g.stack = argsL.reverse ++ rest) (hW : 2 * g.monitorRoom + (rest.map fun v => v.category).sum ≤ W9) (hdg : decode c.code g.pc = .ok (.invokestatic index, 3))
    (hpre : ∀ vm₁, s.WarmedH vm₁ → Pre ⟨T.setVm vm₁, locs, cells, slots⟩ argsL.toArray) :
    (∃ (v : Option Value) (vm₁ : Vm) (B : Pt), s.WarmedH vm₁ ∧ Stand p l e R s m args below meth c B.U B.locs B.cells B.slots ∧ Post ⟨T.setVm vm₁, locs, cells, slots⟩ argsL.toArray v B ∧
      ∀ target, Steps p.tables e below (B.U.setTop { g with pc := g.pc + 3, stack := v.toList ++ rest }) target → Steps p.tables e below (T.setTop g) target) ∨
    (∃ (q : Addr) (vm₁ : Vm) (B : Pt), s.WarmedH vm₁ ∧ Stand p l e R s m args below meth c B.U B.locs B.cells B.slots ∧ PostX ⟨T.setVm vm₁, locs, cells, slots⟩ argsL.toArray q B ∧
      Steps p.tables e below (T.setTop g) ((B.U.setTop { g with stack := rest }).pushFrame (.throwing q))) := by
  obtain ⟨mk, hnamed⟩ := Cond.code_named hcode
  obtain ⟨methM, cM, hmethM, -, -, -, -, -, -, hsigM⟩ := Cond.code_spec hnamed hcode
  have hstatic : methM.isStatic = true := Cond.static_spec hnamed hmethM hstat
  obtain ⟨kP, hkP, -⟩ := className_of_methodNamed hnamed
  have hinitP : kP.init = .initialized := Cond.initialized_spec (findClass_of_methodNamed hnamed) hkP hinit
  obtain ⟨vm₁, X₁, hstep₁⟩ := X.invokestatic hexec hown hlink hnamed hmethM hstatic hkP hinitP hy (g := g) hg (argsL := argsL) (rest := rest) (hlen _ hsigM) hstack hdg
  rcases hK m meth c ⟨T.setVm vm₁, locs, cells, slots⟩ { g with stack := rest } (.invokestatic index) mk argsL.toArray X₁ hg hsize hdg hW (X₁.named hnamed) (hpre vm₁ X₁.warmed) with ⟨v, B, X', hpost, hsteps⟩ | ⟨q, B, X', hpost, hsteps⟩
  · exact Or.inl ⟨v, vm₁, B, X₁.warmed, X', hpost, fun target h => hstep₁ _ fun acts => by rw [doInvoke_state]; exact hsteps.trans h⟩
  · exact Or.inr ⟨q, vm₁, B, X₁.warmed, X', hpost, hstep₁ _ fun acts => by rw [doInvoke_state]; exact hsteps⟩
end Calls
theorem vx_cls {s : State} {T : State} {vm₁ : Vm} {E : String} {k : ClassId} (hW : s.WarmedH vm₁) (h : (T.setVm vm₁).vm.findClass E = some k) : s.vm.findClass E = some k := by
  have h1 : vm₁.findClass E = some k := h
  rw [hW.alike.findClass] at h1
  exact h1
/-- the method's frame g, with q thrown over it -/
def vx_W (p : Program) (l : Launch) (e : Env) (R : Room) (s : State) (m : MethodId) (args : Array Value) (below : List Frame) (meth : Method) (c : Code) (H : Heap) (locs : List Loc) (cells slots : Nat) (Q : State → Prop) (g : JFrame) (q : Addr) : Prop :=
  ∀ T : State, T.heap = H → Stand p l e R s m args below meth c T locs cells slots → ∃ t, Steps p.tables e below ((T.setTop g).pushFrame (.throwing q)) t ∧ Q t
def vx_Run (p : Program) (l : Launch) (e : Env) (R : Room) (s : State) (m : MethodId) (args : Array Value) (below : List Frame) (meth : Method) (c : Code) (H : Heap) (locs : List Loc) (cells slots mc ms : Nat) (g : JFrame) (rest : List Value) (Qa : State → Outcome → State → Prop) (XC : String → State → State → Prop) (free : Addr → Prop) : Prop :=
  ∀ T : State, T.heap = H → Stand p l e R s m args below meth c T locs cells slots →
    (∃ (v : Option Value) (st₀ t T' : State) (L : List Loc), st₀.heap = H ∧ Stand p l e R s m args below meth c T' (locs ++ L) (cells + mc) (slots + ms) ∧ (∀ q ∈ L, free q.base) ∧ T'.heap = t.heap ∧ T'.vm = t.vm ∧ Qa st₀ (.returned v) t ∧
      Goes p e below T g T' { g with pc := g.pc + 3, stack := v.toList ++ rest }) ∨
    (∃ (q : Addr) (st₀ t T' : State) (L : List Loc) (E : String) (ce : Cell), st₀.heap = H ∧ Stand p l e R s m args below meth c T' (locs ++ L) (cells + mc) (slots + ms) ∧ (∀ z ∈ L, free z.base) ∧ T'.heap = t.heap ∧ T'.vm = t.vm ∧ XC E st₀ t ∧ t.heap[q]? = some ce ∧ ce.vm = .none ∧ s.vm.findClass E = some ce.cls ∧
      Steps p.tables e below (T.setTop g) ((T'.setTop { g with stack := rest }).pushFrame (.throwing q)))
def vx_X {S : Type} (px : S → Prop) (B : String → S → State → Prop) (A : Nat → Prop) : String → State → State → Prop := fun E st t => ∃ u : S, px u ∧ B E u t ∧ va_F A st t
section Runs
variable {p : Program} {l : Launch} {e : Env} {R : Room} {s : State} {m : MethodId} {args : Array Value} {below : List Frame} {meth : Method} {c : Code} {H : Heap} {locs : List Loc} {cells slots : Nat}
variable {y : MethodName} {bytes cc : ByteArray} {maxL nL mc ms n index : Nat} {ret : Option FieldType} {ws : List Cond} {rm : Room} {Pc : Array Value → State → Prop} {Qc : Array Value → State → Outcome → State → Prop} {XC : String → State → State → Prop} {free : Addr → Prop} {Ts : List Cond} {own C : String} {b : Addr} {As rest : List Value} {g : JFrame}
theorem vx_callBack (cb : CallB R s args own index y bytes maxL ret ws rm mc ms n) (hM : vx_Met l y ws rm Pc Qc XC mc ms free) (hbl : FrameBlind Pc) : vx_Back l R p e below s args y 3 8 (PreOf R mc ms Pc) (PostOf Qc mc ms free) (vx_Post XC mc ms free) := by
  obtain ⟨hrc, hrs, hfr, hlo, hws, hcw, -, hini, -⟩ := cb
  exact vx_back (bytes := bytes) (maxL := maxL) (ret := ret) hM hbl hrc hrs hfr hlo hws hcw (fun a' U hW => word_at hW (Or.inl (by first | rfl | simp [Cond.onTables, Cond.keeps, Cond.steady])) hini)
theorem vx_runV (S : CallFix p m c cc nL s args Ts own) (hM : vx_Met l y ws rm Pc Qc XC mc ms free) (cw : CallW R s args own C index y bytes maxL ret ws rm mc ms n) (hp : PreV s H C b Pc As)
    (hg : g.method = m) (hn : As.length = n) (hsize : g.locals.size = nL) (hstack : g.stack = As.reverse ++ .ref b :: rest) (hW : 2 * g.monitorRoom + (rest.map fun v => v.category).sum ≤ 8) (hdg : decode cc g.pc = .ok (.invokevirtual index, 3)) (hf : cells + mc ≤ R.cells ∧ slots + ms ≤ R.slots) :
    vx_Run p l e R s m args below meth c H locs cells slots mc ms g rest (Qc (Value.ref b :: As).toArray) XC free := by
  have hK : vx_Back l R p e below s args y 3 8 (PreOf R mc ms Pc) (PostOf Qc mc ms free) (vx_Post XC mc ms free) := vx_callBack cw.1 hM hp.1
  obtain ⟨⟨-, -, -, -, -, -, hcode, -, hy, hlen, hl⟩, hin, hse⟩ := cw
  obtain ⟨hx, hb, hml, ho, -⟩ := S
  obtain ⟨-, ⟨cellB, hcB, hoB, hclB⟩, hPc⟩ := hp
  intro T hT X
  rcases vx_callV X hx (C := C) (bytes := bytes) (maxL := maxL) (ret := ret) ho hl hin hse hcode hy hK (by rw [hT]; exact hcB) hoB hclB hg (hsize.trans hml.symm) (argsL := As) (rest := rest) (fun sig h => hn.trans (hlen sig h)) hstack hW (by rw [hb]; exact hdg)
    (fun vm₁ hW₁ => ⟨hf.1, hf.2, hPc (T.setVm vm₁) hT hW₁⟩) with ⟨v, vm₁, ⟨U', l2, c2, s2⟩, hW₁, X', ⟨g', mk, t, L, e1, e2, hq, h1, hL, h2, h3⟩, st⟩ | ⟨q, vm₁, ⟨U', l2, c2, s2⟩, hW₁, X', ⟨g', mk, t, L, E, ce, e1, e2, hq, hce, hcv, hcl, h1, hL, h2, h3⟩, st⟩
  · dsimp only [Pt.U, Pt.locs, Pt.cells, Pt.slots] at X' e1 e2 h1 h2 h3 st
    subst h1; subst h2; subst h3
    exact Or.inl ⟨v, (T.setVm vm₁).calling g' mk (Value.ref b :: As).toArray, t, U', L, hT, X', hL, e1, e2, hq, st⟩
  · dsimp only [Pt.U, Pt.locs, Pt.cells, Pt.slots] at X' e1 e2 h1 h2 h3 st hcl
    subst h1; subst h2; subst h3
    exact Or.inr ⟨q, (T.setVm vm₁).calling g' mk (Value.ref b :: As).toArray, t, U', L, E, ce, hT, X', hL, e1, e2, hq, hce, hcv, vx_cls hW₁ hcl, st⟩
theorem vx_runS (S : CallFix p m c cc nL s args Ts own) (hM : vx_Met l y ws rm Pc Qc XC mc ms free) (cw : CallB R s args own index y bytes maxL ret ws rm mc ms n ∧ (Cond.static y).before args s = true) (hp : PreS s H Pc As)
    (hg : g.method = m) (hn : As.length = n) (hsize : g.locals.size = nL) (hstack : g.stack = As.reverse ++ rest) (hW : 2 * g.monitorRoom + (rest.map fun v => v.category).sum ≤ 8) (hdg : decode cc g.pc = .ok (.invokestatic index, 3)) (hf : cells + mc ≤ R.cells ∧ slots + ms ≤ R.slots) :
    vx_Run p l e R s m args below meth c H locs cells slots mc ms g rest (Qc As.toArray) XC free := by
  have hK : vx_Back l R p e below s args y 3 8 (PreOf R mc ms Pc) (PostOf Qc mc ms free) (vx_Post XC mc ms free) := vx_callBack cw.1 hM hp.1
  obtain ⟨⟨-, -, -, -, -, -, hcode, hini, hy, hlen, hl⟩, hstt⟩ := cw
  obtain ⟨hx, hb, hml, ho, -⟩ := S
  intro T hT X
  rcases vx_callS X hx (bytes := bytes) (maxL := maxL) (ret := ret) ho hl hstt hini hcode hy hK hg (hsize.trans hml.symm) (argsL := As) (rest := rest) (fun sig h => hn.trans (hlen sig h)) hstack hW (by rw [hb]; exact hdg)
    (fun vm₁ hW₁ => ⟨hf.1, hf.2, hp.2 (T.setVm vm₁) hT hW₁⟩) with ⟨v, vm₁, ⟨U', l2, c2, s2⟩, hW₁, X', ⟨g', mk, t, L, e1, e2, hq, h1, hL, h2, h3⟩, st⟩ | ⟨q, vm₁, ⟨U', l2, c2, s2⟩, hW₁, X', ⟨g', mk, t, L, E, ce, e1, e2, hq, hce, hcv, hcl, h1, hL, h2, h3⟩, st⟩
  · dsimp only [Pt.U, Pt.locs, Pt.cells, Pt.slots] at X' e1 e2 h1 h2 h3 st
    subst h1; subst h2; subst h3
    exact Or.inl ⟨v, (T.setVm vm₁).calling g' mk As.toArray, t, U', L, hT, X', hL, e1, e2, hq, st⟩
  · dsimp only [Pt.U, Pt.locs, Pt.cells, Pt.slots] at X' e1 e2 h1 h2 h3 st hcl
    subst h1; subst h2; subst h3
    exact Or.inr ⟨q, (T.setVm vm₁).calling g' mk As.toArray, t, U', L, E, ce, hT, X', hL, e1, e2, hq, hce, hcv, vx_cls hW₁ hcl, st⟩
end Runs
section Rows
variable {p : Program} {l : Launch} {e : Env} {R : Room} {s : State} {m : MethodId} {args : Array Value} {below : List Frame} {meth : Method} {c : Code} {H : Heap} {locs : List Loc} {cells slots : Nat} {Q : State → Prop}
variable {mc ms : Nat} {free : Addr → Prop} {A0 A1 : Nat → Prop} {H0 : Heap} {a : Array Value} {pc : Nat} {ls : Array Slot} {st0 rest : List Value}
theorem vx_keep {st₀ t T' : State} {L : List Loc} (h0 : st₀.heap = H) (e1 : T'.heap = t.heap) (hS : va_S A0 H0 H locs) (hA : ∀ q, q < H.size → A1 q → A0 q) (hf : ∀ q, free q → A0 q) (hL : ∀ q ∈ L, free q.base) (hF : va_F A1 st₀ t) :
    H.size ≤ T'.heap.size ∧ (∀ q : Nat, q < H.size → ¬ A1 q → T'.heap[q]? = H[q]?) ∧ va_S A0 H0 T'.heap (locs ++ L) := by
  obtain ⟨hz, hk⟩ := hF
  rw [h0] at hz hk
  exact ⟨by rw [e1]; exact hz, fun q h1 h2 => by rw [e1]; exact hk q h1 h2,
    ⟨Nat.le_trans hS.1 (by rw [e1]; exact hz), fun q h1 h2 => by rw [e1, hk q (Nat.lt_of_lt_of_le h1 hS.1) (fun z => h2 (hA q (Nat.lt_of_lt_of_le h1 hS.1) z))]; exact hS.2.1 q h1 h2, fun q hq => by
      rcases List.mem_append.mp hq with h | h
      · exact hS.2.2 q h
      · exact hf _ (hL q h)⟩⟩
theorem vx_calli {S SX : Type} {post : Int32 → S → Prop} {px : SX → Prop} {B : S → State → Prop} {BX : String → SX → State → Prop} {AX : Nat → Prop} (hr : vx_Run p l e R s m args below meth c H locs cells slots mc ms (F0 m pc ls st0) rest (va_Qi post B A1 a) (vx_X px BX AX) free) (hS : va_S A0 H0 H locs) (hA : ∀ q, q < H.size → A1 q → A0 q) (hf : ∀ q, free q → A0 q) (hAX : ∀ q, q < H.size → AX q → A0 q)
    (kx : ∀ (E : String) (ce : Cell) (q9 : Addr) (u : SX) (t : State) (H1 : Heap) (locs1 : List Loc), t.heap = H1 → s.vm.Alike t.vm → px u → BX E u t → H.size ≤ H1.size → (∀ q : Nat, q < H.size → ¬ AX q → H1[q]? = H[q]?) → va_S A0 H0 H1 locs1 → H1[q9]? = some ce → ce.vm = .none → s.vm.findClass E = some ce.cls → vx_W p l e R s m args below meth c H1 locs1 (cells + mc) (slots + ms) Q (F0 m pc ls rest) q9)
    (kk : ∀ (r : Int32) (u : S) (t : State) (H1 : Heap) (locs1 : List Loc), t.heap = H1 → s.vm.Alike t.vm → post r u → B u t → H.size ≤ H1.size → (∀ q : Nat, q < H.size → ¬ A1 q → H1[q]? = H[q]?) → va_S A0 H0 H1 locs1 → W p l e R s m args below meth c H1 locs1 (cells + mc) (slots + ms) Q (F0 m (pc + 3) ls (.int r :: rest))) : W p l e R s m args below meth c H locs cells slots Q (F0 m pc ls st0) := by
  intro T hT X
  rcases hr T hT X with ⟨v, st₀, t, T', L, h0, X', hL, e1, e2, ⟨⟨r, u, hv, hp, hb⟩, hF⟩, st⟩ | ⟨q, st₀, t, T', L, E, ce, h0, X', hL, e1, e2, ⟨u, hp, hb, hF⟩, hce, hcv, hcl, st⟩
  · cases hv
    obtain ⟨k1, k2, k3⟩ := vx_keep h0 e1 hS hA hf hL hF
    obtain ⟨t2, a1, b1⟩ := kk r u t T'.heap (locs ++ L) e1.symm (by rw [← e2]; exact X'.warmed.alike) hp hb k1 k2 k3 T' rfl X'
    exact ⟨t2, st t2 a1, b1⟩
  · obtain ⟨k1, k2, k3⟩ := vx_keep h0 e1 hS hAX hf hL hF
    obtain ⟨t2, a1, b1⟩ := kx E ce q u t T'.heap (locs ++ L) e1.symm (by rw [← e2]; exact X'.warmed.alike) hp hb k1 k2 k3 (by rw [e1]; exact hce) hcv hcl T' rfl X'
    exact ⟨t2, st.trans a1, b1⟩
theorem vx_calll {S SX : Type} {post : Int64 → S → Prop} {px : SX → Prop} {B : S → State → Prop} {BX : String → SX → State → Prop} {AX : Nat → Prop} (hr : vx_Run p l e R s m args below meth c H locs cells slots mc ms (F0 m pc ls st0) rest (va_Ql post B A1 a) (vx_X px BX AX) free) (hS : va_S A0 H0 H locs) (hA : ∀ q, q < H.size → A1 q → A0 q) (hf : ∀ q, free q → A0 q) (hAX : ∀ q, q < H.size → AX q → A0 q)
    (kx : ∀ (E : String) (ce : Cell) (q9 : Addr) (u : SX) (t : State) (H1 : Heap) (locs1 : List Loc), t.heap = H1 → s.vm.Alike t.vm → px u → BX E u t → H.size ≤ H1.size → (∀ q : Nat, q < H.size → ¬ AX q → H1[q]? = H[q]?) → va_S A0 H0 H1 locs1 → H1[q9]? = some ce → ce.vm = .none → s.vm.findClass E = some ce.cls → vx_W p l e R s m args below meth c H1 locs1 (cells + mc) (slots + ms) Q (F0 m pc ls rest) q9)
    (kk : ∀ (r : Int64) (u : S) (t : State) (H1 : Heap) (locs1 : List Loc), t.heap = H1 → s.vm.Alike t.vm → post r u → B u t → H.size ≤ H1.size → (∀ q : Nat, q < H.size → ¬ A1 q → H1[q]? = H[q]?) → va_S A0 H0 H1 locs1 → W p l e R s m args below meth c H1 locs1 (cells + mc) (slots + ms) Q (F0 m (pc + 3) ls (.long r :: rest))) : W p l e R s m args below meth c H locs cells slots Q (F0 m pc ls st0) := by
  intro T hT X
  rcases hr T hT X with ⟨v, st₀, t, T', L, h0, X', hL, e1, e2, ⟨⟨r, u, hv, hp, hb⟩, hF⟩, st⟩ | ⟨q, st₀, t, T', L, E, ce, h0, X', hL, e1, e2, ⟨u, hp, hb, hF⟩, hce, hcv, hcl, st⟩
  · cases hv
    obtain ⟨k1, k2, k3⟩ := vx_keep h0 e1 hS hA hf hL hF
    obtain ⟨t2, a1, b1⟩ := kk r u t T'.heap (locs ++ L) e1.symm (by rw [← e2]; exact X'.warmed.alike) hp hb k1 k2 k3 T' rfl X'
    exact ⟨t2, st t2 a1, b1⟩
  · obtain ⟨k1, k2, k3⟩ := vx_keep h0 e1 hS hAX hf hL hF
    obtain ⟨t2, a1, b1⟩ := kx E ce q u t T'.heap (locs ++ L) e1.symm (by rw [← e2]; exact X'.warmed.alike) hp hb k1 k2 k3 (by rw [e1]; exact hce) hcv hcl T' rfl X'
    exact ⟨t2, st.trans a1, b1⟩
theorem vx_callf {S SX : Type} {post : UInt32 → S → Prop} {px : SX → Prop} {B : S → State → Prop} {BX : String → SX → State → Prop} {AX : Nat → Prop} (hr : vx_Run p l e R s m args below meth c H locs cells slots mc ms (F0 m pc ls st0) rest (va_Qf post B A1 a) (vx_X px BX AX) free) (hS : va_S A0 H0 H locs) (hA : ∀ q, q < H.size → A1 q → A0 q) (hf : ∀ q, free q → A0 q) (hAX : ∀ q, q < H.size → AX q → A0 q)
    (kx : ∀ (E : String) (ce : Cell) (q9 : Addr) (u : SX) (t : State) (H1 : Heap) (locs1 : List Loc), t.heap = H1 → s.vm.Alike t.vm → px u → BX E u t → H.size ≤ H1.size → (∀ q : Nat, q < H.size → ¬ AX q → H1[q]? = H[q]?) → va_S A0 H0 H1 locs1 → H1[q9]? = some ce → ce.vm = .none → s.vm.findClass E = some ce.cls → vx_W p l e R s m args below meth c H1 locs1 (cells + mc) (slots + ms) Q (F0 m pc ls rest) q9)
    (kk : ∀ (r : UInt32) (u : S) (t : State) (H1 : Heap) (locs1 : List Loc), t.heap = H1 → s.vm.Alike t.vm → post r u → B u t → H.size ≤ H1.size → (∀ q : Nat, q < H.size → ¬ A1 q → H1[q]? = H[q]?) → va_S A0 H0 H1 locs1 → W p l e R s m args below meth c H1 locs1 (cells + mc) (slots + ms) Q (F0 m (pc + 3) ls (.float r :: rest))) : W p l e R s m args below meth c H locs cells slots Q (F0 m pc ls st0) := by
  intro T hT X
  rcases hr T hT X with ⟨v, st₀, t, T', L, h0, X', hL, e1, e2, ⟨⟨r, u, hv, hp, hb⟩, hF⟩, st⟩ | ⟨q, st₀, t, T', L, E, ce, h0, X', hL, e1, e2, ⟨u, hp, hb, hF⟩, hce, hcv, hcl, st⟩
  · cases hv
    obtain ⟨k1, k2, k3⟩ := vx_keep h0 e1 hS hA hf hL hF
    obtain ⟨t2, a1, b1⟩ := kk r u t T'.heap (locs ++ L) e1.symm (by rw [← e2]; exact X'.warmed.alike) hp hb k1 k2 k3 T' rfl X'
    exact ⟨t2, st t2 a1, b1⟩
  · obtain ⟨k1, k2, k3⟩ := vx_keep h0 e1 hS hAX hf hL hF
    obtain ⟨t2, a1, b1⟩ := kx E ce q u t T'.heap (locs ++ L) e1.symm (by rw [← e2]; exact X'.warmed.alike) hp hb k1 k2 k3 (by rw [e1]; exact hce) hcv hcl T' rfl X'
    exact ⟨t2, st.trans a1, b1⟩
theorem vx_calld {S SX : Type} {post : UInt64 → S → Prop} {px : SX → Prop} {B : S → State → Prop} {BX : String → SX → State → Prop} {AX : Nat → Prop} (hr : vx_Run p l e R s m args below meth c H locs cells slots mc ms (F0 m pc ls st0) rest (va_Qd post B A1 a) (vx_X px BX AX) free) (hS : va_S A0 H0 H locs) (hA : ∀ q, q < H.size → A1 q → A0 q) (hf : ∀ q, free q → A0 q) (hAX : ∀ q, q < H.size → AX q → A0 q)
    (kx : ∀ (E : String) (ce : Cell) (q9 : Addr) (u : SX) (t : State) (H1 : Heap) (locs1 : List Loc), t.heap = H1 → s.vm.Alike t.vm → px u → BX E u t → H.size ≤ H1.size → (∀ q : Nat, q < H.size → ¬ AX q → H1[q]? = H[q]?) → va_S A0 H0 H1 locs1 → H1[q9]? = some ce → ce.vm = .none → s.vm.findClass E = some ce.cls → vx_W p l e R s m args below meth c H1 locs1 (cells + mc) (slots + ms) Q (F0 m pc ls rest) q9)
    (kk : ∀ (r : UInt64) (u : S) (t : State) (H1 : Heap) (locs1 : List Loc), t.heap = H1 → s.vm.Alike t.vm → post r u → B u t → H.size ≤ H1.size → (∀ q : Nat, q < H.size → ¬ A1 q → H1[q]? = H[q]?) → va_S A0 H0 H1 locs1 → W p l e R s m args below meth c H1 locs1 (cells + mc) (slots + ms) Q (F0 m (pc + 3) ls (.double r :: rest))) : W p l e R s m args below meth c H locs cells slots Q (F0 m pc ls st0) := by
  intro T hT X
  rcases hr T hT X with ⟨v, st₀, t, T', L, h0, X', hL, e1, e2, ⟨⟨r, u, hv, hp, hb⟩, hF⟩, st⟩ | ⟨q, st₀, t, T', L, E, ce, h0, X', hL, e1, e2, ⟨u, hp, hb, hF⟩, hce, hcv, hcl, st⟩
  · cases hv
    obtain ⟨k1, k2, k3⟩ := vx_keep h0 e1 hS hA hf hL hF
    obtain ⟨t2, a1, b1⟩ := kk r u t T'.heap (locs ++ L) e1.symm (by rw [← e2]; exact X'.warmed.alike) hp hb k1 k2 k3 T' rfl X'
    exact ⟨t2, st t2 a1, b1⟩
  · obtain ⟨k1, k2, k3⟩ := vx_keep h0 e1 hS hAX hf hL hF
    obtain ⟨t2, a1, b1⟩ := kx E ce q u t T'.heap (locs ++ L) e1.symm (by rw [← e2]; exact X'.warmed.alike) hp hb k1 k2 k3 (by rw [e1]; exact hce) hcv hcl T' rfl X'
    exact ⟨t2, st.trans a1, b1⟩
theorem vx_callv {S SX : Type} {post : S → Prop} {px : SX → Prop} {B : S → State → Prop} {BX : String → SX → State → Prop} {AX : Nat → Prop} (hr : vx_Run p l e R s m args below meth c H locs cells slots mc ms (F0 m pc ls st0) rest (va_Qv post B A1 a) (vx_X px BX AX) free) (hS : va_S A0 H0 H locs) (hA : ∀ q, q < H.size → A1 q → A0 q) (hf : ∀ q, free q → A0 q) (hAX : ∀ q, q < H.size → AX q → A0 q)
    (kx : ∀ (E : String) (ce : Cell) (q9 : Addr) (u : SX) (t : State) (H1 : Heap) (locs1 : List Loc), t.heap = H1 → s.vm.Alike t.vm → px u → BX E u t → H.size ≤ H1.size → (∀ q : Nat, q < H.size → ¬ AX q → H1[q]? = H[q]?) → va_S A0 H0 H1 locs1 → H1[q9]? = some ce → ce.vm = .none → s.vm.findClass E = some ce.cls → vx_W p l e R s m args below meth c H1 locs1 (cells + mc) (slots + ms) Q (F0 m pc ls rest) q9)
    (kk : ∀ (u : S) (t : State) (H1 : Heap) (locs1 : List Loc), t.heap = H1 → s.vm.Alike t.vm → post u → B u t → H.size ≤ H1.size → (∀ q : Nat, q < H.size → ¬ A1 q → H1[q]? = H[q]?) → va_S A0 H0 H1 locs1 → W p l e R s m args below meth c H1 locs1 (cells + mc) (slots + ms) Q (F0 m (pc + 3) ls (rest))) : W p l e R s m args below meth c H locs cells slots Q (F0 m pc ls st0) := by
  intro T hT X
  rcases hr T hT X with ⟨v, st₀, t, T', L, h0, X', hL, e1, e2, ⟨⟨u, hv, hp, hb⟩, hF⟩, st⟩ | ⟨q, st₀, t, T', L, E, ce, h0, X', hL, e1, e2, ⟨u, hp, hb, hF⟩, hce, hcv, hcl, st⟩
  · cases hv
    obtain ⟨k1, k2, k3⟩ := vx_keep h0 e1 hS hA hf hL hF
    obtain ⟨t2, a1, b1⟩ := kk u t T'.heap (locs ++ L) e1.symm (by rw [← e2]; exact X'.warmed.alike) hp hb k1 k2 k3 T' rfl X'
    exact ⟨t2, st t2 a1, b1⟩
  · obtain ⟨k1, k2, k3⟩ := vx_keep h0 e1 hS hAX hf hL hF
    obtain ⟨t2, a1, b1⟩ := kx E ce q u t T'.heap (locs ++ L) e1.symm (by rw [← e2]; exact X'.warmed.alike) hp hb k1 k2 k3 (by rw [e1]; exact hce) hcv hcl T' rfl X'
    exact ⟨t2, st.trans a1, b1⟩
/-- caught by the row x of this method's table; the rows ahead don't take it -/
theorem vx_catch {own name : String} {E : String} {ce : Cell} {q : Addr} (hown : s.vm.findClass own = some m.cls) (pre : List ExceptionTableEntry) (x : ExceptionTableEntry) (suf : List ExceptionTableEntry) (hsplit : c.exceptionTable.toList = pre ++ x :: suf)
    (hpass : ∀ z ∈ pre, covers z pc = false ∨ (z.catchType ≠ 0 ∧ ∃ nm : String, (Cond.classLink own z.catchType nm).before args s = true ∧ va_Nc E nm s)) (hx : covers x pc = true) (h0 : x.catchType ≠ 0)
    (hlink : (Cond.classLink own x.catchType name).before args s = true) (hcast : (Cond.castable E name).before args s = true) (hcell : H[q]? = some ce) (hv : ce.vm = .none) (hcl : s.vm.findClass E = some ce.cls)
    (kk : W p l e R s m args below meth c H locs cells slots Q (F0 m x.handlerPc ls [.ref q])) : vx_W p l e R s m args below meth c H locs cells slots Q (F0 m pc ls rest) q := by
  intro T hT X
  have hpl : e.platform.magicAccessors = ({} : Platform).magicAccessors := by rw [X.admits.platform]
  obtain ⟨c3, c4, hc3, hc4, hasg⟩ := Cond.castable_spec hcast
  cases Option.some.inj (hc3.symm.trans hcl)
  obtain ⟨c5, hc5, hcl5⟩ := Cond.classLink_spec hown hlink e.platform hpl
  cases Option.some.inj (hc4.symm.trans hc5)
  obtain ⟨vm', X', st⟩ := X.thenCaughtThrough q (g := F0 m pc ls rest) rfl (Steps.refl _) (by rw [hT]; exact hcell) (by rw [hv]; rfl) (by obtain ⟨k9, h9, -⟩ := Vm.findClass_spec hcl; exact ⟨k9, h9⟩) pre x suf hsplit
    (fun z hz => by
      rcases hpass z hz with h | ⟨hz0, nm, hl1, hn1⟩
      · exact Or.inl h
      · obtain ⟨c6, hc6, hcl6⟩ := Cond.classLink_spec hown hl1 e.platform hpl
        obtain ⟨a8, b8, h1, h2, h3⟩ := hn1
        cases Option.some.inj (h1.symm.trans hcl)
        cases Option.some.inj (h2.symm.trans hc6)
        exact Or.inr ⟨hz0, _, hcl6, h3⟩) hx (Or.inr ⟨h0, c4, hcl5, hasg⟩)
  obtain ⟨t, a1, b1⟩ := kk (T.setVm vm') hT X'
  exact ⟨t, st.trans a1, b1⟩
end Rows
section Ends
variable {p : Program} {l : Launch} {e : Env} {R : Room} {s : State} {m : MethodId} {args : Array Value} {below : List Frame} {meth : Method} {c : Code} {H : Heap} {locs : List Loc} {cells slots : Nat} {Q : State → Prop}
variable {mc ms : Nat} {free : Addr → Prop} {A0 A1 : Nat → Prop} {H0 : Heap} {a : Array Value} {ls : Array Slot} {st0 rest : List Value}
variable {Qc : Array Value → State → Outcome → State → Prop} {XC : String → State → State → Prop}
/-- what a body that may throw owes at its end -/
def vx_MQ (below : List Frame) (Qc : Array Value → State → Outcome → State → Prop) (XC : String → State → State → Prop) (a : Array Value) (s : State) (mc ms : Nat) (free : Addr → Prop) : State → Prop := fun t =>
  ∃ o, t.status = .running ∧ Ended t below o ∧ vx_Q Qc XC mc ms free a s o t
theorem vx_ret {g : JFrame} {mc ms : Nat} (k : W p l e R s m args below meth c H locs cells slots (MQ below Qc args s mc ms free) g) : W p l e R s m args below meth c H locs cells slots (vx_MQ below Qc XC args s mc ms free) g := by
  intro T hT X
  obtain ⟨t, a1, o, b1, b2, b3, b4⟩ := k T hT X
  exact ⟨t, a1, o, b1, b2, Or.inl ⟨b3, b4⟩⟩
/-- not caught here: it goes on to the caller -/
theorem vx_widen {g : JFrame} {q : Addr} {k n : Nat} (h1 : cells ≤ k) (h2 : slots ≤ n) (kk : vx_W p l e R s m args below meth c H locs k n Q g q) : vx_W p l e R s m args below meth c H locs cells slots Q g q := fun T hT X => kk T hT (stand_widen X h1 h2)
theorem vx_out {pc : Nat} {E : String} {ce : Cell} {q : Addr} {mc ms : Nat} (hout : ∀ x ∈ c.exceptionTable.toList, covers x pc = false) (hlocks : meth.locks = false) (hcell : H[q]? = some ce) (hv : ce.vm = .none) (hcl : s.vm.findClass E = some ce.cls)
    (hx : ∀ t : State, t.heap = H → s.vm.Alike t.vm → XC E s t) (hf : ∀ z ∈ locs, free z.base) (hc : cells ≤ mc) (hs : slots ≤ ms) :
    vx_W p l e R s m args below meth c H locs cells slots (vx_MQ below Qc XC args s mc ms free) (F0 m pc ls rest) q := by
  intro T hT X
  obtain ⟨st1, hrun, hend, hW, hsm⟩ := X.leaveThrown q (g := F0 m pc ls rest) rfl rfl rfl hout hlocks
  have hcell9 : (T.setFrames (.throwing q :: below)).heap[q]? = some ce := by
    show T.heap[q]? = some ce
    rw [hT]; exact hcell
  exact ⟨_, st1, .threw q, hrun, hend, Or.inr ⟨q, rfl, E, ce, locs, hx _ hT hW.alike, hcell9, hv, hcl, hW, hsm.mono hc hs, hf⟩⟩
theorem vx_frame {U : State} {k n : Nat} (h : s.sameButNew ({ U with vm := s.vm } : State) locs k n) : s.heap.size ≤ U.heap.size ∧ ∀ q : Nat, q < s.heap.size → (∀ z ∈ locs, z.base ≠ q) → U.heap[q]? = s.heap[q]? := by
  obtain ⟨-, h2, -, -, -, h6⟩ := h
  refine ⟨h2, fun q hq hz => ?_⟩
  obtain ⟨c9, e1, e2, e3, e4⟩ := h6 q _ (Array.getElem?_eq_getElem hq)
  have hs : c9.slots = (s.heap[q]).slots := Array.ext_getElem? fun i => e4 i fun hm => hz _ hm rfl
  have h9 : c9 = s.heap[q] := by
    rw [hs] at e2
    exact e2
  have e5 : U.heap[q]? = some c9 := e1
  rw [e5, h9, Array.getElem?_eq_getElem hq]
/-- the words of a throw but the four that speak of the heap -/
def vx_no (w : Cond) : Bool := decide (w ≠ .isRef (.static Bundle.tN "UNASSIGNED_STACK" Bundle.steD)) && decide (w ≠ .isRef (.static Bundle.tN "SUPPRESSED_SENTINEL" Bundle.listD)) && decide (w ≠ .laysStatic Bundle.tN "UNASSIGNED_STACK" Bundle.steD) && decide (w ≠ .laysStatic Bundle.tN "SUPPRESSED_SENTINEL" Bundle.listD)
def vx_at0 (own : String) (ic : Nat) (X : String) (names : List String) : List Cond := (Bundle.ownAtoms0 own ic X names).filter vx_no
def vx_atS (own : String) (ic : Nat) (X : String) (names : List String) : List Cond := (Bundle.ownAtoms own ic X names).filter vx_no
/-- a word that the tables alone decide, or a good one -/
def vx_ot (w : Cond) : Bool := w.onTables || goodWord w
theorem vx_ot_at {args a' : Array Value} {s U : State} {w : Cond} (hW : s.WarmedH U.vm) (hvm : s.vm = U.vm) (hg : vx_ot w = true) (h : w.before args s = true) : w.before a' U = true := by
  simp only [vx_ot, Bool.or_eq_true] at hg
  rcases hg with hg | hg
  · exact va_tabs hg hvm h
  · exact word_at hW (good_of_word hg) h
/-- a list's words: the good ones out of the method's own list, the others by premises of their own -/
theorem vx_hat {args : Array Value} {s : State} {L B : List Cond} (h1 : ∀ w ∈ L.filter goodWord, w.before args s = true) (h2 : ∀ w ∈ L.filter (fun w => !goodWord w), w ∈ B) (h3 : ∀ w ∈ B, w.before args s = true) : ∀ w ∈ L, w.before args s = true := by
  intro w hw
  by_cases g : goodWord w = true
  · exact h1 w (List.mem_filter.mpr ⟨hw, g⟩)
  · refine h3 w (h2 w (List.mem_filter.mpr ⟨hw, ?_⟩))
    show (!goodWord w) = true
    cases hgw : goodWord w
    · rfl
    · exact absurd hgw g
theorem vx_c {args : Array Value} {s : State} {w : Cond} {B : List Cond} (h : w.before args s = true) (t : ∀ w ∈ B, w.before args s = true) : ∀ w' ∈ w :: B, w'.before args s = true := fun w' h' => (List.mem_cons.mp h').elim (fun e => by rw [e]; exact h) (t w')
theorem vx_n {args : Array Value} {s : State} : ∀ w ∈ ([] : List Cond), w.before args s = true := fun _ h => nomatch h
theorem vx_own {args : Array Value} {s : State} {L : List Cond} (h1 : ∀ w ∈ L.filter vx_no, w.before args s = true)
    (hU : (Cond.isRef (.static Bundle.tN "UNASSIGNED_STACK" Bundle.steD)).before args s = true) (hN : (Cond.isRef (.static Bundle.tN "SUPPRESSED_SENTINEL" Bundle.listD)).before args s = true)
    (lU : (Cond.laysStatic Bundle.tN "UNASSIGNED_STACK" Bundle.steD).before args s = true) (lN : (Cond.laysStatic Bundle.tN "SUPPRESSED_SENTINEL" Bundle.listD).before args s = true) : ∀ w ∈ L, w.before args s = true := by
  intro w hw
  by_cases e1 : w = .isRef (.static Bundle.tN "UNASSIGNED_STACK" Bundle.steD)
  · rw [e1]; exact hU
  · by_cases e2 : w = .isRef (.static Bundle.tN "SUPPRESSED_SENTINEL" Bundle.listD)
    · rw [e2]; exact hN
    · by_cases e3 : w = .laysStatic Bundle.tN "UNASSIGNED_STACK" Bundle.steD
      · rw [e3]; exact lU
      · by_cases e4 : w = .laysStatic Bundle.tN "SUPPRESSED_SENTINEL" Bundle.listD
        · rw [e4]; exact lN
        · exact h1 w (List.mem_filter.mpr ⟨hw, by unfold vx_no; rw [decide_eq_true e1, decide_eq_true e2, decide_eq_true e3, decide_eq_true e4]; rfl⟩)
/-- where a static field lies, its class's statics cell in H -/
def vx_L (C n d : String) (A : Nat → Prop) (U : State) (H : Heap) : Prop := ∃ (c : ClassId) (k : Class) (i : Nat) (f : Field) (a : Nat) (cell : Cell), U.vm.findClass C = some c ∧ U.fieldFound? C n d = some (c, k, i, f) ∧ f.isStatic = true ∧ k.statics = some a ∧ H[a]? = some cell ∧ cell.vm.isStatics = true ∧ cell.cls = c ∧ f.slot < cell.slots.size ∧ k.staticTypes[f.slot]? = some f.type ∧ ¬ A a
theorem vx_L.moved {C n d : String} {A : Nat → Prop} {u U : State} {H : Heap} (hvm : u.vm.Alike U.vm) (h : vx_L C n d A u H) : vx_L C n d A U H := by
  obtain ⟨c, k, i, f, a, cell, h1, h2, h3, h4, h5, h6, h7, h8, h9, h10⟩ := h
  obtain ⟨k', hi', he⟩ := State.fieldFound?_setVm hvm h2
  exact ⟨c, k', i, f, a, cell, by rw [hvm.findClass]; exact h1, hi', h3, by rw [he]; exact h4, h5, h6, h7, h8, by rw [he]; exact h9, h10⟩
theorem vx_L.kept {C n d : String} {A : Nat → Prop} {U : State} {H H1 : Heap} (h : vx_L C n d A U H) (hq : ∀ a : Nat, a < H.size → ¬ A a → H1[a]? = H[a]?) : vx_L C n d A U H1 := by
  obtain ⟨c, k, i, f, a, cell, h1, h2, h3, h4, h5, h6, h7, h8, h9, h10⟩ := h
  exact ⟨c, k, i, f, a, cell, h1, h2, h3, h4, by rw [hq a (Array.getElem?_eq_some_iff.mp h5).1 h10]; exact h5, h6, h7, h8, h9, h10⟩
theorem vx_L.narrow {C n d : String} {A B : Nat → Prop} {U : State} {H : Heap} (h : vx_L C n d A U H) (hAB : ∀ q, B q → A q) : vx_L C n d B U H := by
  obtain ⟨c, k, i, f, a, cell, h1, h2, h3, h4, h5, h6, h7, h8, h9, h10⟩ := h
  exact ⟨c, k, i, f, a, cell, h1, h2, h3, h4, h5, h6, h7, h8, h9, fun z => h10 (hAB _ z)⟩
theorem vx_L.word {C n d : String} {A : Nat → Prop} {s : State} {args : Array Value} (h : vx_L C n d A s s.heap) : (Cond.laysStatic C n d).before args s = true := by
  obtain ⟨c, k, i, f, a, cell, h1, h2, h3, h4, h5, h6, h7, h8, h9, -⟩ := h
  show (Cond.laysStatic C n d).holds args s none s [] = true
  exact Cond.laysStatic_of h1 h2 h3 h4 h5 h6 h7 h8 h9
/-- .. and what it holds: null or some reference -/
def vx_Zq (C n d : String) (A : Nat → Prop) (U : State) (H : Heap) : Prop := va_Zq C n d A U H ∧ vx_L C n d A U H
theorem vx_Zq.moved {C n d : String} {A : Nat → Prop} {u U : State} {H : Heap} (hvm : u.vm.Alike U.vm) (h : vx_Zq C n d A u H) : vx_Zq C n d A U H := ⟨va_Zq.moved hvm h.1, vx_L.moved hvm h.2⟩
theorem vx_Zq.kept {C n d : String} {A : Nat → Prop} {U : State} {H H1 : Heap} (h : vx_Zq C n d A U H) (hq : ∀ a : Nat, a < H.size → ¬ A a → H1[a]? = H[a]?) : vx_Zq C n d A U H1 := ⟨va_Zq.kept h.1 hq, vx_L.kept h.2 hq⟩
theorem vx_Zq.narrow {C n d : String} {A B : Nat → Prop} {U : State} {H : Heap} (h : vx_Zq C n d A U H) (hAB : ∀ q, B q → A q) : vx_Zq C n d B U H := ⟨va_Zq.narrow h.1 hAB, vx_L.narrow h.2 hAB⟩
theorem vx_Zqof {args : Array Value} {s : State} {C n d : String} {A : Nat → Prop} (hl : (Cond.laysStatic C n d).before args s = true) (hini : (Cond.initialized C).before args s = true) (h : (Cond.isRef (.static C n d)).before args s = true) (hA : ∀ a : Nat, a < s.heap.size → ¬ A a) : vx_Zq C n d A s s.heap := by
  refine ⟨va_Zqof hl hini h hA, ?_⟩
  obtain ⟨c, k, i, f, a, cell, h1, h2, h3, h4, h5, h6, h7, h8, h9⟩ := Cond.laysStatic_spec hl
  exact ⟨c, k, i, f, a, cell, h1, h2, h3, h4, h5, h6, h7, h8, h9, hA a (Array.getElem?_eq_some_iff.mp h5).1⟩
theorem vx_isRef {C n d : String} {v : Value} {A : Nat → Prop} {s : State} {args : Array Value} (h : va_Z C n d v A s s.heap) (hv : v.isRef = true) : (Cond.isRef (.static C n d)).before args s = true := by
  obtain ⟨cf, kf, fi, f, a, cell, h1, h2, h3, h4, h5, h6, h7, -⟩ := h
  have he : (Term.static C n d).eval args s none [] s = some v := by
    simp [Term.eval, State.fieldNamed?, h1, h2, h4, h5, h6, h7]
  simp only [Cond.before, Cond.holds, Cond.value, he]
  cases v <;> simp_all [Value.isRef]
theorem vx_isRefq {C n d : String} {A : Nat → Prop} {s : State} {args : Array Value} (h : va_Zq C n d A s s.heap) : (Cond.isRef (.static C n d)).before args s = true := by
  rcases h with h | ⟨t, h⟩
  · exact vx_isRef h rfl
  · exact vx_isRef h rfl
/-- the same frame, seen from here: as if the method were called anew in this heap -/
theorem vx_rebase {T : State} (X : Stand p l e R s m args below meth c T locs cells slots) {R' : Room} (hf : R'.frames ≤ R.frames) (hl : R'.locals ≤ R.locals) (hc : cells + R'.cells ≤ R.cells) (hs : slots + R'.slots ≤ R.slots) :
    Stand p l e R' ((T.setVm s.vm).setFrames (.invoking m args :: below)) m args below meth c T [] 0 0 := by
  have htop : (T.setVm s.vm).topJava?.isSome := X.here.top
  have hF : ((T.setVm s.vm).setFrames (.invoking m args :: below)).frames = .invoking m args :: below := State.frames_setFrames _ (State.cur_lt_of_top htop)
  obtain ⟨g₀, hg0⟩ := Option.isSome_iff_exists.mp htop
  obtain ⟨r, hr⟩ := State.topJava?_eq_some.mp hg0
  have hl9 : e.platform.stackLimits (T.setVm s.vm).me = e.platform.stackLimits s.me := X.limits
  have hb9 : (T.setVm s.vm).me.stackBytes = s.me.stackBytes := X.bytes
  refine ⟨X.admits, X.cas, X.clock, hF, ?_, X.hears, X.method, X.code, X.here, X.tail, X.warmed, ?_, ?_, ?_⟩
  · have h := X.room
    have hU : ((T.setVm s.vm).setFrames (.invoking m args :: below)).localsInUse = s.localsInUse := by
      rw [State.localsInUse_invoking hF (meth := meth) (c := c) X.method X.code, State.localsInUse_invoking X.frames X.method X.code]
    simp only [State.hasRoom, Bool.and_eq_true, decide_eq_true_eq] at h ⊢
    obtain ⟨⟨⟨⟨h1, h2, h3, h4, h5, h6⟩, h7⟩, h8⟩, h9⟩ := h
    rw [X.frames, List.length_cons] at h2 h3
    have q1 := X.heapSize
    have q2 := X.used
    simp only [hF, hU, List.length_cons, State.stackLimits_setFrames, State.stackBytes_setFrames, hl9, hb9]
    refine ⟨⟨⟨⟨by omega, by omega, by omega, by omega, by omega, h6⟩, ?_⟩, ?_⟩, X.book⟩
    · show T.heap.size + R'.cells ≤ e.platform.maxCells
      omega
    · show T.slotsUsed + R'.slots ≤ e.platform.maxSlots
      omega
  · rw [State.stackLimits_setFrames]; rfl
  · rw [State.stackBytes_setFrames]; rfl
  · refine ⟨?_, Nat.le_refl _, Nat.le_refl _, ?_, ?_, fun a c9 h9 => ⟨c9, h9, rfl, rfl, fun _ _ => rfl⟩⟩
    · obtain ⟨t, ht, -⟩ := State.frames_cons hr
      show T.setVm s.vm = { ((T.setVm s.vm).setFrames (.invoking m args :: below)).setFrames (T.setVm s.vm).frames with heap := T.heap, slotsUsed := T.slotsUsed }
      rw [State.setFrames_setFrames, State.setFrames_self ht]
      rfl
    · show T.slotsUsed = T.slotsUsed + ((T.heap.toList.drop T.heap.size).map (·.slots.size)).sum
      rw [List.drop_eq_nil_of_le (Nat.le_of_eq Array.length_toList)]
      rfl
    · show ((T.heap.toList.drop T.heap.size).map (·.slots.size)).sum ≤ 0
      rw [List.drop_eq_nil_of_le (Nat.le_of_eq Array.length_toList)]
      exact Nat.le_refl _
/-- 'throw new E()': new; dup; invokespecial; athrow -/
theorem vx_throw0 {cc : ByteArray} {pc : Nat} (hexec : p.tables.exec = Jvm.exec) (hb : c.code = cc) (hl : l.stackTraces = false) {own cls : String} {names : List String} {ik ic mc ms : Nat} {A : Nat → Prop}
    (hown : s.vm.findClass own = some m.cls) (hcls : Bundle.fit cls = true) (hnames : ∀ n ∈ names, Bundle.fit n = true)
    (hk : (Cond.classLink own ik cls).before args s = true) (hini : (Cond.initialized cls).before args s = true) (hat : ∀ w ∈ vx_at0 own ic cls names, w.before args s = true)
    (hgood : ∀ w ∈ Cond.classLink own ik cls :: Cond.initialized cls :: vx_at0 own ic cls names, vx_ot w = true)
    (hU : vx_Zq Bundle.tN "UNASSIGNED_STACK" Bundle.steD A s s.heap) (hN : vx_Zq Bundle.tN "SUPPRESSED_SENTINEL" Bundle.listD A s s.heap) (hS : va_S A s.heap H locs) (hsize : ls.size = c.maxLocals)
    (d0 : decode cc pc = .ok (.new ik, 3)) (d3 : decode cc (pc + 3) = .ok (.dup, 1)) (d4 : decode cc (pc + 4) = .ok (.invokespecial ic, 3)) (d7 : decode cc (pc + 7) = .ok (.athrow, 1))
    (hout : ∀ x ∈ c.exceptionTable.toList, covers x (pc + 7) = false)
    (hRframes : names.length + 3 < R.frames) (hRlocals : (rest.map fun v => v.category).sum + (13 * (names.length + 1) + 42) ≤ R.locals) (hRcells : cells + 1 ≤ R.cells) (hRslots : slots + 6 ≤ R.slots) (hlocks : meth.locks = false)
    (hx : ∀ t : State, s.vm.Alike t.vm → H.size ≤ t.heap.size → (∀ q : Nat, q < H.size → t.heap[q]? = H[q]?) → XC cls s t)
    (hf : ∀ z ∈ locs, free z.base) (hc : cells + 1 ≤ mc) (hs : slots + 6 ≤ ms) :
    W p l e R s m args below meth c H locs cells slots (vx_MQ below Qc XC args s mc ms free) (F0 m pc ls rest) := by
  intro T hT X
  have htr : e.platform.stackTraces = false := (show e.platform.stackTraces = l.stackTraces by rw [X.admits.platform]).trans hl
  have Y := vx_rebase X (R' := { frames := R.frames, locals := R.locals, cells := 1, slots := 6 }) (Nat.le_refl _) (Nat.le_refl _) hRcells hRslots
  obtain ⟨s', hA⟩ : ∃ z, z = (T.setVm s.vm).setFrames (.invoking m args :: below) := ⟨_, rfl⟩
  rw [← hA] at Y
  have hvm : s'.vm = s.vm := by rw [hA]; rfl
  have hhp : s'.heap = H := by rw [hA]; exact hT
  have hW0 : s.WarmedH s'.vm := by rw [hvm]; exact State.WarmedH.refl s
  have hat' : ∀ w ∈ vx_at0 own ic cls names, w.before args s' = true := fun w hw => vx_ot_at hW0 hvm.symm (hgood w (List.mem_cons_of_mem _ (List.mem_cons_of_mem _ hw))) (hat w hw)
  have hk' : (Cond.classLink own ik cls).before args s' = true := vx_ot_at hW0 hvm.symm (hgood _ List.mem_cons_self) hk
  have hini' : (Cond.initialized cls).before args s' = true := vx_ot_at hW0 hvm.symm (hgood _ (List.mem_cons_of_mem _ List.mem_cons_self)) hini
  have hU' : vx_Zq Bundle.tN "UNASSIGNED_STACK" Bundle.steD A s' s'.heap := by rw [hhp]; exact vx_Zq.moved hW0.alike (hU.kept hS.2.1)
  have hN' : vx_Zq Bundle.tN "SUPPRESSED_SENTINEL" Bundle.listD A s' s'.heap := by rw [hhp]; exact vx_Zq.moved hW0.alike (hN.kept hS.2.1)
  have h : ∀ w ∈ Bundle.ownAtoms0 own ic cls names, w.before args s' = true := vx_own hat' (vx_isRefq hU'.1) (vx_isRefq hN'.1) hU'.2.word hN'.2.word
  have hown' : s'.vm.findClass own = some m.cls := by rw [hvm]; exact hown
  have hins : (Cond.instantiable cls 6).before args s' = true := h _ (by simp [Bundle.ownAtoms0])
  obtain ⟨vm₁, cX, kX, hfX, hkX, -, -, X₁, st1⟩ := Y.newCold hexec (own := own) (C := cls) (index := ik) (n := 6) hown' hk' hins hini'
    (g := F0 m pc ls rest) rfl (by rw [hb]; exact d0) (Nat.le_refl _) (Nat.le_refl _)
  generalize hT1 : (T.setVm vm₁).pushCell { cls := cX, slots := kX.instanceTypes.map defaultValue, vm := .none } = T1 at X₁ st1
  have hcat : (Value.ref T.heap.size).category = 1 := rfl
  have hcellA : T1.heap[T.heap.size]? = some (freshCell cX kX) := by rw [← hT1]; exact State.heap_pushCell_size _ _
  have d3' : decode c.code (pc + 3) = .ok (.dup, 1) := by rw [hb]; exact d3
  obtain ⟨U, hsteps, hrun, hend, hW, hsame, ce, hce, hO⟩ := X₁.ctorThrow0 hexec htr (own := own) (cls := cls) (names := names) (ic := ic) hown' hcls hnames h (fun x hx => nomatch hx) hfX hkX hcellA (by rw [hhp, hT]; exact Nat.le_refl _)
    (g := { method := m, pc := pc + 4, locals := ls, stack := .ref T.heap.size :: .ref T.heap.size :: rest, locked := none }) rfl hsize rfl rfl (rest := rest) rfl
    (by rw [hb]; exact d4) (by rw [hb]; exact d7) hout hRframes (by simp only [List.map_cons, List.sum_cons, hcat]; omega) hlocks
  obtain ⟨f1, f2⟩ := vx_frame hsame
  rw [hhp] at f1 f2
  have hWs : s.WarmedH U.vm := State.WarmedH.trans hW0 hW
  have hcl : s.vm.findClass cls = some ce.cls := by
    have h9 := hO.cls
    rw [hvm] at h9
    exact h9
  have hall : s.sameButNew ({ U with vm := s.vm } : State) locs mc ms := by
    subst hA
    obtain ⟨e1, e2⟩ := hsame
    rw [State.setFrames_setFrames] at e1
    have h2 : (T.setVm s.vm).sameButNew ({ U with vm := s.vm } : State) [] (0 + 1) (0 + 6) := ⟨e1, e2⟩
    have h3 := X.same.trans h2
    rw [List.append_nil] at h3
    exact h3.mono hc hs
  refine ⟨U, ?_, .threw T.heap.size, hrun, hend, Or.inr ⟨T.heap.size, rfl, cls, ce, locs, hx U hWs.alike f1 (fun q hq => f2 q hq (fun z hz => nomatch hz)), hce, hO.vm, hcl, hWs, hall, hf⟩⟩
  refine st1 _ ?_
  show Steps p.tables e below (T1.setTop { method := m, pc := pc + 3, locals := ls, stack := .ref T.heap.size :: rest, locked := none }) _
  jvm_step X₁.here [X₁.here.top, hexec, d3', Value.category]
  exact hsteps
/-- 'throw new E("text")': new; dup; ldc; invokespecial; athrow -/
theorem vx_throwS {cc : ByteArray} {pc : Nat} (hexec : p.tables.exec = Jvm.exec) (hb : c.code = cc) (hl : l.stackTraces = false) {own cls text : String} {names : List String} {ik is ic mc ms sa : Nat} {A : Nat → Prop}
    (hown : s.vm.findClass own = some m.cls) (hcls : Bundle.fit cls = true) (hnames : ∀ n ∈ names, Bundle.fit n = true)
    (hk : (Cond.classLink own ik cls).before args s = true) (hini : (Cond.initialized cls).before args s = true) (hstr : vk_R own is text sa s) (hat : ∀ w ∈ vx_atS own ic cls names, w.before args s = true)
    (hgood : ∀ w ∈ Cond.classLink own ik cls :: Cond.initialized cls :: vx_atS own ic cls names, vx_ot w = true)
    (hU : vx_Zq Bundle.tN "UNASSIGNED_STACK" Bundle.steD A s s.heap) (hN : vx_Zq Bundle.tN "SUPPRESSED_SENTINEL" Bundle.listD A s s.heap) (hS : va_S A s.heap H locs) (hsize : ls.size = c.maxLocals)
    (d0 : decode cc pc = .ok (.new ik, 3)) (d3 : decode cc (pc + 3) = .ok (.dup, 1)) (d4 : decode cc (pc + 4) = .ok (.ldc is, 2)) (d6 : decode cc (pc + 6) = .ok (.invokespecial ic, 3)) (d9 : decode cc (pc + 9) = .ok (.athrow, 1))
    (hout : ∀ x ∈ c.exceptionTable.toList, covers x (pc + 9) = false)
    (hRframes : names.length + 3 < R.frames) (hRlocals : (rest.map fun v => v.category).sum + (13 * (names.length + 1) + 43) ≤ R.locals) (hRcells : cells + 1 ≤ R.cells) (hRslots : slots + 6 ≤ R.slots) (hlocks : meth.locks = false)
    (hx : ∀ t : State, s.vm.Alike t.vm → H.size ≤ t.heap.size → (∀ q : Nat, q < H.size → t.heap[q]? = H[q]?) → XC cls s t)
    (hf : ∀ z ∈ locs, free z.base) (hc : cells + 1 ≤ mc) (hs : slots + 6 ≤ ms) :
    W p l e R s m args below meth c H locs cells slots (vx_MQ below Qc XC args s mc ms free) (F0 m pc ls rest) := by
  intro T hT X
  have htr : e.platform.stackTraces = false := (show e.platform.stackTraces = l.stackTraces by rw [X.admits.platform]).trans hl
  have Y := vx_rebase X (R' := { frames := R.frames, locals := R.locals, cells := 1, slots := 6 }) (Nat.le_refl _) (Nat.le_refl _) hRcells hRslots
  obtain ⟨s', hA⟩ : ∃ z, z = (T.setVm s.vm).setFrames (.invoking m args :: below) := ⟨_, rfl⟩
  rw [← hA] at Y
  have hvm : s'.vm = s.vm := by rw [hA]; rfl
  have hhp : s'.heap = H := by rw [hA]; exact hT
  have hW0 : s.WarmedH s'.vm := by rw [hvm]; exact State.WarmedH.refl s
  have hat' : ∀ w ∈ vx_atS own ic cls names, w.before args s' = true := fun w hw => vx_ot_at hW0 hvm.symm (hgood w (List.mem_cons_of_mem _ (List.mem_cons_of_mem _ hw))) (hat w hw)
  have hk' : (Cond.classLink own ik cls).before args s' = true := vx_ot_at hW0 hvm.symm (hgood _ List.mem_cons_self) hk
  have hini' : (Cond.initialized cls).before args s' = true := vx_ot_at hW0 hvm.symm (hgood _ (List.mem_cons_of_mem _ List.mem_cons_self)) hini
  have hU' : vx_Zq Bundle.tN "UNASSIGNED_STACK" Bundle.steD A s' s'.heap := by rw [hhp]; exact vx_Zq.moved hW0.alike (hU.kept hS.2.1)
  have hN' : vx_Zq Bundle.tN "SUPPRESSED_SENTINEL" Bundle.listD A s' s'.heap := by rw [hhp]; exact vx_Zq.moved hW0.alike (hN.kept hS.2.1)
  have h : ∀ w ∈ Bundle.ownAtoms own ic cls names, w.before args s' = true := vx_own hat' (vx_isRefq hU'.1) (vx_isRefq hN'.1) hU'.2.word hN'.2.word
  have hown' : s'.vm.findClass own = some m.cls := by rw [hvm]; exact hown
  have hins : (Cond.instantiable cls 6).before args s' = true := h _ (by simp [Bundle.ownAtoms])
  obtain ⟨vm₁, cX, kX, hfX, hkX, -, -, X₁, st1⟩ := Y.newCold hexec (own := own) (C := cls) (index := ik) (n := 6) hown' hk' hins hini'
    (g := F0 m pc ls rest) rfl (by rw [hb]; exact d0) (Nat.le_refl _) (Nat.le_refl _)
  generalize hT1 : (T.setVm vm₁).pushCell { cls := cX, slots := kX.instanceTypes.map defaultValue, vm := .none } = T1 at X₁ st1
  have hcat : (Value.ref T.heap.size).category = 1 := rfl
  have hcellA : T1.heap[T.heap.size]? = some (freshCell cX kX) := by rw [← hT1]; exact State.heap_pushCell_size _ _
  have d3' : decode c.code (pc + 3) = .ok (.dup, 1) := by rw [hb]; exact d3
  have d4' : decode c.code (pc + 4) = .ok (.ldc is, 2) := by rw [hb]; exact d4
  have hstr' : vk_R own is text sa s' := vk_R.warm hW0 hstr
  obtain ⟨U, hsteps, hrun, hend, hW, hsame, ce, hce, hO⟩ := X₁.ctorThrowS hexec htr (own := own) (cls := cls) (names := names) (ic := ic) hown' hcls hnames h (fun x hx => nomatch hx) hfX hkX hcellA (by rw [hhp, hT]; exact Nat.le_refl _) (msg := .ref sa) rfl
    (g := { method := m, pc := pc + 6, locals := ls, stack := .ref sa :: .ref T.heap.size :: .ref T.heap.size :: rest, locked := none }) rfl hsize rfl rfl (rest := rest) rfl
    (by rw [hb]; exact d6) (by rw [hb]; exact d9) hout hRframes (by simp only [List.map_cons, List.sum_cons, hcat]; omega) hlocks
  obtain ⟨f1, f2⟩ := vx_frame hsame
  rw [hhp] at f1 f2
  have hWs : s.WarmedH U.vm := State.WarmedH.trans hW0 hW
  have hcl : s.vm.findClass cls = some ce.cls := by
    have h9 := hO.cls
    rw [hvm] at h9
    exact h9
  have hall : s.sameButNew ({ U with vm := s.vm } : State) locs mc ms := by
    subst hA
    obtain ⟨e1, e2⟩ := hsame
    rw [State.setFrames_setFrames] at e1
    have h2 : (T.setVm s.vm).sameButNew ({ U with vm := s.vm } : State) [] (0 + 1) (0 + 6) := ⟨e1, e2⟩
    have h3 := X.same.trans h2
    rw [List.append_nil] at h3
    exact h3.mono hc hs
  refine ⟨U, ?_, .threw T.heap.size, hrun, hend, Or.inr ⟨T.heap.size, rfl, cls, ce, locs, hx U hWs.alike f1 (fun q hq => f2 q hq (fun z hz => nomatch hz)), hce, hO.vm, hcl, hWs, hall, hf⟩⟩
  refine st1 _ ?_
  show Steps p.tables e below (T1.setTop { method := m, pc := pc + 3, locals := ls, stack := .ref T.heap.size :: rest, locked := none }) _
  jvm_step X₁.here [X₁.here.top, hexec, d3', Value.category]
  exact X₁.ldcString hexec (own := own) (text := text) (index := is) (a := sa) hown' hstr'.1 hstr'.2
    (g := { method := m, pc := pc + 4, locals := ls, stack := .ref T.heap.size :: .ref T.heap.size :: rest, locked := none }) rfl d4' _ hsteps
/-- 'throw new E("text")', the text by a wide index -/
theorem vx_throwSW {cc : ByteArray} {pc : Nat} (hexec : p.tables.exec = Jvm.exec) (hb : c.code = cc) (hl : l.stackTraces = false) {own cls text : String} {names : List String} {ik is ic mc ms sa : Nat} {A : Nat → Prop}
    (hown : s.vm.findClass own = some m.cls) (hcls : Bundle.fit cls = true) (hnames : ∀ n ∈ names, Bundle.fit n = true)
    (hk : (Cond.classLink own ik cls).before args s = true) (hini : (Cond.initialized cls).before args s = true) (hstr : vk_R own is text sa s) (hat : ∀ w ∈ vx_atS own ic cls names, w.before args s = true)
    (hgood : ∀ w ∈ Cond.classLink own ik cls :: Cond.initialized cls :: vx_atS own ic cls names, vx_ot w = true)
    (hU : vx_Zq Bundle.tN "UNASSIGNED_STACK" Bundle.steD A s s.heap) (hN : vx_Zq Bundle.tN "SUPPRESSED_SENTINEL" Bundle.listD A s s.heap) (hS : va_S A s.heap H locs) (hsize : ls.size = c.maxLocals)
    (d0 : decode cc pc = .ok (.new ik, 3)) (d3 : decode cc (pc + 3) = .ok (.dup, 1)) (d4 : decode cc (pc + 4) = .ok (.ldc_w is, 3)) (d7 : decode cc (pc + 7) = .ok (.invokespecial ic, 3)) (d10 : decode cc (pc + 10) = .ok (.athrow, 1))
    (hout : ∀ x ∈ c.exceptionTable.toList, covers x (pc + 10) = false)
    (hRframes : names.length + 3 < R.frames) (hRlocals : (rest.map fun v => v.category).sum + (13 * (names.length + 1) + 43) ≤ R.locals) (hRcells : cells + 1 ≤ R.cells) (hRslots : slots + 6 ≤ R.slots) (hlocks : meth.locks = false)
    (hx : ∀ t : State, s.vm.Alike t.vm → H.size ≤ t.heap.size → (∀ q : Nat, q < H.size → t.heap[q]? = H[q]?) → XC cls s t)
    (hf : ∀ z ∈ locs, free z.base) (hc : cells + 1 ≤ mc) (hs : slots + 6 ≤ ms) :
    W p l e R s m args below meth c H locs cells slots (vx_MQ below Qc XC args s mc ms free) (F0 m pc ls rest) := by
  intro T hT X
  have htr : e.platform.stackTraces = false := (show e.platform.stackTraces = l.stackTraces by rw [X.admits.platform]).trans hl
  have Y := vx_rebase X (R' := { frames := R.frames, locals := R.locals, cells := 1, slots := 6 }) (Nat.le_refl _) (Nat.le_refl _) hRcells hRslots
  obtain ⟨s', hA⟩ : ∃ z, z = (T.setVm s.vm).setFrames (.invoking m args :: below) := ⟨_, rfl⟩
  rw [← hA] at Y
  have hvm : s'.vm = s.vm := by rw [hA]; rfl
  have hhp : s'.heap = H := by rw [hA]; exact hT
  have hW0 : s.WarmedH s'.vm := by rw [hvm]; exact State.WarmedH.refl s
  have hat' : ∀ w ∈ vx_atS own ic cls names, w.before args s' = true := fun w hw => vx_ot_at hW0 hvm.symm (hgood w (List.mem_cons_of_mem _ (List.mem_cons_of_mem _ hw))) (hat w hw)
  have hk' : (Cond.classLink own ik cls).before args s' = true := vx_ot_at hW0 hvm.symm (hgood _ List.mem_cons_self) hk
  have hini' : (Cond.initialized cls).before args s' = true := vx_ot_at hW0 hvm.symm (hgood _ (List.mem_cons_of_mem _ List.mem_cons_self)) hini
  have hU' : vx_Zq Bundle.tN "UNASSIGNED_STACK" Bundle.steD A s' s'.heap := by rw [hhp]; exact vx_Zq.moved hW0.alike (hU.kept hS.2.1)
  have hN' : vx_Zq Bundle.tN "SUPPRESSED_SENTINEL" Bundle.listD A s' s'.heap := by rw [hhp]; exact vx_Zq.moved hW0.alike (hN.kept hS.2.1)
  have h : ∀ w ∈ Bundle.ownAtoms own ic cls names, w.before args s' = true := vx_own hat' (vx_isRefq hU'.1) (vx_isRefq hN'.1) hU'.2.word hN'.2.word
  have hown' : s'.vm.findClass own = some m.cls := by rw [hvm]; exact hown
  have hins : (Cond.instantiable cls 6).before args s' = true := h _ (by simp [Bundle.ownAtoms])
  obtain ⟨vm₁, cX, kX, hfX, hkX, -, -, X₁, st1⟩ := Y.newCold hexec (own := own) (C := cls) (index := ik) (n := 6) hown' hk' hins hini'
    (g := F0 m pc ls rest) rfl (by rw [hb]; exact d0) (Nat.le_refl _) (Nat.le_refl _)
  generalize hT1 : (T.setVm vm₁).pushCell { cls := cX, slots := kX.instanceTypes.map defaultValue, vm := .none } = T1 at X₁ st1
  have hcat : (Value.ref T.heap.size).category = 1 := rfl
  have hcellA : T1.heap[T.heap.size]? = some (freshCell cX kX) := by rw [← hT1]; exact State.heap_pushCell_size _ _
  have d3' : decode c.code (pc + 3) = .ok (.dup, 1) := by rw [hb]; exact d3
  have d4' : decode c.code (pc + 4) = .ok (.ldc_w is, 3) := by rw [hb]; exact d4
  have hstr' : vk_R own is text sa s' := vk_R.warm hW0 hstr
  obtain ⟨U, hsteps, hrun, hend, hW, hsame, ce, hce, hO⟩ := X₁.ctorThrowS hexec htr (own := own) (cls := cls) (names := names) (ic := ic) hown' hcls hnames h (fun x hx => nomatch hx) hfX hkX hcellA (by rw [hhp, hT]; exact Nat.le_refl _) (msg := .ref sa) rfl
    (g := { method := m, pc := pc + 7, locals := ls, stack := .ref sa :: .ref T.heap.size :: .ref T.heap.size :: rest, locked := none }) rfl hsize rfl rfl (rest := rest) rfl
    (by rw [hb]; exact d7) (by rw [hb]; exact d10) hout hRframes (by simp only [List.map_cons, List.sum_cons, hcat]; omega) hlocks
  obtain ⟨f1, f2⟩ := vx_frame hsame
  rw [hhp] at f1 f2
  have hWs : s.WarmedH U.vm := State.WarmedH.trans hW0 hW
  have hcl : s.vm.findClass cls = some ce.cls := by
    have h9 := hO.cls
    rw [hvm] at h9
    exact h9
  have hall : s.sameButNew ({ U with vm := s.vm } : State) locs mc ms := by
    subst hA
    obtain ⟨e1, e2⟩ := hsame
    rw [State.setFrames_setFrames] at e1
    have h2 : (T.setVm s.vm).sameButNew ({ U with vm := s.vm } : State) [] (0 + 1) (0 + 6) := ⟨e1, e2⟩
    have h3 := X.same.trans h2
    rw [List.append_nil] at h3
    exact h3.mono hc hs
  refine ⟨U, ?_, .threw T.heap.size, hrun, hend, Or.inr ⟨T.heap.size, rfl, cls, ce, locs, hx U hWs.alike f1 (fun q hq => f2 q hq (fun z hz => nomatch hz)), hce, hO.vm, hcl, hWs, hall, hf⟩⟩
  refine st1 _ ?_
  show Steps p.tables e below (T1.setTop { method := m, pc := pc + 3, locals := ls, stack := .ref T.heap.size :: rest, locked := none }) _
  jvm_step X₁.here [X₁.here.top, hexec, d3', Value.category]
  exact X₁.ldcStringW hexec (own := own) (text := text) (index := is) (a := sa) hown' hstr'.1 hstr'.2
    (g := { method := m, pc := pc + 4, locals := ls, stack := .ref T.heap.size :: .ref T.heap.size :: rest, locked := none }) rfl d4' _ hsteps
end Ends
section Bodies
variable {l : Launch}
theorem vx_ofW {y : MethodName} {ws ws' : List Cond} {rm : Room} {Pc : Array Value → State → Prop} {Qc : Array Value → State → Outcome → State → Prop} {XC : String → State → State → Prop} {mc ms : Nat} {free : Addr → Prop} {cc : ByteArray} {maxL : Nat} {ret : Option FieldType}
    (hy : plainName y.cls = true) (hw : ws = Cond.code y cc maxL ret :: ws')
    (body : ∀ p e s m args below meth c s₁, BodyLoose p l y (headSpec ws rm) cc maxL ret e s m args below meth c s₁ → c.maxLocals = maxL → (∀ x ∈ c.exceptionTable.toList, False) → Pc args s →
      W p l e (headSpec ws rm).room s m args below meth c s.heap [] 0 0 (vx_MQ below Qc XC args s mc ms free) (entryFrame m args maxL)) : vx_Met l y ws rm Pc Qc XC mc ms free := by
  refine MetFree.of_bodyS (code := cc) (maxLocals := maxL) (ret := ret) hy ?_ ?_
  · intro args s m h hn
    obtain ⟨meth, c, h1, h2, h3, h4, h5, h6, -, -⟩ := Cond.code_spec hn (atoms_spec (ws := ws) h _ (by rw [hw]; exact List.mem_cons_self))
    exact ⟨meth, c, h1, h2, h3, h4, h5, h6⟩
  · intro p e s m args below meth c s₁ B hml hP _
    have hh0 : s₁.heap = s.heap := by rw [B.state]; rfl
    have ht : ∀ x ∈ c.exceptionTable.toList, False := by
      obtain ⟨meth9, c9, h1, h2, -, -, -, -, h7, -⟩ := Cond.code_spec B.named (atoms_spec (ws := ws) B.pre _ (by rw [hw]; exact List.mem_cons_self))
      cases Option.some.inj (h1.symm.trans B.method)
      cases Option.some.inj (h2.symm.trans (Stand.of_body B).code)
      intro x hx
      rw [Array.isEmpty_iff.mp h7] at hx
      cases hx
    obtain ⟨t, a1, o, b1, b2, b3⟩ := body p e s m args below meth c s₁ B hml ht hP s₁ hh0 (Stand.of_body B)
    exact ⟨t, o, a1, b1, b2, b3⟩
/-- the table of a body with handlers -/
theorem vx_table {p : Program} {x y : MethodName} {S : Spec} {cc bytes : ByteArray} {maxL maxL' : Nat} {ret ret' : Option FieldType} {e : Env} {s s₁ : State} {m : MethodId} {args : Array Value} {below : List Frame} {meth : Method} {c : Code} {hh : List (Nat × Nat × Nat × Nat)}
    (B : BodyLoose p l y S cc maxL ret e s m args below meth c s₁) (h : (Cond.codeWith y bytes maxL' ret' hh).before args s = true) : c.exceptionTable.toList = tableOf hh := by
  obtain ⟨m9, meth9, c9, hn9, h1, h2, -, -, h6, -⟩ := Cond.codeWith_spec h
  cases Option.some.inj (hn9.symm.trans B.named)
  cases Option.some.inj (h1.symm.trans B.method)
  cases Option.some.inj (h2.symm.trans (Stand.of_body B).code)
  rw [← h6, table_eq]
end Bodies
end VXA
/-! ===== END ===== -/
/-! ===== BEGIN a static call of a method with an exception table ===== -/
section VXS
variable {p : Program} {l : Launch} {e : Env} {R : Room} {s : State} {m : MethodId} {args : Array Value} {below : List Frame} {meth : Method} {c : Code} {T : State} {H : Heap} {locs : List Loc} {cells slots : Nat}
abbrev vx_CSW (R : Room) (s : State) (args : Array Value) (own : String) (index : Nat) (y : MethodName) (bytes : ByteArray) (maxL : Nat) (ret : Option FieldType) (hh : List (Nat × Nat × Nat × Nat)) (ws : List Cond) (rm : Room) (mc ms n : Nat) : Prop :=
  (rm.cells = mc ∧ rm.slots = ms ∧ rm.frames + 1 ≤ R.frames ∧ 8 + (maxL + 11) + rm.locals ≤ R.locals ∧ (∀ w ∈ ws, ∀ (a' : Array Value) (U : State), s.WarmedH U.vm → w.before a' U = true) ∧ Cond.codeWith y bytes maxL ret hh ∈ ws) ∧
  (Cond.codeWith y bytes maxL ret hh).before args s = true ∧ (Cond.initialized y.cls).before args s = true ∧ (y.cls ≠ "java/lang/invoke/MethodHandle" ∧ y.cls ≠ "java/lang/invoke/VarHandle") ∧
  (∀ sig, parseMethodDescriptor y.desc = some sig → n = sig.parameters.length) ∧ (Cond.methodLink own index y).before args s = true ∧ (Cond.static y).before args s = true
theorem vx_cwSW {own : String} {index maxL mc ms : Nat} {y : MethodName} {bytes : ByteArray} {ret : Option FieldType} {hh : List (Nat × Nat × Nat × Nat)} {Ts ws ws' : List Cond} {rm : Room} (n : Nat) (ht : ∀ w ∈ Ts, w.before args s = true) (hT : GoodIn Ts (va_wsS own index y ws)) (hw : ws = Cond.codeWith y bytes maxL ret hh :: ws') (hrc : rm.cells = mc) (hrs : rm.slots = ms)
    (hd : y.cls ≠ "java/lang/invoke/MethodHandle" ∧ y.cls ≠ "java/lang/invoke/VarHandle" ∧ (parseMethodDescriptor y.desc).map (fun d => d.parameters.length) = some n) (hR : rm.frames + 1 ≤ R.frames ∧ 8 + (maxL + 11) + rm.locals ≤ R.locals) :
    vx_CSW R s args own index y bytes maxL ret hh ws rm mc ms n := by
  have ok : ∀ w ∈ va_wsS own index y ws, w.before args s = true := fun w h => ht w (hT w h).1
  have hG : GoodIn Ts ws := fun w h => hT w (by unfold va_wsS; exact List.mem_append_right _ h)
  have hc : Cond.codeWith y bytes maxL ret hh ∈ ws := by rw [hw]; exact List.mem_cons_self
  refine ⟨⟨hrc, hrs, hR.1, hR.2, pay_in ht hG, hc⟩, ht _ (hG _ hc).1, ok _ (by simp [va_wsS]), ⟨hd.1, hd.2.1⟩, fun sig h => ?_, ok _ (by simp [va_wsS]), ok _ (by simp [va_wsS])⟩
  have h2 := hd.2.2
  rw [h] at h2
  exact (Option.some.inj h2).symm
theorem vx_callSW (X : Stand p l e R s m args below meth c T locs cells slots) (hexec : p.tables.exec = Jvm.exec) {own : String} {index : Nat} {y : MethodName} {bytes : ByteArray} {maxL : Nat} {ret : Option FieldType} {hh : List (Nat × Nat × Nat × Nat)}
    (hown : s.vm.findClass own = some m.cls) (hlink : (Cond.methodLink own index y).before args s = true) (hstat : (Cond.static y).before args s = true) (hinit : (Cond.initialized y.cls).before args s = true)
    (hcode : (Cond.codeWith y bytes maxL ret hh).before args s = true) (hy : y.cls ≠ "java/lang/invoke/MethodHandle" ∧ y.cls ≠ "java/lang/invoke/VarHandle")
    {W9 : Nat} {Pre : Pt → Array Value → Prop} {Post : Pt → Array Value → Option Value → Pt → Prop} (hK : Back l R p e below s args y 3 W9 Pre Post)
    {g : JFrame} (hg : g.method = m) (hsize : g.locals.size = c.maxLocals) {argsL rest : List Value} (hlen : ∀ sig, parseMethodDescriptor y.desc = some sig → argsL.length = sig.parameters.length)
    (hstack : g.stack = argsL.reverse ++ rest) (hW : 2 * g.monitorRoom + (rest.map fun v => v.category).sum ≤ W9) (hdg : decode c.code g.pc = .ok (.invokestatic index, 3))
    (hpre : ∀ vm₁, s.WarmedH vm₁ → Pre ⟨T.setVm vm₁, locs, cells, slots⟩ argsL.toArray) :
    ∃ (v : Option Value) (vm₁ : Vm) (B : Pt), s.WarmedH vm₁ ∧ Stand p l e R s m args below meth c B.U B.locs B.cells B.slots ∧ Post ⟨T.setVm vm₁, locs, cells, slots⟩ argsL.toArray v B ∧
      ∀ target, Steps p.tables e below (B.U.setTop { g with pc := g.pc + 3, stack := v.toList ++ rest }) target → Steps p.tables e below (T.setTop g) target := by
  obtain ⟨mk, methM, cM, hnamed, hmethM, -, -, -, -, -, -, hsigM⟩ := Cond.codeWith_spec hcode
  have hstatic : methM.isStatic = true := Cond.static_spec hnamed hmethM hstat
  obtain ⟨kP, hkP, -⟩ := className_of_methodNamed hnamed
  have hinitP : kP.init = .initialized := Cond.initialized_spec (findClass_of_methodNamed hnamed) hkP hinit
  obtain ⟨vm₁, X₁, hstep₁⟩ := X.invokestatic hexec hown hlink hnamed hmethM hstatic hkP hinitP hy (g := g) hg (argsL := argsL) (rest := rest) (hlen _ hsigM) hstack hdg
  obtain ⟨v, B, X', hpost, hsteps⟩ := hK m meth c ⟨T.setVm vm₁, locs, cells, slots⟩ { g with stack := rest } (.invokestatic index) mk argsL.toArray X₁ hg hsize hdg hW (X₁.named hnamed) (hpre vm₁ X₁.warmed)
  exact ⟨v, vm₁, B, X₁.warmed, X', hpost, fun target h => hstep₁ _ fun acts => by rw [doInvoke_state]; exact hsteps.trans h⟩
theorem vx_runSW {y : MethodName} {bytes cc : ByteArray} {maxL nL mc ms n index : Nat} {ret : Option FieldType} {hh : List (Nat × Nat × Nat × Nat)} {ws : List Cond} {rm : Room} {Pc : Array Value → State → Prop} {Qc : Array Value → State → Outcome → State → Prop} {free : Addr → Prop} {Ts : List Cond} {own : String} {As rest : List Value} {g : JFrame}
    (S : CallFix p m c cc nL s args Ts own) (hM : Met l y ws rm Pc Qc mc ms free) (cw : vx_CSW R s args own index y bytes maxL ret hh ws rm mc ms n) (hp : PreS s H Pc As)
    (hg : g.method = m) (hn : As.length = n) (hsize : g.locals.size = nL) (hstack : g.stack = As.reverse ++ rest) (hW : 2 * g.monitorRoom + (rest.map fun v => v.category).sum ≤ 8) (hdg : decode cc g.pc = .ok (.invokestatic index, 3)) (hf : cells + mc ≤ R.cells ∧ slots + ms ≤ R.slots) :
    va_Run p l e R s m args below meth c H locs cells slots mc ms g rest (Qc As.toArray) (free) := by
  obtain ⟨⟨hrc, hrs, hfr, hlo, hws, hcw⟩, hcode, hini, hy, hlen, hl, hstt⟩ := cw
  have hK : Back l R p e below s args y 3 8 (PreOf R mc ms Pc) (PostOf Qc mc ms free) := va_backW (hh := hh) (bytes := bytes) (maxL := maxL) (ret := ret) hM hp.1 hrc hrs hfr hlo hws hcw (fun a' U hW => word_at hW (Or.inl (by first | rfl | simp [Cond.onTables, Cond.keeps, Cond.steady])) hini)
  obtain ⟨hx, hb, hml, ho, -⟩ := S
  intro T hT X
  obtain ⟨v, vm₁, ⟨U', l2, c2, s2⟩, hW₁, X', ⟨g', mk, t, L, e1, e2, hq, h1, hL, h2, h3⟩, st⟩ := vx_callSW X hx (hh := hh) (bytes := bytes) (maxL := maxL) (ret := ret) ho hl hstt hini hcode hy hK hg (hsize.trans hml.symm) (argsL := As) (rest := rest) (fun sig h => hn.trans (hlen sig h)) hstack hW (by rw [hb]; exact hdg)
    (fun vm₁ hW₁ => ⟨hf.1, hf.2, hp.2 (T.setVm vm₁) hT hW₁⟩)
  dsimp only [Pt.U, Pt.locs, Pt.cells, Pt.slots] at X' e1 e2 h1 h2 h3 st
  subst h1; subst h2; subst h3
  exact ⟨v, (T.setVm vm₁).calling g' mk As.toArray, t, U', L, hT, X', hL, e1, e2, hq, st⟩
/-- not caught here, past rows that name other classes: it goes on to the caller -/
theorem vx_outP {p : Program} {l : Launch} {e : Env} {R : Room} {s : State} {m : MethodId} {args : Array Value} {below : List Frame} {meth : Method} {c : Code} {H : Heap} {locs : List Loc} {cells slots : Nat} {free : Addr → Prop} {ls : Array Slot} {rest : List Value} {Qc : Array Value → State → Outcome → State → Prop} {XC : String → State → State → Prop}
    {pc : Nat} {own E : String} {ce : Cell} {q : Addr} {mc ms : Nat} (hown : s.vm.findClass own = some m.cls) (hlocks : meth.locks = false)
    (hpass : ∀ z ∈ c.exceptionTable.toList, covers z pc = false ∨ (z.catchType ≠ 0 ∧ ∃ nm : String, (Cond.classLink own z.catchType nm).before args s = true ∧ va_Nc E nm s)) (hcell : H[q]? = some ce) (hv : ce.vm = .none) (hcl : s.vm.findClass E = some ce.cls)
    (hx : ∀ t : State, t.heap = H → s.vm.Alike t.vm → XC E s t) (hf : ∀ z ∈ locs, free z.base) (hc : cells ≤ mc) (hs : slots ≤ ms) :
    vx_W p l e R s m args below meth c H locs cells slots (vx_MQ below Qc XC args s mc ms free) (F0 m pc ls rest) q := by
  intro T hT X
  have hpl : e.platform.magicAccessors = ({} : Platform).magicAccessors := by rw [X.admits.platform]
  obtain ⟨vm', hW', X', st⟩ := X.outThrough hlocks q (g := F0 m pc ls rest) rfl rfl rfl (cell := ce) (by rw [hT]; exact hcell) (by rw [hv]; rfl)
    (by obtain ⟨k9, h9, -⟩ := Vm.findClass_spec hcl; exact ⟨k9, h9⟩) (fun z hz => by
      rcases hpass z hz with h | ⟨hz0, nm, hl1, hn1⟩
      · exact Or.inl h
      · obtain ⟨c6, hc6, hcl6⟩ := Cond.classLink_spec hown hl1 e.platform hpl
        obtain ⟨a8, b8, h1, h2, h3⟩ := hn1
        cases Option.some.inj (h1.symm.trans hcl)
        cases Option.some.inj (h2.symm.trans hc6)
        exact Or.inr ⟨hz0, _, hcl6, h3⟩)
  obtain ⟨g₀, hfr⟩ := X'.frames_eq
  have hcell9 : ((T.setVm vm').setFrames (.throwing q :: below)).heap[q]? = some ce := by
    show T.heap[q]? = some ce
    rw [hT]; exact hcell
  have hend : Ended ((T.setVm vm').setFrames (.throwing q :: below)) below (.threw q) := State.frames_setFrames _ (State.cur_lt_of_frames hfr)
  refine ⟨(T.setVm vm').setFrames (.throwing q :: below), ?_, .threw q, X'.here.running, hend, Or.inr ⟨q, rfl, E, ce, locs, hx _ hT (X'.ends _).1.alike, hcell9, hv, hcl, (X'.ends _).1, (X'.ends _).2.mono hc hs, hf⟩⟩
  rw [X.pushThrowing_eq]
  exact st
/-- a thing of a world lies in the heap -/
theorem vx_lt {D : va_G} {cl : List vw_C} {ws : va_W} {H1 : Heap} (h : va_P D cl ws H1) {k : Nat} {q : Nat × va_E} (hk : ws[k]? = some q) : q.1 < H1.size := (h k q hk).lt
end VXS
/-! ===== END ===== -/
/-! ===== BEGIN methods with a table of their own: called by a name, returning or throwing ===== -/
section VXH
/-! vx_backW, vx_callVX, vx_callSX, vx_callVW, vx_runVW, vx_runVX, vx_runSX, vx_ofWH follow the same proofs as their sisters above (Free/Laws.lean, Shelf42/LK1.lean); vx_outP calls Shelf42/NT130.lean (outThrough). -/
section
variable {l : Launch} {R : Room} {p : Program} {e : Env} {below : List Frame} {s : State} {sargs : Array Value} {y : MethodName} {len W9 : Nat}
theorem vx_backW {ws : List Cond} {rm : Room} {Pc : Array Value → State → Prop} {Qc : Array Value → State → Outcome → State → Prop} {XC : String → State → State → Prop} {mc ms : Nat} {free : Addr → Prop} {bytes : ByteArray} {maxL : Nat} {ret : Option FieldType} {hh : List (Nat × Nat × Nat × Nat)}
    (hM : vx_Met l y ws rm Pc Qc XC mc ms free) (hblind : FrameBlind Pc) (hrc : rm.cells = mc) (hrs : rm.slots = ms)
    (hframes : rm.frames + 1 ≤ R.frames) (hlocals : W9 + (maxL + 11) + rm.locals ≤ R.locals)
    (hws : ∀ w ∈ ws, ∀ a' U, s.WarmedH U.vm → w.before a' U = true) (hcode : Cond.codeWith y bytes maxL ret hh ∈ ws) (hinit : ∀ a' U, s.WarmedH U.vm → (Cond.initialized y.cls).before a' U = true) :
    vx_Back l R p e below s sargs y len W9 (PreOf R mc ms Pc) (PostOf Qc mc ms free) (vx_Post XC mc ms free) := by
  intro m meth c A g ig mk a X hg hsize hdg hW hn hp
  have h1 : (headSpec ws rm).pre.before a A.U = true := atoms_intro fun w hw => hws w hw _ _ X.warmed
  have h2 : (Cond.codeWith y bytes maxL ret hh).before a A.U = true := hws _ hcode _ _ X.warmed
  have h3 : (Cond.initialized y.cls).before a A.U = true := hinit _ _ X.warmed
  have h4 : A.cells + (headSpec ws rm).room.cells ≤ R.cells := by rw [show (headSpec ws rm).room.cells = mc from hrc]; exact hp.1
  have h5 : A.slots + (headSpec ws rm).room.slots ≤ R.slots := by rw [show (headSpec ws rm).room.slots = ms from hrs]; exact hp.2.1
  have hPc : Pc a (A.U.calling g mk a) := hblind _ _ _ _ hp.2.2
  obtain ⟨U, Ls, c0, s0⟩ := A
  dsimp only [Pt.U, Pt.locs, Pt.cells, Pt.slots] at h1 h2 h3 h4 h5 X hn hPc ⊢
  obtain ⟨m9, methY, cY, hn9, hmY, hcY, -, hlY, -⟩ := Cond.codeWith_spec h2
  cases Option.some.inj (hn9.symm.trans hn)
  obtain ⟨kY, hkY, -⟩ := className_of_methodNamed hn
  have hinitY : kY.init = .initialized := Cond.initialized_spec (findClass_of_methodNamed hn) hkY h3
  have h : At U g.method c below := by rw [hg]; exact X.here
  have hlocals9 : W9 + (maxL + 11) + (headSpec ws rm).room.locals ≤ R.locals := hlocals
  have happ : (headSpec ws rm).appliesLoose y e.platform (U.calling g mk a) = true :=
    Spec.appliesLoose_calling (g := g) h hdg hn hkY hinitY
      (X.room_calling (g := g) (R' := (headSpec ws rm).room) hsize hmY hcY hframes (by rw [hlY]; omega) h4 h5) h1
  obtain ⟨mid, hmid⟩ := h.above
  have hfr : (U.setTop g).frames = (.java g :: mid) ++ below := by rw [State.frames_setTop' g h.top, hmid]; rfl
  obtain ⟨o, s₂, hsteps, -, hend, hq⟩ := Steps.callFree hM p X.admits X.cas X.clock (acts := []) hfr happ hPc trivial
  have hq' : vx_Q Qc XC mc ms free a (U.calling g mk a) o s₂ := hq
  rw [State.frames_setTop' g h.top] at hend
  obtain ⟨g₀, hg0⟩ := Option.isSome_iff_exists.mp h.top
  obtain ⟨r, hr⟩ := State.topJava?_eq_some.mp hg0
  have hr' : (({ U with heap := s₂.heap, slotsUsed := s₂.slotsUsed } : State).setVm s₂.vm).frames = .java g₀ :: r := hr
  rcases hq' with ⟨hqc, L, hfe, hL⟩ | ⟨q, rfl, E, ce, L, hx, hce, hcv, hcl, hW₂, hsm, hL⟩
  · obtain ⟨⟨v, rfl⟩, hW₂, e2, q2, q3, q4, q5, q6⟩ := id hfe
    have e3 : s₂ = ({ (U.calling g mk a).setFrames s₂.frames with heap := s₂.heap, slotsUsed := s₂.slotsUsed } : State).setVm s₂.vm := by
      have : s₂ = ({ s₂ with vm := (U.calling g mk a).vm } : State).setVm s₂.vm := rfl
      rw [e2] at this
      exact this
    obtain ⟨c₂, i₂, len₂, hc₂, hd₂, hf₂⟩ := hend
    have hW' : U.WarmedH s₂.vm := hW₂
    have hcc : c₂ = c := by
      have h1 : s₂.code? g.method = U.code? g.method := by
        rw [State.code?_eq, State.code?_eq, hW'.alike.method?]
      exact Option.some.inj (hc₂.symm.trans (h1.trans h.code))
    subst hcc
    have hlen : len₂ = len := by rw [hdg] at hd₂; cases hd₂; rfl
    subst hlen
    have hs₂ : s₂ = (({ U with heap := s₂.heap, slotsUsed := s₂.slotsUsed } : State).setVm s₂.vm).setTop { g with pc := g.pc + len₂, stack := v.toList ++ g.stack } := by
      refine e3.trans ?_
      rw [hf₂, State.calling_eq h.top, State.setFrames_setFrames, State.setTop_of_frames _ hr', hr]
      rfl
    have hsame : U.sameButNew ({ U with heap := s₂.heap, slotsUsed := s₂.slotsUsed } : State) L mc ms := by
      refine ⟨?_, q2, q3, q4, q5, q6⟩
      obtain ⟨t, ht, -⟩ := State.frames_cons hr
      show ({ U with heap := s₂.heap, slotsUsed := s₂.slotsUsed } : State) = { U.setFrames U.frames with heap := s₂.heap, slotsUsed := s₂.slotsUsed }
      rw [State.setFrames_self ht]
    subst hg
    refine Or.inl ⟨v, ⟨(({ U with heap := s₂.heap, slotsUsed := s₂.slotsUsed } : State).setVm s₂.vm), Ls ++ L, c0 + mc, s0 + ms⟩,
      ⟨X.admits, X.cas, X.clock, X.frames, X.room, X.hears, X.method, X.code, (X.here.setHeapUsed s₂.heap s₂.slotsUsed).setVm hW'.alike, X.tail, State.WarmedH.trans X.warmed hW', X.limits, X.bytes, X.same.trans (hsame.setVm s.vm)⟩,
      ⟨g, mk, s₂, L, rfl, rfl, hqc, rfl, hL, rfl, rfl⟩, ?_⟩
    show Steps p.tables e below _ ((({ U with heap := s₂.heap, slotsUsed := s₂.slotsUsed } : State).setVm s₂.vm).setTop { g with pc := g.pc + len₂, stack := v.toList ++ g.stack })
    rw [← hs₂]
    exact hsteps
  · obtain ⟨e2, q2, q3, q4, q5, q6⟩ := id hsm
    have e3 : s₂ = ({ (U.calling g mk a).setFrames s₂.frames with heap := s₂.heap, slotsUsed := s₂.slotsUsed } : State).setVm s₂.vm := by
      have : s₂ = ({ s₂ with vm := (U.calling g mk a).vm } : State).setVm s₂.vm := rfl
      rw [e2] at this
      exact this
    have hf₂ : s₂.frames = .throwing q :: .java g :: U.frames.tail := hend
    have hW' : U.WarmedH s₂.vm := hW₂
    have hs₂ : s₂ = ((({ U with heap := s₂.heap, slotsUsed := s₂.slotsUsed } : State).setVm s₂.vm).setTop g).pushFrame (.throwing q) := by
      refine e3.trans ?_
      rw [hf₂, State.calling_eq h.top, State.setFrames_setFrames, State.pushFrame, State.frames_setTop _ hr', State.setTop_of_frames _ hr', State.setFrames_setFrames, hr]
      rfl
    have hsame : U.sameButNew ({ U with heap := s₂.heap, slotsUsed := s₂.slotsUsed } : State) L mc ms := by
      refine ⟨?_, q2, q3, q4, q5, q6⟩
      obtain ⟨t, ht, -⟩ := State.frames_cons hr
      show ({ U with heap := s₂.heap, slotsUsed := s₂.slotsUsed } : State) = { U.setFrames U.frames with heap := s₂.heap, slotsUsed := s₂.slotsUsed }
      rw [State.setFrames_self ht]
    subst hg
    refine Or.inr ⟨q, ⟨(({ U with heap := s₂.heap, slotsUsed := s₂.slotsUsed } : State).setVm s₂.vm), Ls ++ L, c0 + mc, s0 + ms⟩,
      ⟨X.admits, X.cas, X.clock, X.frames, X.room, X.hears, X.method, X.code, (X.here.setHeapUsed s₂.heap s₂.slotsUsed).setVm hW'.alike, X.tail, State.WarmedH.trans X.warmed hW', X.limits, X.bytes, X.same.trans (hsame.setVm s.vm)⟩,
      ⟨g, mk, s₂, L, E, ce, rfl, rfl, hx, hce, hcv, hcl, rfl, hL, rfl, rfl⟩, ?_⟩
    show Steps p.tables e below _ (((({ U with heap := s₂.heap, slotsUsed := s₂.slotsUsed } : State).setVm s₂.vm).setTop g).pushFrame (.throwing q))
    rw [← hs₂]
    exact hsteps
end
variable {p : Program} {l : Launch} {e : Env} {R : Room} {s : State} {m : MethodId} {args : Array Value} {below : List Frame} {meth : Method} {c : Code} {T : State} {H : Heap} {locs : List Loc} {cells slots : Nat}
theorem vx_callVX (X : Stand p l e R s m args below meth c T locs cells slots) (hexec : p.tables.exec = Jvm.exec) {own C : String} {index : Nat} {y : MethodName} {bytes : ByteArray} {maxL : Nat} {ret : Option FieldType} {hh : List (Nat × Nat × Nat × Nat)}
    (hown : s.vm.findClass own = some m.cls) (hlink : (Cond.methodLink own index y).before args s = true) (hinst : (Cond.instanceMethod y).before args s = true) (hsel : (Cond.selects C y y).before args s = true)
    (hcode : (Cond.codeWith y bytes maxL ret hh).before args s = true) (hy : y.cls ≠ "java/lang/invoke/MethodHandle" ∧ y.cls ≠ "java/lang/invoke/VarHandle")
    {W9 : Nat} {Pre : Pt → Array Value → Prop} {Post : Pt → Array Value → Option Value → Pt → Prop} {PostX : Pt → Array Value → Addr → Pt → Prop} (hK : vx_Back l R p e below s args y 3 W9 Pre Post PostX)
    {b : Addr} {cellB : Cell} (hcell : T.heap[b]? = some cellB) (hobj : cellB.vm.isStatics = false) (hcls : s.vm.findClass C = some cellB.cls)
    {g : JFrame} (hg : g.method = m) (hsize : g.locals.size = c.maxLocals) {argsL rest : List Value} (hlen : ∀ sig, parseMethodDescriptor y.desc = some sig → argsL.length = sig.parameters.length)
    (hstack : g.stack = argsL.reverse ++ .ref b :: rest) (hW : 2 * g.monitorRoom + (rest.map fun v => v.category).sum ≤ W9) (hdg : decode c.code g.pc = .ok (.invokevirtual index, 3))
    (hpre : ∀ vm₁, s.WarmedH vm₁ → Pre ⟨T.setVm vm₁, locs, cells, slots⟩ (Value.ref b :: argsL).toArray) :
    (∃ (v : Option Value) (vm₁ : Vm) (B : Pt), s.WarmedH vm₁ ∧ Stand p l e R s m args below meth c B.U B.locs B.cells B.slots ∧ Post ⟨T.setVm vm₁, locs, cells, slots⟩ (Value.ref b :: argsL).toArray v B ∧
      ∀ target, Steps p.tables e below (B.U.setTop { g with pc := g.pc + 3, stack := v.toList ++ rest }) target → Steps p.tables e below (T.setTop g) target) ∨
    (∃ (q : Addr) (vm₁ : Vm) (B : Pt), s.WarmedH vm₁ ∧ Stand p l e R s m args below meth c B.U B.locs B.cells B.slots ∧ PostX ⟨T.setVm vm₁, locs, cells, slots⟩ (Value.ref b :: argsL).toArray q B ∧
      Steps p.tables e below (T.setTop g) ((B.U.setTop { g with stack := rest }).pushFrame (.throwing q))) := by
  obtain ⟨mk, methM, hnamed, hmethM, hstM, habM⟩ := Cond.instanceMethod_spec hinst
  obtain ⟨m8, methM', cM, hn8, hmethM', -, -, -, -, -, -, hsigM⟩ := Cond.codeWith_spec hcode
  cases Option.some.inj (hn8.symm.trans hnamed)
  cases hmethM.symm.trans hmethM'
  obtain ⟨c2, r2, m2, q1, q2, q3, q4, kP, hkP, hkPi⟩ := Cond.selects_spec hsel
  cases hcls.symm.trans q1
  cases (State.methodFound?_of_named hnamed hy).symm.trans q2
  cases hnamed.symm.trans q3
  have hselP : selectMethod e.platform s.vm cellB.cls mk = .method mk := by rw [Launch.admits_selectMethod X.admits]; exact q4
  obtain ⟨vm₁, X₁, hstep₁⟩ := X.invokevirtual hexec hown hlink hnamed hmethM hstM hkP hkPi hy (a := b) (cell := cellB) hcell
    (fun z h => by rw [h] at hobj; cases hobj) hselP hmethM habM hkP hkPi (g := g) hg (argsL := argsL) (rest := rest) (hlen _ hsigM) hstack hdg
  rcases hK m meth c ⟨T.setVm vm₁, locs, cells, slots⟩ { g with stack := rest } (.invokevirtual index) mk (Value.ref b :: argsL).toArray X₁ hg hsize hdg hW (X₁.named hnamed) (hpre vm₁ X₁.warmed) with ⟨v, B, X', hpost, hsteps⟩ | ⟨q, B, X', hpost, hsteps⟩
  · exact Or.inl ⟨v, vm₁, B, X₁.warmed, X', hpost, fun target h => hstep₁ _ fun acts => by rw [doInvoke_state]; exact hsteps.trans h⟩
  · exact Or.inr ⟨q, vm₁, B, X₁.warmed, X', hpost, hstep₁ _ fun acts => by rw [doInvoke_state]; exact hsteps⟩
theorem vx_callSX (X : Stand p l e R s m args below meth c T locs cells slots) (hexec : p.tables.exec = Jvm.exec) {own : String} {index : Nat} {y : MethodName} {bytes : ByteArray} {maxL : Nat} {ret : Option FieldType} {hh : List (Nat × Nat × Nat × Nat)}
    (hown : s.vm.findClass own = some m.cls) (hlink : (Cond.methodLink own index y).before args s = true) (hstat : (Cond.static y).before args s = true) (hinit : (Cond.initialized y.cls).before args s = true)
    (hcode : (Cond.codeWith y bytes maxL ret hh).before args s = true) (hy : y.cls ≠ "java/lang/invoke/MethodHandle" ∧ y.cls ≠ "java/lang/invoke/VarHandle")
    {W9 : Nat} {Pre : Pt → Array Value → Prop} {Post : Pt → Array Value → Option Value → Pt → Prop} {PostX : Pt → Array Value → Addr → Pt → Prop} (hK : vx_Back l R p e below s args y 3 W9 Pre Post PostX)
    {g : JFrame} (hg : g.method = m) (hsize : g.locals.size = c.maxLocals) {argsL rest : List Value} (hlen : ∀ sig, parseMethodDescriptor y.desc = some sig → argsL.length = sig.parameters.length)
    (hstack : g.stack = argsL.reverse ++ rest) (hW : 2 * g.monitorRoom + (rest.map fun v => v.category).sum ≤ W9) (hdg : decode c.code g.pc = .ok (.invokestatic index, 3))
    (hpre : ∀ vm₁, s.WarmedH vm₁ → Pre ⟨T.setVm vm₁, locs, cells, slots⟩ argsL.toArray) :
    (∃ (v : Option Value) (vm₁ : Vm) (B : Pt), s.WarmedH vm₁ ∧ Stand p l e R s m args below meth c B.U B.locs B.cells B.slots ∧ Post ⟨T.setVm vm₁, locs, cells, slots⟩ argsL.toArray v B ∧
      ∀ target, Steps p.tables e below (B.U.setTop { g with pc := g.pc + 3, stack := v.toList ++ rest }) target → Steps p.tables e below (T.setTop g) target) ∨
    (∃ (q : Addr) (vm₁ : Vm) (B : Pt), s.WarmedH vm₁ ∧ Stand p l e R s m args below meth c B.U B.locs B.cells B.slots ∧ PostX ⟨T.setVm vm₁, locs, cells, slots⟩ argsL.toArray q B ∧
      Steps p.tables e below (T.setTop g) ((B.U.setTop { g with stack := rest }).pushFrame (.throwing q))) := by
  obtain ⟨mk, methM, cM, hnamed, hmethM, -, -, -, -, -, -, hsigM⟩ := Cond.codeWith_spec hcode
  have hstatic : methM.isStatic = true := Cond.static_spec hnamed hmethM hstat
  obtain ⟨kP, hkP, -⟩ := className_of_methodNamed hnamed
  have hinitP : kP.init = .initialized := Cond.initialized_spec (findClass_of_methodNamed hnamed) hkP hinit
  obtain ⟨vm₁, X₁, hstep₁⟩ := X.invokestatic hexec hown hlink hnamed hmethM hstatic hkP hinitP hy (g := g) hg (argsL := argsL) (rest := rest) (hlen _ hsigM) hstack hdg
  rcases hK m meth c ⟨T.setVm vm₁, locs, cells, slots⟩ { g with stack := rest } (.invokestatic index) mk argsL.toArray X₁ hg hsize hdg hW (X₁.named hnamed) (hpre vm₁ X₁.warmed) with ⟨v, B, X', hpost, hsteps⟩ | ⟨q, B, X', hpost, hsteps⟩
  · exact Or.inl ⟨v, vm₁, B, X₁.warmed, X', hpost, fun target h => hstep₁ _ fun acts => by rw [doInvoke_state]; exact hsteps.trans h⟩
  · exact Or.inr ⟨q, vm₁, B, X₁.warmed, X', hpost, hstep₁ _ fun acts => by rw [doInvoke_state]; exact hsteps⟩
theorem vx_callVW (X : Stand p l e R s m args below meth c T locs cells slots) (hexec : p.tables.exec = Jvm.exec) {own C : String} {index : Nat} {y : MethodName} {bytes : ByteArray} {maxL : Nat} {ret : Option FieldType} {hh : List (Nat × Nat × Nat × Nat)}
    (hown : s.vm.findClass own = some m.cls) (hlink : (Cond.methodLink own index y).before args s = true) (hinst : (Cond.instanceMethod y).before args s = true) (hsel : (Cond.selects C y y).before args s = true)
    (hcode : (Cond.codeWith y bytes maxL ret hh).before args s = true) (hy : y.cls ≠ "java/lang/invoke/MethodHandle" ∧ y.cls ≠ "java/lang/invoke/VarHandle")
    {W9 : Nat} {Pre : Pt → Array Value → Prop} {Post : Pt → Array Value → Option Value → Pt → Prop} (hK : Back l R p e below s args y 3 W9 Pre Post)
    {b : Addr} {cellB : Cell} (hcell : T.heap[b]? = some cellB) (hobj : cellB.vm.isStatics = false) (hcls : s.vm.findClass C = some cellB.cls)
    {g : JFrame} (hg : g.method = m) (hsize : g.locals.size = c.maxLocals) {argsL rest : List Value} (hlen : ∀ sig, parseMethodDescriptor y.desc = some sig → argsL.length = sig.parameters.length)
    (hstack : g.stack = argsL.reverse ++ .ref b :: rest) (hW : 2 * g.monitorRoom + (rest.map fun v => v.category).sum ≤ W9) (hdg : decode c.code g.pc = .ok (.invokevirtual index, 3))
    (hpre : ∀ vm₁, s.WarmedH vm₁ → Pre ⟨T.setVm vm₁, locs, cells, slots⟩ (Value.ref b :: argsL).toArray) :
    ∃ (v : Option Value) (vm₁ : Vm) (B : Pt), s.WarmedH vm₁ ∧ Stand p l e R s m args below meth c B.U B.locs B.cells B.slots ∧ Post ⟨T.setVm vm₁, locs, cells, slots⟩ (Value.ref b :: argsL).toArray v B ∧
      ∀ target, Steps p.tables e below (B.U.setTop { g with pc := g.pc + 3, stack := v.toList ++ rest }) target → Steps p.tables e below (T.setTop g) target := by
  obtain ⟨mk, methM, hnamed, hmethM, hstM, habM⟩ := Cond.instanceMethod_spec hinst
  obtain ⟨m8, methM', cM, hn8, hmethM', -, -, -, -, -, -, hsigM⟩ := Cond.codeWith_spec hcode
  cases Option.some.inj (hn8.symm.trans hnamed)
  cases hmethM.symm.trans hmethM'
  obtain ⟨c2, r2, m2, q1, q2, q3, q4, kP, hkP, hkPi⟩ := Cond.selects_spec hsel
  cases hcls.symm.trans q1
  cases (State.methodFound?_of_named hnamed hy).symm.trans q2
  cases hnamed.symm.trans q3
  have hselP : selectMethod e.platform s.vm cellB.cls mk = .method mk := by rw [Launch.admits_selectMethod X.admits]; exact q4
  obtain ⟨vm₁, X₁, hstep₁⟩ := X.invokevirtual hexec hown hlink hnamed hmethM hstM hkP hkPi hy (a := b) (cell := cellB) hcell
    (fun z h => by rw [h] at hobj; cases hobj) hselP hmethM habM hkP hkPi (g := g) hg (argsL := argsL) (rest := rest) (hlen _ hsigM) hstack hdg
  obtain ⟨v, B, X', hpost, hsteps⟩ := hK m meth c ⟨T.setVm vm₁, locs, cells, slots⟩ { g with stack := rest } (.invokevirtual index) mk (Value.ref b :: argsL).toArray X₁ hg hsize hdg hW (X₁.named hnamed) (hpre vm₁ X₁.warmed)
  exact ⟨v, vm₁, B, X₁.warmed, X', hpost, fun target h => hstep₁ _ fun acts => by rw [doInvoke_state]; exact hsteps.trans h⟩
abbrev vx_CVW (R : Room) (s : State) (args : Array Value) (own C : String) (index : Nat) (y : MethodName) (bytes : ByteArray) (maxL : Nat) (ret : Option FieldType) (hh : List (Nat × Nat × Nat × Nat)) (ws : List Cond) (rm : Room) (mc ms n : Nat) : Prop :=
  (rm.cells = mc ∧ rm.slots = ms ∧ rm.frames + 1 ≤ R.frames ∧ 8 + (maxL + 11) + rm.locals ≤ R.locals ∧ (∀ w ∈ ws, ∀ (a' : Array Value) (U : State), s.WarmedH U.vm → w.before a' U = true) ∧ Cond.codeWith y bytes maxL ret hh ∈ ws) ∧
  (Cond.codeWith y bytes maxL ret hh).before args s = true ∧ (Cond.initialized y.cls).before args s = true ∧ (y.cls ≠ "java/lang/invoke/MethodHandle" ∧ y.cls ≠ "java/lang/invoke/VarHandle") ∧
  (∀ sig, parseMethodDescriptor y.desc = some sig → n = sig.parameters.length) ∧ (Cond.methodLink own index y).before args s = true ∧ (Cond.instanceMethod y).before args s = true ∧ (Cond.selects C y y).before args s = true
theorem vx_cwVW {own C : String} {index maxL mc ms : Nat} {y : MethodName} {bytes : ByteArray} {ret : Option FieldType} {hh : List (Nat × Nat × Nat × Nat)} {Ts ws ws' : List Cond} {rm : Room} (n : Nat) (ht : ∀ w ∈ Ts, w.before args s = true) (hT : GoodIn Ts (wsV own index C y ws)) (hw : ws = Cond.codeWith y bytes maxL ret hh :: ws') (hrc : rm.cells = mc) (hrs : rm.slots = ms)
    (hd : y.cls = C ∧ y.cls ≠ "java/lang/invoke/MethodHandle" ∧ y.cls ≠ "java/lang/invoke/VarHandle" ∧ (parseMethodDescriptor y.desc).map (fun d => d.parameters.length) = some n) (hR : rm.frames + 1 ≤ R.frames ∧ 8 + (maxL + 11) + rm.locals ≤ R.locals) :
    vx_CVW R s args own C index y bytes maxL ret hh ws rm mc ms n := by
  obtain ⟨hC, hd⟩ := hd
  subst hC
  have ok : ∀ w ∈ wsV own index y.cls y ws, w.before args s = true := fun w h => ht w (hT w h).1
  have hG : GoodIn Ts ws := fun w h => hT w (by unfold wsV; exact List.mem_append_right _ h)
  have hc : Cond.codeWith y bytes maxL ret hh ∈ ws := by rw [hw]; exact List.mem_cons_self
  refine ⟨⟨hrc, hrs, hR.1, hR.2, pay_in ht hG, hc⟩, ht _ (hG _ hc).1, ok _ (by simp [wsV]), ⟨hd.1, hd.2.1⟩, fun sig h => ?_, ok _ (by simp [wsV]), ok _ (by simp [wsV]), ok _ (by simp [wsV])⟩
  have h2 := hd.2.2
  rw [h] at h2
  exact (Option.some.inj h2).symm
theorem vx_runVW {y : MethodName} {bytes cc : ByteArray} {maxL nL mc ms n index : Nat} {ret : Option FieldType} {hh : List (Nat × Nat × Nat × Nat)} {ws : List Cond} {rm : Room} {Pc : Array Value → State → Prop} {Qc : Array Value → State → Outcome → State → Prop} {free : Addr → Prop} {Ts : List Cond} {own C : String} {b : Addr} {As rest : List Value} {g : JFrame}
    (S : CallFix p m c cc nL s args Ts own) (hM : Met l y ws rm Pc Qc mc ms free) (cw : vx_CVW R s args own C index y bytes maxL ret hh ws rm mc ms n) (hp : PreV s H C b Pc As)
    (hg : g.method = m) (hn : As.length = n) (hsize : g.locals.size = nL) (hstack : g.stack = As.reverse ++ .ref b :: rest) (hW : 2 * g.monitorRoom + (rest.map fun v => v.category).sum ≤ 8) (hdg : decode cc g.pc = .ok (.invokevirtual index, 3)) (hf : cells + mc ≤ R.cells ∧ slots + ms ≤ R.slots) :
    va_Run p l e R s m args below meth c H locs cells slots mc ms g rest (Qc (Value.ref b :: As).toArray) free := by
  obtain ⟨⟨hrc, hrs, hfr, hlo, hws, hcw⟩, hcode, hini, hy, hlen, hl, hin, hse⟩ := cw
  have hK : Back l R p e below s args y 3 8 (PreOf R mc ms Pc) (PostOf Qc mc ms free) := va_backW (hh := hh) (bytes := bytes) (maxL := maxL) (ret := ret) hM hp.1 hrc hrs hfr hlo hws hcw (fun a' U hW => word_at hW (Or.inl (by first | rfl | simp [Cond.onTables, Cond.keeps, Cond.steady])) hini)
  obtain ⟨hx, hb, hml, ho, -⟩ := S
  obtain ⟨-, ⟨cellB, hcB, hoB, hclB⟩, hPc⟩ := hp
  intro T hT X
  obtain ⟨v, vm₁, ⟨U', l2, c2, s2⟩, hW₁, X', ⟨g', mk, t, L, e1, e2, hq, h1, hL, h2, h3⟩, st⟩ := vx_callVW X hx (C := C) (hh := hh) (bytes := bytes) (maxL := maxL) (ret := ret) ho hl hin hse hcode hy hK (by rw [hT]; exact hcB) hoB hclB hg (hsize.trans hml.symm) (argsL := As) (rest := rest) (fun sig h => hn.trans (hlen sig h)) hstack hW (by rw [hb]; exact hdg)
    (fun vm₁ hW₁ => ⟨hf.1, hf.2, hPc (T.setVm vm₁) hT hW₁⟩)
  dsimp only [Pt.U, Pt.locs, Pt.cells, Pt.slots] at X' e1 e2 h1 h2 h3 st
  subst h1; subst h2; subst h3
  exact ⟨v, (T.setVm vm₁).calling g' mk (Value.ref b :: As).toArray, t, U', L, hT, X', hL, e1, e2, hq, st⟩
section
variable {y : MethodName} {bytes cc : ByteArray} {maxL nL mc ms n index : Nat} {ret : Option FieldType} {ws : List Cond} {rm : Room} {Pc : Array Value → State → Prop} {Qc : Array Value → State → Outcome → State → Prop} {XC : String → State → State → Prop} {free : Addr → Prop} {Ts : List Cond} {own C : String} {b : Addr} {As rest : List Value} {g : JFrame}
theorem vx_runVX {hh : List (Nat × Nat × Nat × Nat)} (S : CallFix p m c cc nL s args Ts own) (hM : vx_Met l y ws rm Pc Qc XC mc ms free) (cw : vx_CVW R s args own C index y bytes maxL ret hh ws rm mc ms n) (hp : PreV s H C b Pc As)
    (hg : g.method = m) (hn : As.length = n) (hsize : g.locals.size = nL) (hstack : g.stack = As.reverse ++ .ref b :: rest) (hW : 2 * g.monitorRoom + (rest.map fun v => v.category).sum ≤ 8) (hdg : decode cc g.pc = .ok (.invokevirtual index, 3)) (hf : cells + mc ≤ R.cells ∧ slots + ms ≤ R.slots) :
    vx_Run p l e R s m args below meth c H locs cells slots mc ms g rest (Qc (Value.ref b :: As).toArray) XC free := by
  obtain ⟨⟨hrc, hrs, hfr, hlo, hws, hcw⟩, hcode, hini, hy, hlen, hl, hin, hse⟩ := cw
  have hK : vx_Back l R p e below s args y 3 8 (PreOf R mc ms Pc) (PostOf Qc mc ms free) (vx_Post XC mc ms free) := vx_backW (hh := hh) (bytes := bytes) (maxL := maxL) (ret := ret) hM hp.1 hrc hrs hfr hlo hws hcw (fun a' U hW => word_at hW (Or.inl (by first | rfl | simp [Cond.onTables, Cond.keeps, Cond.steady])) hini)
  obtain ⟨hx, hb, hml, ho, -⟩ := S
  obtain ⟨-, ⟨cellB, hcB, hoB, hclB⟩, hPc⟩ := hp
  intro T hT X
  rcases vx_callVX X hx (C := C) (hh := hh) (bytes := bytes) (maxL := maxL) (ret := ret) ho hl hin hse hcode hy hK (by rw [hT]; exact hcB) hoB hclB hg (hsize.trans hml.symm) (argsL := As) (rest := rest) (fun sig h => hn.trans (hlen sig h)) hstack hW (by rw [hb]; exact hdg)
    (fun vm₁ hW₁ => ⟨hf.1, hf.2, hPc (T.setVm vm₁) hT hW₁⟩) with ⟨v, vm₁, ⟨U', l2, c2, s2⟩, hW₁, X', ⟨g', mk, t, L, e1, e2, hq, h1, hL, h2, h3⟩, st⟩ | ⟨q, vm₁, ⟨U', l2, c2, s2⟩, hW₁, X', ⟨g', mk, t, L, E, ce, e1, e2, hq, hce, hcv, hcl, h1, hL, h2, h3⟩, st⟩
  · dsimp only [Pt.U, Pt.locs, Pt.cells, Pt.slots] at X' e1 e2 h1 h2 h3 st
    subst h1; subst h2; subst h3
    exact Or.inl ⟨v, (T.setVm vm₁).calling g' mk (Value.ref b :: As).toArray, t, U', L, hT, X', hL, e1, e2, hq, st⟩
  · dsimp only [Pt.U, Pt.locs, Pt.cells, Pt.slots] at X' e1 e2 h1 h2 h3 st hcl
    subst h1; subst h2; subst h3
    exact Or.inr ⟨q, (T.setVm vm₁).calling g' mk (Value.ref b :: As).toArray, t, U', L, E, ce, hT, X', hL, e1, e2, hq, hce, hcv, vx_cls hW₁ hcl, st⟩
theorem vx_runSX {hh : List (Nat × Nat × Nat × Nat)} (S : CallFix p m c cc nL s args Ts own) (hM : vx_Met l y ws rm Pc Qc XC mc ms free) (cw : vx_CSW R s args own index y bytes maxL ret hh ws rm mc ms n) (hp : PreS s H Pc As)
    (hg : g.method = m) (hn : As.length = n) (hsize : g.locals.size = nL) (hstack : g.stack = As.reverse ++ rest) (hW : 2 * g.monitorRoom + (rest.map fun v => v.category).sum ≤ 8) (hdg : decode cc g.pc = .ok (.invokestatic index, 3)) (hf : cells + mc ≤ R.cells ∧ slots + ms ≤ R.slots) :
    vx_Run p l e R s m args below meth c H locs cells slots mc ms g rest (Qc As.toArray) XC free := by
  obtain ⟨⟨hrc, hrs, hfr, hlo, hws, hcw⟩, hcode, hini, hy, hlen, hl, hstt⟩ := cw
  have hK : vx_Back l R p e below s args y 3 8 (PreOf R mc ms Pc) (PostOf Qc mc ms free) (vx_Post XC mc ms free) := vx_backW (hh := hh) (bytes := bytes) (maxL := maxL) (ret := ret) hM hp.1 hrc hrs hfr hlo hws hcw (fun a' U hW => word_at hW (Or.inl (by first | rfl | simp [Cond.onTables, Cond.keeps, Cond.steady])) hini)
  obtain ⟨hx, hb, hml, ho, -⟩ := S
  intro T hT X
  rcases vx_callSX X hx (hh := hh) (bytes := bytes) (maxL := maxL) (ret := ret) ho hl hstt hini hcode hy hK hg (hsize.trans hml.symm) (argsL := As) (rest := rest) (fun sig h => hn.trans (hlen sig h)) hstack hW (by rw [hb]; exact hdg)
    (fun vm₁ hW₁ => ⟨hf.1, hf.2, hp.2 (T.setVm vm₁) hT hW₁⟩) with ⟨v, vm₁, ⟨U', l2, c2, s2⟩, hW₁, X', ⟨g', mk, t, L, e1, e2, hq, h1, hL, h2, h3⟩, st⟩ | ⟨q, vm₁, ⟨U', l2, c2, s2⟩, hW₁, X', ⟨g', mk, t, L, E, ce, e1, e2, hq, hce, hcv, hcl, h1, hL, h2, h3⟩, st⟩
  · dsimp only [Pt.U, Pt.locs, Pt.cells, Pt.slots] at X' e1 e2 h1 h2 h3 st
    subst h1; subst h2; subst h3
    exact Or.inl ⟨v, (T.setVm vm₁).calling g' mk As.toArray, t, U', L, hT, X', hL, e1, e2, hq, st⟩
  · dsimp only [Pt.U, Pt.locs, Pt.cells, Pt.slots] at X' e1 e2 h1 h2 h3 st hcl
    subst h1; subst h2; subst h3
    exact Or.inr ⟨q, (T.setVm vm₁).calling g' mk As.toArray, t, U', L, E, ce, hT, X', hL, e1, e2, hq, hce, hcv, vx_cls hW₁ hcl, st⟩
end
end VXH
theorem vx_ofWH {l : Launch} {y : MethodName} {ws ws' : List Cond} {rm : Room} {Pc : Array Value → State → Prop} {Qc : Array Value → State → Outcome → State → Prop} {XC : String → State → State → Prop} {mc ms : Nat} {free : Addr → Prop} {cc : ByteArray} {maxL : Nat} {ret : Option FieldType} {hh : List (Nat × Nat × Nat × Nat)}
    (hy : plainName y.cls = true) (hw : ws = Cond.codeWith y cc maxL ret hh :: ws')
    (body : ∀ p e s m args below meth c s₁, BodyLoose p l y (headSpec ws rm) cc maxL ret e s m args below meth c s₁ → c.maxLocals = maxL → Pc args s →
      W p l e (headSpec ws rm).room s m args below meth c s.heap [] 0 0 (vx_MQ below Qc XC args s mc ms free) (entryFrame m args maxL)) : vx_Met l y ws rm Pc Qc XC mc ms free := by
  refine MetFree.of_bodyS (code := cc) (maxLocals := maxL) (ret := ret) hy ?_ ?_
  · intro args s m h hn
    obtain ⟨m9, meth, c, hn9, h1, h2, h3, h4, -, h5, h6, -⟩ := Cond.codeWith_spec (atoms_spec (ws := ws) h _ (by rw [hw]; exact List.mem_cons_self))
    cases hn.symm.trans hn9
    exact ⟨meth, c, h1, h2, h3, h4, h5, h6⟩
  · intro p e s m args below meth c s₁ B hml hP _
    have hh0 : s₁.heap = s.heap := by rw [B.state]; rfl
    obtain ⟨t, a1, o, b1, b2, b3⟩ := body p e s m args below meth c s₁ B hml hP s₁ hh0 (Stand.of_body B)
    exact ⟨t, o, a1, b1, b2, b3⟩
/-! ===== END ===== -/
end
section
def RX0 : String := "NoiseFields$Blights"
def TX0 : u_T := fun k => match k with
  | 0 => ("NoiseFields$Blights", "bales", "I", false)
  | 1 => ("NoiseFields$Blights", "pence", "I", false)
  | 2 => ("NoiseFields$Blights", "struck", "I", false)
  | 3 => ("NoiseFields$Blights", "trial", "LNoiseFields$World;", true)
  | _ => ("NoiseFields$Blights", "foreseen", "[I", true)
def tyX0 : Nat → FieldType := fun k => match k with
  | 0 => .int
  | 1 => .int
  | 2 => .int
  | 3 => .object "NoiseFields$World"
  | _ => .array .int
abbrev wsX00 : List Cond := u_ws RX0 TX0 5
theorem nmX0 : ∀ a, a < 5 → ∀ b, b < 5 → a ≠ b → (TX0 a).2.1 ≠ (TX0 b).2.1 := by decide +kernel
theorem tyX0_ok : ∀ k, k < 5 → parseFieldDescriptor (TX0 k).2.2.1 = some (tyX0 k) := by decide +kernel
abbrev cX0_init : ByteArray := prog_2_method_1_code
def yX0_init : MethodName := ⟨RX0, "<init>", "(LNoiseFields$World;)V"⟩
abbrev cX0_foresee : ByteArray := prog_2_method_2_code
def yX0_foresee : MethodName := ⟨RX0, "foresee", "([II)V"⟩
abbrev cX0_strike : ByteArray := prog_2_method_3_code
def yX0_strike : MethodName := ⟨RX0, "strike", "(III)V"⟩
abbrev cX0_reapOrLose : ByteArray := prog_2_method_4_code
def yX0_reapOrLose : MethodName := ⟨RX0, "reapOrLose", "(ZII)V"⟩
def RX1 : String := "NoiseFields$Book"
def TX1 : u_T := fun k => match k with
  | 0 => ("NoiseFields$Book", "lines", "I", false)
  | 1 => ("NoiseFields$Book", "lineField", "[I", true)
  | 2 => ("NoiseFields$Book", "lineLoud", "[I", true)
  | 3 => ("NoiseFields$Book", "drafted", "I", false)
  | 4 => ("NoiseFields$Book", "draftField", "[I", true)
  | _ => ("NoiseFields$Book", "draftLoud", "[I", true)
def tyX1 : Nat → FieldType := fun k => match k with
  | 0 => .int
  | 1 => .array .int
  | 2 => .array .int
  | 3 => .int
  | 4 => .array .int
  | _ => .array .int
abbrev wsX10 : List Cond := u_ws RX1 TX1 6
theorem nmX1 : ∀ a, a < 6 → ∀ b, b < 6 → a ≠ b → (TX1 a).2.1 ≠ (TX1 b).2.1 := by decide +kernel
theorem tyX1_ok : ∀ k, k < 6 → parseFieldDescriptor (TX1 k).2.2.1 = some (tyX1 k) := by decide +kernel
abbrev cX1_init : ByteArray := prog_3_method_1_code
def yX1_init : MethodName := ⟨RX1, "<init>", "()V"⟩
abbrev cX1_readText : ByteArray := prog_3_method_2_code
def yX1_readText : MethodName := ⟨RX1, "readText", "(LNoiseFields$Tape;I)V"⟩
abbrev cX1_readLine : ByteArray := prog_3_method_3_code
def yX1_readLine : MethodName := ⟨RX1, "readLine", "(LNoiseFields$Tape;I)V"⟩
abbrev cX1_isTold : ByteArray := prog_3_method_4_code
def yX1_isTold : MethodName := ⟨RX1, "isTold", "(I)Z"⟩
def RX2 : String := "NoiseFields$Breeding"
def TX2 : u_T := fun k => match k with
  | 0 => ("NoiseFields$Breeding", "bornIn", "[I", true)
  | 1 => ("NoiseFields$Breeding", "latest", "I", false)
  | 2 => ("NoiseFields$Breeding", "there", "[I", true)
  | 3 => ("NoiseFields$Breeding", "many", "I", false)
  | 4 => ("NoiseFields$Breeding", "farm", "LNoiseFields$Farm;", false)
  | _ => ("NoiseFields$Breeding", "bred", "Z", false)
def tyX2 : Nat → FieldType := fun k => match k with
  | 0 => .array .int
  | 1 => .int
  | 2 => .array .int
  | 3 => .int
  | 4 => .object "NoiseFields$Farm"
  | _ => .boolean
abbrev wsX20 : List Cond := u_ws RX2 TX2 6
theorem nmX2 : ∀ a, a < 6 → ∀ b, b < 6 → a ≠ b → (TX2 a).2.1 ≠ (TX2 b).2.1 := by decide +kernel
theorem tyX2_ok : ∀ k, k < 6 → parseFieldDescriptor (TX2 k).2.2.1 = some (tyX2 k) := by decide +kernel
abbrev cX2_init : ByteArray := prog_4_method_1_code
def yX2_init : MethodName := ⟨RX2, "<init>", "()V"⟩
abbrev cX2_begin : ByteArray := prog_4_method_2_code
def yX2_begin : MethodName := ⟨RX2, "begin", "(LNoiseFields$Farm;)V"⟩
abbrev cX2_breed : ByteArray := prog_4_method_3_code
def yX2_breed : MethodName := ⟨RX2, "breed", "()V"⟩
abbrev cX2_crossAll : ByteArray := prog_4_method_4_code
def yX2_crossAll : MethodName := ⟨RX2, "crossAll", "(III)V"⟩
abbrev cX2_add : ByteArray := prog_4_method_5_code
def yX2_add : MethodName := ⟨RX2, "add", "(II)V"⟩
abbrev cX2_rowsBehind : ByteArray := prog_4_method_6_code
def yX2_rowsBehind : MethodName := ⟨RX2, "rowsBehind", "(I)J"⟩
def RX3 : String := "NoiseFields$Farm"
def TX3 : u_T := fun k => match k with
  | 0 => ("NoiseFields$Farm", "fields", "I", false)
  | 1 => ("NoiseFields$Farm", "sounds", "I", false)
  | 2 => ("NoiseFields$Farm", "orders", "I", false)
  | 3 => ("NoiseFields$Farm", "barn", "I", false)
  | 4 => ("NoiseFields$Farm", "spoilEighths", "I", false)
  | 5 => ("NoiseFields$Farm", "crossingKind", "I", false)
  | 6 => ("NoiseFields$Farm", "hails", "I", false)
  | 7 => ("NoiseFields$Farm", "hailYears", "J", false)
  | 8 => ("NoiseFields$Farm", "soil", "[I", true)
  | 9 => ("NoiseFields$Farm", "row", "[I", true)
  | 10 => ("NoiseFields$Farm", "loudness", "[I", true)
  | 11 => ("NoiseFields$Farm", "price", "[I", true)
  | 12 => ("NoiseFields$Farm", "orderYear", "[I", true)
  | 13 => ("NoiseFields$Farm", "orderSound", "[I", true)
  | 14 => ("NoiseFields$Farm", "orderBales", "[I", true)
  | _ => ("NoiseFields$Farm", "orderPence", "[I", true)
def tyX3 : Nat → FieldType := fun k => match k with
  | 0 => .int
  | 1 => .int
  | 2 => .int
  | 3 => .int
  | 4 => .int
  | 5 => .int
  | 6 => .int
  | 7 => .long
  | 8 => .array .int
  | 9 => .array .int
  | 10 => .array .int
  | 11 => .array .int
  | 12 => .array .int
  | 13 => .array .int
  | 14 => .array .int
  | _ => .array .int
abbrev wsX30 : List Cond := u_ws RX3 TX3 16
theorem nmX3 : ∀ a, a < 16 → ∀ b, b < 16 → a ≠ b → (TX3 a).2.1 ≠ (TX3 b).2.1 := by decide +kernel
theorem tyX3_ok : ∀ k, k < 16 → parseFieldDescriptor (TX3 k).2.2.1 = some (tyX3 k) := by decide +kernel
abbrev cX3_init : ByteArray := prog_5_method_1_code
def yX3_init : MethodName := ⟨RX3, "<init>", "()V"⟩
abbrev cX3_readClauses : ByteArray := prog_5_method_2_code
def yX3_readClauses : MethodName := ⟨RX3, "readClauses", "(LNoiseFields$Tape;)V"⟩
abbrev cX3_kindOf : ByteArray := prog_5_method_3_code
def yX3_kindOf : MethodName := ⟨RX3, "kindOf", "(LNoiseFields$Tape;)I"⟩
abbrev cX3_isFull : ByteArray := prog_5_method_4_code
def yX3_isFull : MethodName := ⟨RX3, "isFull", "(I)Z"⟩
abbrev cX3_readClause : ByteArray := prog_5_method_5_code
def yX3_readClause : MethodName := ⟨RX3, "readClause", "(LNoiseFields$Tape;I)V"⟩
abbrev cX3_loudOf : ByteArray := prog_5_method_6_code
def yX3_loudOf : MethodName := ⟨RX3, "loudOf", "(I)I"⟩
abbrev cX3_hailIn : ByteArray := prog_5_method_7_code
def yX3_hailIn : MethodName := ⟨RX3, "hailIn", "(I)I"⟩
abbrev cX3_spoiltOf : ByteArray := prog_5_method_8_code
def yX3_spoiltOf : MethodName := ⟨RX3, "spoiltOf", "(I)I"⟩
abbrev cX3_cross : ByteArray := prog_5_method_9_code
def yX3_cross : MethodName := ⟨RX3, "cross", "(II)I"⟩
def RX4 : String := "NoiseFields$Hearing"
def TX4 : u_T := fun k => match k with
  | 0 => ("NoiseFields$Hearing", "ways", "I", false)
  | 1 => ("NoiseFields$Hearing", "first", "I", false)
  | 2 => ("NoiseFields$Hearing", "nextField", "I", false)
  | 3 => ("NoiseFields$Hearing", "nextWorst", "I", false)
  | 4 => ("NoiseFields$Hearing", "books", "LNoiseFields$Book;", true)
  | 5 => ("NoiseFields$Hearing", "farm", "LNoiseFields$Farm;", false)
  | 6 => ("NoiseFields$Hearing", "listened", "Z", false)
  | 7 => ("NoiseFields$Hearing", "nextFound", "Z", false)
  | 8 => ("NoiseFields$Hearing", "kinds", "I", false)
  | 9 => ("NoiseFields$Hearing", "kindSound", "[I", true)
  | 10 => ("NoiseFields$Hearing", "kindSize", "[I", true)
  | 11 => ("NoiseFields$Hearing", "seen", "[I", true)
  | 12 => ("NoiseFields$Hearing", "split", "I", false)
  | 13 => ("NoiseFields$Hearing", "louds", "[I", true)
  | 14 => ("NoiseFields$Hearing", "weights", "[I", true)
  | 15 => ("NoiseFields$Hearing", "chainHead", "[I", true)
  | 16 => ("NoiseFields$Hearing", "chainNext", "[I", true)
  | _ => ("NoiseFields$Hearing", "tally", "[I", true)
def tyX4 : Nat → FieldType := fun k => match k with
  | 0 => .int
  | 1 => .int
  | 2 => .int
  | 3 => .int
  | 4 => .object "NoiseFields$Book"
  | 5 => .object "NoiseFields$Farm"
  | 6 => .boolean
  | 7 => .boolean
  | 8 => .int
  | 9 => .array .int
  | 10 => .array .int
  | 11 => .array .int
  | 12 => .int
  | 13 => .array .int
  | 14 => .array .int
  | 15 => .array .int
  | 16 => .array .int
  | _ => .array .int
abbrev wsX40 : List Cond := u_ws RX4 TX4 18
theorem nmX4 : ∀ a, a < 18 → ∀ b, b < 18 → a ≠ b → (TX4 a).2.1 ≠ (TX4 b).2.1 := by decide +kernel
theorem tyX4_ok : ∀ k, k < 18 → parseFieldDescriptor (TX4 k).2.2.1 = some (tyX4 k) := by decide +kernel
abbrev cX4_init : ByteArray := prog_6_method_1_code
def yX4_init : MethodName := ⟨RX4, "<init>", "(LNoiseFields$Book;)V"⟩
abbrev cX4_begin : ByteArray := prog_6_method_2_code
def yX4_begin : MethodName := ⟨RX4, "begin", "(LNoiseFields$Farm;)V"⟩
abbrev cX4_listen : ByteArray := prog_6_method_3_code
def yX4_listen : MethodName := ⟨RX4, "listen", "()V"⟩
abbrev cX4_findKinds : ByteArray := prog_6_method_4_code
def yX4_findKinds : MethodName := ⟨RX4, "findKinds", "()V"⟩
abbrev cX4_hearAll : ByteArray := prog_6_method_5_code
def yX4_hearAll : MethodName := ⟨RX4, "hearAll", "()V"⟩
abbrev cX4_rowsOver : ByteArray := prog_6_method_6_code
def yX4_rowsOver : MethodName := ⟨RX4, "rowsOver", "(I)I"⟩
abbrev cX4_fillHalf : ByteArray := prog_6_method_7_code
def yX4_fillHalf : MethodName := ⟨RX4, "fillHalf", "(III)V"⟩
abbrev cX4_sowKind : ByteArray := prog_6_method_8_code
def yX4_sowKind : MethodName := ⟨RX4, "sowKind", "(III)V"⟩
abbrev cX4_chainBehind : ByteArray := prog_6_method_9_code
def yX4_chainBehind : MethodName := ⟨RX4, "chainBehind", "()V"⟩
abbrev cX4_joinHalves : ByteArray := prog_6_method_10_code
def yX4_joinHalves : MethodName := ⟨RX4, "joinHalves", "(I)V"⟩
abbrev cX4_loudnessOf : ByteArray := prog_6_method_11_code
def yX4_loudnessOf : MethodName := ⟨RX4, "loudnessOf", "(III)I"⟩
abbrev cX4_agree : ByteArray := prog_6_method_12_code
def yX4_agree : MethodName := ⟨RX4, "agree", "(II)Z"⟩
abbrev cX4_noteWay : ByteArray := prog_6_method_13_code
def yX4_noteWay : MethodName := ⟨RX4, "noteWay", "(III)V"⟩
abbrev cX4_sureIn : ByteArray := prog_6_method_14_code
def yX4_sureIn : MethodName := ⟨RX4, "sureIn", "(I)I"⟩
abbrev cX4_findNext : ByteArray := prog_6_method_15_code
def yX4_findNext : MethodName := ⟨RX4, "findNext", "()V"⟩
abbrev cX4_worstAt : ByteArray := prog_6_method_16_code
def yX4_worstAt : MethodName := ⟨RX4, "worstAt", "(I)I"⟩
abbrev cX4_tallyAll : ByteArray := prog_6_method_17_code
def yX4_tallyAll : MethodName := ⟨RX4, "tallyAll", "(I)V"⟩
abbrev cX4_spread : ByteArray := prog_6_method_18_code
def yX4_spread : MethodName := ⟨RX4, "spread", "(II)V"⟩
def RX5 : String := "NoiseFields$Kept"
def TX5 : u_T := fun k => match k with
  | 0 => ("NoiseFields$Kept", "values", "[I", true)
  | 1 => ("NoiseFields$Kept", "before", "LNoiseFields$Kept;", true)
  | 2 => ("NoiseFields$Kept", "depth", "I", true)
  | 3 => ("NoiseFields$Kept", "undoable", "LNoiseFields$Kept;", true)
  | _ => ("NoiseFields$Kept", "taped", "[B", true)
def tyX5 : Nat → FieldType := fun k => match k with
  | 0 => .array .int
  | 1 => .object "NoiseFields$Kept"
  | 2 => .int
  | 3 => .object "NoiseFields$Kept"
  | _ => .array .byte
abbrev wsX50 : List Cond := u_ws RX5 TX5 5
theorem nmX5 : ∀ a, a < 5 → ∀ b, b < 5 → a ≠ b → (TX5 a).2.1 ≠ (TX5 b).2.1 := by decide +kernel
theorem tyX5_ok : ∀ k, k < 5 → parseFieldDescriptor (TX5 k).2.2.1 = some (tyX5 k) := by decide +kernel
abbrev cX5_init : ByteArray := prog_7_method_1_code
def yX5_init : MethodName := ⟨RX5, "<init>", "([ILNoiseFields$Kept;LNoiseFields$Kept;[B)V"⟩
def RX6 : String := "NoiseFields$Law"
def TX6 : u_T := fun k => match k with
  | 0 => ("NoiseFields$Law", "code", "[I", true)
  | 1 => ("NoiseFields$Law", "draft", "[I", true)
  | 2 => ("NoiseFields$Law", "values", "[I", true)
  | 3 => ("NoiseFields$Law", "given", "[I", true)
  | 4 => ("NoiseFields$Law", "size", "I", false)
  | _ => ("NoiseFields$Law", "drafted", "I", false)
def tyX6 : Nat → FieldType := fun k => match k with
  | 0 => .array .int
  | 1 => .array .int
  | 2 => .array .int
  | 3 => .array .int
  | 4 => .int
  | _ => .int
abbrev wsX60 : List Cond := u_ws RX6 TX6 6
theorem nmX6 : ∀ a, a < 6 → ∀ b, b < 6 → a ≠ b → (TX6 a).2.1 ≠ (TX6 b).2.1 := by decide +kernel
theorem tyX6_ok : ∀ k, k < 6 → parseFieldDescriptor (TX6 k).2.2.1 = some (tyX6 k) := by decide +kernel
abbrev cX6_init : ByteArray := prog_8_method_1_code
def yX6_init : MethodName := ⟨RX6, "<init>", "()V"⟩
abbrev cX6_beUsual : ByteArray := prog_8_method_2_code
def yX6_beUsual : MethodName := ⟨RX6, "beUsual", "()V"⟩
abbrev cX6_readText : ByteArray := prog_8_method_3_code
def yX6_readText : MethodName := ⟨RX6, "readText", "(LNoiseFields$Tape;)V"⟩
abbrev cX6_readSum : ByteArray := prog_8_method_4_code
def yX6_readSum : MethodName := ⟨RX6, "readSum", "(LNoiseFields$Tape;I)V"⟩
abbrev cX6_readProduct : ByteArray := prog_8_method_5_code
def yX6_readProduct : MethodName := ⟨RX6, "readProduct", "(LNoiseFields$Tape;I)V"⟩
abbrev cX6_readUnit : ByteArray := prog_8_method_6_code
def yX6_readUnit : MethodName := ⟨RX6, "readUnit", "(LNoiseFields$Tape;I)V"⟩
abbrev cX6_readBrackets : ByteArray := prog_8_method_7_code
def yX6_readBrackets : MethodName := ⟨RX6, "readBrackets", "(LNoiseFields$Tape;I)V"⟩
abbrev cX6_readNamed : ByteArray := prog_8_method_8_code
def yX6_readNamed : MethodName := ⟨RX6, "readNamed", "(LNoiseFields$Tape;I)V"⟩
abbrev cX6_nameOf : ByteArray := prog_8_method_9_code
def yX6_nameOf : MethodName := ⟨RX6, "nameOf", "(LNoiseFields$Tape;)I"⟩
abbrev cX6_put : ByteArray := prog_8_method_10_code
def yX6_put : MethodName := ⟨RX6, "put", "(I)V"⟩
abbrev cX6_inField : ByteArray := prog_8_method_11_code
def yX6_inField : MethodName := ⟨RX6, "inField", "(III)V"⟩
abbrev cX6_inYear : ByteArray := prog_8_method_12_code
def yX6_inYear : MethodName := ⟨RX6, "inYear", "(II)V"⟩
abbrev cX6_balesFor : ByteArray := prog_8_method_13_code
def yX6_balesFor : MethodName := ⟨RX6, "balesFor", "(IIII)I"⟩
abbrev cX6_joined : ByteArray := prog_8_method_14_code
def yX6_joined : MethodName := ⟨RX6, "joined", "(III)I"⟩
def RX7 : String := "NoiseFields$Plans"
def TX7 : u_T := fun k => match k with
  | 0 => ("NoiseFields$Plans", "pence", "I", false)
  | 1 => ("NoiseFields$Plans", "digits", "I", false)
  | 2 => ("NoiseFields$Plans", "found", "I", false)
  | 3 => ("NoiseFields$Plans", "first", "I", false)
  | 4 => ("NoiseFields$Plans", "world", "LNoiseFields$World;", true)
  | 5 => ("NoiseFields$Plans", "laws", "LNoiseFields$Law;", true)
  | 6 => ("NoiseFields$Plans", "gains", "[I", true)
  | 7 => ("NoiseFields$Plans", "most", "[I", true)
  | 8 => ("NoiseFields$Plans", "turnMost", "[I", true)
  | 9 => ("NoiseFields$Plans", "left", "[I", true)
  | 10 => ("NoiseFields$Plans", "chosen", "[I", true)
  | 11 => ("NoiseFields$Plans", "pay", "[I", true)
  | 12 => ("NoiseFields$Plans", "turnField", "I", false)
  | 13 => ("NoiseFields$Plans", "turnYears", "I", false)
  | _ => ("NoiseFields$Plans", "turnNear", "I", false)
def tyX7 : Nat → FieldType := fun k => match k with
  | 0 => .int
  | 1 => .int
  | 2 => .int
  | 3 => .int
  | 4 => .object "NoiseFields$World"
  | 5 => .object "NoiseFields$Law"
  | 6 => .array .int
  | 7 => .array .int
  | 8 => .array .int
  | 9 => .array .int
  | 10 => .array .int
  | 11 => .array .int
  | 12 => .int
  | 13 => .int
  | _ => .int
abbrev wsX70 : List Cond := u_ws RX7 TX7 15
theorem nmX7 : ∀ a, a < 15 → ∀ b, b < 15 → a ≠ b → (TX7 a).2.1 ≠ (TX7 b).2.1 := by decide +kernel
theorem tyX7_ok : ∀ k, k < 15 → parseFieldDescriptor (TX7 k).2.2.1 = some (tyX7 k) := by decide +kernel
abbrev cX7_init : ByteArray := prog_9_method_1_code
def yX7_init : MethodName := ⟨RX7, "<init>", "(LNoiseFields$World;LNoiseFields$Law;)V"⟩
abbrev cX7_loudOfChoice : ByteArray := prog_9_method_2_code
def yX7_loudOfChoice : MethodName := ⟨RX7, "loudOfChoice", "(I)I"⟩
abbrev cX7_planSowing : ByteArray := prog_9_method_3_code
def yX7_planSowing : MethodName := ⟨RX7, "planSowing", "()V"⟩
abbrev cX7_gainPlaceOf : ByteArray := prog_9_method_4_code
def yX7_gainPlaceOf : MethodName := ⟨RX7, "gainPlaceOf", "(III)I"⟩
abbrev cX7_findGains : ByteArray := prog_9_method_5_code
def yX7_findGains : MethodName := ⟨RX7, "findGains", "()V"⟩
abbrev cX7_findGainsBy : ByteArray := prog_9_method_6_code
def yX7_findGainsBy : MethodName := ⟨RX7, "findGainsBy", "(I)V"⟩
abbrev cX7_weighField : ByteArray := prog_9_method_7_code
def yX7_weighField : MethodName := ⟨RX7, "weighField", "(II)V"⟩
abbrev cX7_placeOf : ByteArray := prog_9_method_8_code
def yX7_placeOf : MethodName := ⟨RX7, "placeOf", "(III)I"⟩
abbrev cX7_bestNext : ByteArray := prog_9_method_9_code
def yX7_bestNext : MethodName := ⟨RX7, "bestNext", "(III)I"⟩
abbrev cX7_penceWith : ByteArray := prog_9_method_10_code
def yX7_penceWith : MethodName := ⟨RX7, "penceWith", "(IIII)I"⟩
abbrev cX7_spellSowing : ByteArray := prog_9_method_11_code
def yX7_spellSowing : MethodName := ⟨RX7, "spellSowing", "()V"⟩
abbrev cX7_planTurns : ByteArray := prog_9_method_12_code
def yX7_planTurns : MethodName := ⟨RX7, "planTurns", "(II)V"⟩
abbrev cX7_soilBehind : ByteArray := prog_9_method_13_code
def yX7_soilBehind : MethodName := ⟨RX7, "soilBehind", "(II)I"⟩
abbrev cX7_restBehind : ByteArray := prog_9_method_14_code
def yX7_restBehind : MethodName := ⟨RX7, "restBehind", "(II)I"⟩
abbrev cX7_mostFrom : ByteArray := prog_9_method_15_code
def yX7_mostFrom : MethodName := ⟨RX7, "mostFrom", "(IIII)I"⟩
abbrev cX7_bestChoice : ByteArray := prog_9_method_16_code
def yX7_bestChoice : MethodName := ⟨RX7, "bestChoice", "(IIII)I"⟩
abbrev cX7_penceBy : ByteArray := prog_9_method_17_code
def yX7_penceBy : MethodName := ⟨RX7, "penceBy", "(IIIII)I"⟩
abbrev cX7_turnPence : ByteArray := prog_9_method_18_code
def yX7_turnPence : MethodName := ⟨RX7, "turnPence", "(IIIII)I"⟩
abbrev cX7_takeSounds : ByteArray := prog_9_method_19_code
def yX7_takeSounds : MethodName := ⟨RX7, "takeSounds", "(I)Z"⟩
abbrev cX7_findSets : ByteArray := prog_9_method_20_code
def yX7_findSets : MethodName := ⟨RX7, "findSets", "()V"⟩
abbrev cX7_setFrom : ByteArray := prog_9_method_21_code
def yX7_setFrom : MethodName := ⟨RX7, "setFrom", "(II)V"⟩
abbrev cX7_isDrownedBy : ByteArray := prog_9_method_22_code
def yX7_isDrownedBy : MethodName := ⟨RX7, "isDrownedBy", "(II)Z"⟩
abbrev cX7_findRests : ByteArray := prog_9_method_23_code
def yX7_findRests : MethodName := ⟨RX7, "findRests", "(I)V"⟩
abbrev cX7_isBestReply : ByteArray := prog_9_method_24_code
def yX7_isBestReply : MethodName := ⟨RX7, "isBestReply", "(II)Z"⟩
abbrev cX7_payFor : ByteArray := prog_9_method_25_code
def yX7_payFor : MethodName := ⟨RX7, "payFor", "(II)I"⟩
def RX8 : String := "NoiseFields$Tape"
def TX8 : u_T := fun k => match k with
  | 0 => ("NoiseFields$Tape", "bytes", "[B", true)
  | 1 => ("NoiseFields$Tape", "size", "I", false)
  | 2 => ("NoiseFields$Tape", "kind", "I", false)
  | 3 => ("NoiseFields$Tape", "place", "I", false)
  | 4 => ("NoiseFields$Tape", "at", "I", false)
  | 5 => ("NoiseFields$Tape", "wordAt", "I", false)
  | 6 => ("NoiseFields$Tape", "numberAt", "I", false)
  | 7 => ("NoiseFields$Tape", "wordSize", "I", false)
  | _ => ("NoiseFields$Tape", "end", "I", false)
def tyX8 : Nat → FieldType := fun k => match k with
  | 0 => .array .byte
  | 1 => .int
  | 2 => .int
  | 3 => .int
  | 4 => .int
  | 5 => .int
  | 6 => .int
  | 7 => .int
  | _ => .int
abbrev wsX80 : List Cond := u_ws RX8 TX8 9
theorem nmX8 : ∀ a, a < 9 → ∀ b, b < 9 → a ≠ b → (TX8 a).2.1 ≠ (TX8 b).2.1 := by decide +kernel
theorem tyX8_ok : ∀ k, k < 9 → parseFieldDescriptor (TX8 k).2.2.1 = some (tyX8 k) := by decide +kernel
abbrev cX8_init : ByteArray := prog_10_method_1_code
def yX8_init : MethodName := ⟨RX8, "<init>", "()V"⟩
abbrev cX8_put : ByteArray := prog_10_method_2_code
def yX8_put : MethodName := ⟨RX8, "put", "(I)V"⟩
abbrev cX8_lay : ByteArray := prog_10_method_3_code
def yX8_lay : MethodName := ⟨RX8, "lay", "([B)V"⟩
abbrev cX8_open : ByteArray := prog_10_method_4_code
def yX8_open : MethodName := ⟨RX8, "open", "(I)V"⟩
abbrev cX8_failed : ByteArray := prog_10_method_5_code
def yX8_failed : MethodName := ⟨RX8, "failed", "()Z"⟩
abbrev cX8_fail : ByteArray := prog_10_method_6_code
def yX8_fail : MethodName := ⟨RX8, "fail", "(II)V"⟩
abbrev cX8_skipBlanks : ByteArray := prog_10_method_7_code
def yX8_skipBlanks : MethodName := ⟨RX8, "skipBlanks", "()V"⟩
abbrev cX8_more : ByteArray := prog_10_method_8_code
def yX8_more : MethodName := ⟨RX8, "more", "()Z"⟩
abbrev cX8_sign : ByteArray := prog_10_method_9_code
def yX8_sign : MethodName := ⟨RX8, "sign", "()I"⟩
abbrev cX8_pass : ByteArray := prog_10_method_10_code
def yX8_pass : MethodName := ⟨RX8, "pass", "(I)V"⟩
abbrev cX8_isDigit : ByteArray := prog_10_method_11_code
def yX8_isDigit : MethodName := ⟨RX8, "isDigit", "(I)Z"⟩
abbrev cX8_number : ByteArray := prog_10_method_12_code
def yX8_number : MethodName := ⟨RX8, "number", "(II)I"⟩
abbrev cX8_readWord : ByteArray := prog_10_method_13_code
def yX8_readWord : MethodName := ⟨RX8, "readWord", "()V"⟩
abbrev cX8_says : ByteArray := prog_10_method_14_code
def yX8_says : MethodName := ⟨RX8, "says", "(Ljava/lang/String;)Z"⟩
def RX9 : String := "NoiseFields$Work"
def TX9 : u_T := fun k => match k with
  | 0 => ("NoiseFields$Work", "told", "I", false)
  | 1 => ("NoiseFields$Work", "done", "I", false)
  | 2 => ("NoiseFields$Work", "refused", "I", false)
  | 3 => ("NoiseFields$Work", "world", "LNoiseFields$World;", true)
  | 4 => ("NoiseFields$Work", "step", "[I", true)
  | 5 => ("NoiseFields$Work", "firstNumber", "[I", true)
  | 6 => ("NoiseFields$Work", "secondNumber", "[I", true)
  | _ => ("NoiseFields$Work", "begun", "I", false)
def tyX9 : Nat → FieldType := fun k => match k with
  | 0 => .int
  | 1 => .int
  | 2 => .int
  | 3 => .object "NoiseFields$World"
  | 4 => .array .int
  | 5 => .array .int
  | 6 => .array .int
  | _ => .int
abbrev wsX90 : List Cond := u_ws RX9 TX9 8
theorem nmX9 : ∀ a, a < 8 → ∀ b, b < 8 → a ≠ b → (TX9 a).2.1 ≠ (TX9 b).2.1 := by decide +kernel
theorem tyX9_ok : ∀ k, k < 8 → parseFieldDescriptor (TX9 k).2.2.1 = some (tyX9 k) := by decide +kernel
abbrev cX9_init : ByteArray := prog_11_method_1_code
def yX9_init : MethodName := ⟨RX9, "<init>", "(LNoiseFields$World;)V"⟩
abbrev cX9_readText : ByteArray := prog_11_method_2_code
def yX9_readText : MethodName := ⟨RX9, "readText", "(LNoiseFields$Tape;)V"⟩
abbrev cX9_readSteps : ByteArray := prog_11_method_3_code
def yX9_readSteps : MethodName := ⟨RX9, "readSteps", "(LNoiseFields$Tape;I)V"⟩
abbrev cX9_readStep : ByteArray := prog_11_method_4_code
def yX9_readStep : MethodName := ⟨RX9, "readStep", "(LNoiseFields$Tape;I)V"⟩
abbrev cX9_readAgain : ByteArray := prog_11_method_5_code
def yX9_readAgain : MethodName := ⟨RX9, "readAgain", "(LNoiseFields$Tape;I)V"⟩
abbrev cX9_put : ByteArray := prog_11_method_6_code
def yX9_put : MethodName := ⟨RX9, "put", "(III)V"⟩
abbrev cX9_runSteps : ByteArray := prog_11_method_7_code
def yX9_runSteps : MethodName := ⟨RX9, "runSteps", "(III)V"⟩
abbrev cX9_runAgain : ByteArray := prog_11_method_8_code
def yX9_runAgain : MethodName := ⟨RX9, "runAgain", "(II)V"⟩
abbrev cX9_runStep : ByteArray := prog_11_method_9_code
def yX9_runStep : MethodName := ⟨RX9, "runStep", "(I)V"⟩
def RX10 : String := "NoiseFields$World"
def TX10 : u_T := fun k => match k with
  | 0 => ("NoiseFields$World", "now", "[I", true)
  | 1 => ("NoiseFields$World", "harvest", "[I", true)
  | 2 => ("NoiseFields$World", "farm", "LNoiseFields$Farm;", false)
  | _ => ("NoiseFields$World", "laws", "LNoiseFields$Law;", true)
def tyX10 : Nat → FieldType := fun k => match k with
  | 0 => .array .int
  | 1 => .array .int
  | 2 => .object "NoiseFields$Farm"
  | _ => .object "NoiseFields$Law"
abbrev wsX100 : List Cond := u_ws RX10 TX10 4
theorem nmX10 : ∀ a, a < 4 → ∀ b, b < 4 → a ≠ b → (TX10 a).2.1 ≠ (TX10 b).2.1 := by decide +kernel
theorem tyX10_ok : ∀ k, k < 4 → parseFieldDescriptor (TX10 k).2.2.1 = some (tyX10 k) := by decide +kernel
abbrev cX10_init : ByteArray := prog_12_method_1_code
def yX10_init : MethodName := ⟨RX10, "<init>", "(LNoiseFields$Law;)V"⟩
abbrev cX10_begin : ByteArray := prog_12_method_2_code
def yX10_begin : MethodName := ⟨RX10, "begin", "(LNoiseFields$Farm;)V"⟩
abbrev cX10_take : ByteArray := prog_12_method_3_code
def yX10_take : MethodName := ⟨RX10, "take", "([I)V"⟩
abbrev cX10_sumOf : ByteArray := prog_12_method_4_code
def yX10_sumOf : MethodName := ⟨RX10, "sumOf", "(I)I"⟩
abbrev cX10_ordersThat : ByteArray := prog_12_method_5_code
def yX10_ordersThat : MethodName := ⟨RX10, "ordersThat", "(I)I"⟩
abbrev cX10_sownIn : ByteArray := prog_12_method_6_code
def yX10_sownIn : MethodName := ⟨RX10, "sownIn", "(I)I"⟩
abbrev cX10_nearOf : ByteArray := prog_12_method_7_code
def yX10_nearOf : MethodName := ⟨RX10, "nearOf", "(I)I"⟩
abbrev cX10_loudnessAt : ByteArray := prog_12_method_8_code
def yX10_loudnessAt : MethodName := ⟨RX10, "loudnessAt", "(I)I"⟩
abbrev cX10_sixtiethsFrom : ByteArray := prog_12_method_9_code
def yX10_sixtiethsFrom : MethodName := ⟨RX10, "sixtiethsFrom", "(II)I"⟩
abbrev cX10_balesOf : ByteArray := prog_12_method_10_code
def yX10_balesOf : MethodName := ⟨RX10, "balesOf", "(III)I"⟩
abbrev cX10_sowIn : ByteArray := prog_12_method_11_code
def yX10_sowIn : MethodName := ⟨RX10, "sowIn", "(II)V"⟩
abbrev cX10_clearIn : ByteArray := prog_12_method_12_code
def yX10_clearIn : MethodName := ⟨RX10, "clearIn", "(I)Z"⟩
abbrev cX10_sellOf : ByteArray := prog_12_method_13_code
def yX10_sellOf : MethodName := ⟨RX10, "sellOf", "(II)Z"⟩
abbrev cX10_endYear : ByteArray := prog_12_method_14_code
def yX10_endYear : MethodName := ⟨RX10, "endYear", "()V"⟩
abbrev cX10_reap : ByteArray := prog_12_method_15_code
def yX10_reap : MethodName := ⟨RX10, "reap", "()V"⟩
abbrev cX10_ageFields : ByteArray := prog_12_method_16_code
def yX10_ageFields : MethodName := ⟨RX10, "ageFields", "()V"⟩
abbrev cX10_store : ByteArray := prog_12_method_17_code
def yX10_store : MethodName := ⟨RX10, "store", "()V"⟩
abbrev cX10_serveOrders : ByteArray := prog_12_method_18_code
def yX10_serveOrders : MethodName := ⟨RX10, "serveOrders", "()V"⟩
abbrev cX10_deliver : ByteArray := prog_12_method_19_code
def yX10_deliver : MethodName := ⟨RX10, "deliver", "(I)Z"⟩
abbrev cX10_spoilBales : ByteArray := prog_12_method_20_code
def yX10_spoilBales : MethodName := ⟨RX10, "spoilBales", "()V"⟩
def RX11 : String := "NoiseFields"
def TX11 : u_T := fun k => match k with
  | 0 => ("NoiseFields", "tape", "LNoiseFields$Tape;", true)
  | 1 => ("NoiseFields", "laws", "LNoiseFields$Law;", true)
  | 2 => ("NoiseFields", "world", "LNoiseFields$World;", true)
  | 3 => ("NoiseFields", "trial", "LNoiseFields$World;", true)
  | 4 => ("NoiseFields", "works", "LNoiseFields$Work;", true)
  | 5 => ("NoiseFields", "plans", "LNoiseFields$Plans;", true)
  | 6 => ("NoiseFields", "breeding", "LNoiseFields$Breeding;", true)
  | 7 => ("NoiseFields", "books", "LNoiseFields$Book;", true)
  | 8 => ("NoiseFields", "hearing", "LNoiseFields$Hearing;", true)
  | 9 => ("NoiseFields", "blights", "LNoiseFields$Blights;", true)
  | 10 => ("NoiseFields", "undoable", "LNoiseFields$Kept;", false)
  | 11 => ("NoiseFields", "latestImage", "LNoiseFields$Kept;", false)
  | 12 => ("NoiseFields", "refusedSteps", "I", false)
  | 13 => ("NoiseFields", "missingCalls", "I", false)
  | _ => ("NoiseFields", "wrongCalls", "I", false)
def tyX11 : Nat → FieldType := fun k => match k with
  | 0 => .object "NoiseFields$Tape"
  | 1 => .object "NoiseFields$Law"
  | 2 => .object "NoiseFields$World"
  | 3 => .object "NoiseFields$World"
  | 4 => .object "NoiseFields$Work"
  | 5 => .object "NoiseFields$Plans"
  | 6 => .object "NoiseFields$Breeding"
  | 7 => .object "NoiseFields$Book"
  | 8 => .object "NoiseFields$Hearing"
  | 9 => .object "NoiseFields$Blights"
  | 10 => .object "NoiseFields$Kept"
  | 11 => .object "NoiseFields$Kept"
  | 12 => .int
  | 13 => .int
  | _ => .int
abbrev wsX110 : List Cond := u_ws RX11 TX11 15
theorem nmX11 : ∀ a, a < 15 → ∀ b, b < 15 → a ≠ b → (TX11 a).2.1 ≠ (TX11 b).2.1 := by decide +kernel
theorem tyX11_ok : ∀ k, k < 15 → parseFieldDescriptor (TX11 k).2.2.1 = some (tyX11 k) := by decide +kernel
abbrev cX11_init : ByteArray := prog_1_method_1_code
def yX11_init : MethodName := ⟨RX11, "<init>", "()V"⟩
abbrev cX11_beginFarm : ByteArray := prog_1_method_2_code
def yX11_beginFarm : MethodName := ⟨RX11, "beginFarm", "(LNoiseFields$Farm;)V"⟩
abbrev cX11_feed : ByteArray := prog_1_method_3_code
def yX11_feed : MethodName := ⟨RX11, "feed", "(IIIII)I"⟩
abbrev cX11_farm : ByteArray := prog_1_method_4_code
def yX11_farm : MethodName := ⟨RX11, "farm", "(I)I"⟩
abbrev cX11_law : ByteArray := prog_1_method_5_code
def yX11_law : MethodName := ⟨RX11, "law", "(I)I"⟩
abbrev cX11_work : ByteArray := prog_1_method_6_code
def yX11_work : MethodName := ⟨RX11, "work", "(I)I"⟩
abbrev cX11_book : ByteArray := prog_1_method_7_code
def yX11_book : MethodName := ⟨RX11, "book", "(I)I"⟩
abbrev cX11_fault : ByteArray := prog_1_method_8_code
def yX11_fault : MethodName := ⟨RX11, "fault", "()I"⟩
abbrev cX11_undo : ByteArray := prog_1_method_9_code
def yX11_undo : MethodName := ⟨RX11, "undo", "()I"⟩
abbrev cX11_told : ByteArray := prog_1_method_10_code
def yX11_told : MethodName := ⟨RX11, "told", "(I)I"⟩
abbrev cX11_field : ByteArray := prog_1_method_11_code
def yX11_field : MethodName := ⟨RX11, "field", "(II)I"⟩
abbrev cX11_sound : ByteArray := prog_1_method_12_code
def yX11_sound : MethodName := ⟨RX11, "sound", "(II)I"⟩
abbrev cX11_order : ByteArray := prog_1_method_13_code
def yX11_order : MethodName := ⟨RX11, "order", "(II)I"⟩
abbrev cX11_yields : ByteArray := prog_1_method_14_code
def yX11_yields : MethodName := ⟨RX11, "yields", "(II)I"⟩
abbrev cX11_would : ByteArray := prog_1_method_15_code
def yX11_would : MethodName := ⟨RX11, "would", "(IIIIII)I"⟩
abbrev cX11_loud : ByteArray := prog_1_method_16_code
def yX11_loud : MethodName := ⟨RX11, "loud", "(I)I"⟩
abbrev cX11_drowned : ByteArray := prog_1_method_17_code
def yX11_drowned : MethodName := ⟨RX11, "drowned", "()I"⟩
abbrev cX11_ahead : ByteArray := prog_1_method_18_code
def yX11_ahead : MethodName := ⟨RX11, "ahead", "(I)I"⟩
abbrev cX11_best : ByteArray := prog_1_method_19_code
def yX11_best : MethodName := ⟨RX11, "best", "(I)I"⟩
abbrev cX11_turnsOf : ByteArray := prog_1_method_20_code
def yX11_turnsOf : MethodName := ⟨RX11, "turnsOf", "(III)I"⟩
abbrev cX11_sets : ByteArray := prog_1_method_21_code
def yX11_sets : MethodName := ⟨RX11, "sets", "(II)I"⟩
abbrev cX11_crossing : ByteArray := prog_1_method_22_code
def yX11_crossing : MethodName := ⟨RX11, "crossing", "(II)I"⟩
abbrev cX11_generation : ByteArray := prog_1_method_23_code
def yX11_generation : MethodName := ⟨RX11, "generation", "(I)I"⟩
abbrev cX11_rows : ByteArray := prog_1_method_24_code
def yX11_rows : MethodName := ⟨RX11, "rows", "(I)J"⟩
abbrev cX11_stable : ByteArray := prog_1_method_25_code
def yX11_stable : MethodName := ⟨RX11, "stable", "()I"⟩
abbrev cX11_heard : ByteArray := prog_1_method_26_code
def yX11_heard : MethodName := ⟨RX11, "heard", "(I)I"⟩
abbrev cX11_sure : ByteArray := prog_1_method_27_code
def yX11_sure : MethodName := ⟨RX11, "sure", "(I)I"⟩
abbrev cX11_ear : ByteArray := prog_1_method_28_code
def yX11_ear : MethodName := ⟨RX11, "ear", "(I)I"⟩
abbrev cX11_against : ByteArray := prog_1_method_29_code
def yX11_against : MethodName := ⟨RX11, "against", "(II)I"⟩
abbrev cX11_keeps : ByteArray := prog_1_method_30_code
def yX11_keeps : MethodName := ⟨RX11, "keeps", "(II)I"⟩
abbrev cX11_blight : ByteArray := prog_1_method_31_code
def yX11_blight : MethodName := ⟨RX11, "blight", "(IIII)I"⟩
abbrev cX11_span : ByteArray := prog_1_method_32_code
def yX11_span : MethodName := ⟨RX11, "span", "(IIIII)I"⟩
abbrev cX11_sums : ByteArray := prog_1_method_33_code
def yX11_sums : MethodName := ⟨RX11, "sums", "(I)I"⟩
abbrev cX11_image : ByteArray := prog_1_method_34_code
def yX11_image : MethodName := ⟨RX11, "image", "()I"⟩
abbrev cX11_restore : ByteArray := prog_1_method_35_code
def yX11_restore : MethodName := ⟨RX11, "restore", "()I"⟩
abbrev cX11_status : ByteArray := prog_1_method_36_code
def yX11_status : MethodName := ⟨RX11, "status", "(I)I"⟩
abbrev cX11_count : ByteArray := prog_1_method_37_code
def yX11_count : MethodName := ⟨RX11, "count", "(I)I"⟩
abbrev cX11_worksKept : ByteArray := prog_1_method_38_code
def yX11_worksKept : MethodName := ⟨RX11, "worksKept", "()I"⟩
abbrev cX11_imagesKept : ByteArray := prog_1_method_39_code
def yX11_imagesKept : MethodName := ⟨RX11, "imagesKept", "()I"⟩
abbrev cX11_needField : ByteArray := prog_1_method_40_code
def yX11_needField : MethodName := ⟨RX11, "needField", "(I)V"⟩
abbrev cX11_needSound : ByteArray := prog_1_method_41_code
def yX11_needSound : MethodName := ⟨RX11, "needSound", "(I)V"⟩
abbrev cX11_needBetween : ByteArray := prog_1_method_42_code
def yX11_needBetween : MethodName := ⟨RX11, "needBetween", "(III)V"⟩
abbrev cX11_needLength : ByteArray := prog_1_method_43_code
def yX11_needLength : MethodName := ⟨RX11, "needLength", "(II)V"⟩
abbrev cX11_refuseMissing : ByteArray := prog_1_method_44_code
def yX11_refuseMissing : MethodName := ⟨RX11, "refuseMissing", "()V"⟩
abbrev cX11_refuseWrong : ByteArray := prog_1_method_45_code
def yX11_refuseWrong : MethodName := ⟨RX11, "refuseWrong", "()V"⟩
def RX12 : String := "NoiseFieldsModel"
def TX12 : u_T := fun k => match k with
  | 0 => ("NoiseFieldsModel", "thrown", "I", false)
  | 1 => ("NoiseFieldsModel", "tape", "I", false)
  | 2 => ("NoiseFieldsModel", "size", "I", false)
  | 3 => ("NoiseFieldsModel", "place", "I", false)
  | 4 => ("NoiseFieldsModel", "at", "I", false)
  | 5 => ("NoiseFieldsModel", "fault", "I", false)
  | 6 => ("NoiseFieldsModel", "faultAt", "I", false)
  | 7 => ("NoiseFieldsModel", "clauses", "I", false)
  | 8 => ("NoiseFieldsModel", "open", "I", false)
  | 9 => ("NoiseFieldsModel", "fed", "[I", true)
  | 10 => ("NoiseFieldsModel", "refused", "[I", true)
  | 11 => ("NoiseFieldsModel", "readTold", "[I", true)
  | 12 => ("NoiseFieldsModel", "told", "[I", true)
  | 13 => ("NoiseFieldsModel", "readSoil", "[I", true)
  | 14 => ("NoiseFieldsModel", "readHail", "[I", true)
  | 15 => ("NoiseFieldsModel", "hail", "[I", true)
  | 16 => ("NoiseFieldsModel", "readSound", "[[I", true)
  | 17 => ("NoiseFieldsModel", "sound", "[[I", true)
  | 18 => ("NoiseFieldsModel", "readOrder", "[[I", true)
  | 19 => ("NoiseFieldsModel", "order", "[[I", true)
  | 20 => ("NoiseFieldsModel", "lawMany", "I", false)
  | 21 => ("NoiseFieldsModel", "readLawMany", "I", false)
  | 22 => ("NoiseFieldsModel", "law", "[[I", true)
  | 23 => ("NoiseFieldsModel", "readLaw", "[[I", true)
  | 24 => ("NoiseFieldsModel", "book", "[[I", true)
  | 25 => ("NoiseFieldsModel", "readBook", "[[I", true)
  | 26 => ("NoiseFieldsModel", "stack", "[I", true)
  | 27 => ("NoiseFieldsModel", "known", "[I", true)
  | 28 => ("NoiseFieldsModel", "step", "[[I", true)
  | 29 => ("NoiseFieldsModel", "steps", "I", false)
  | 30 => ("NoiseFieldsModel", "now", "[I", true)
  | 31 => ("NoiseFieldsModel", "trial", "[I", true)
  | 32 => ("NoiseFieldsModel", "before", "[[I", true)
  | 33 => ("NoiseFieldsModel", "kept", "[[I", true)
  | 34 => ("NoiseFieldsModel", "lines", "I", false)
  | 35 => ("NoiseFieldsModel", "works", "I", false)
  | 36 => ("NoiseFieldsModel", "refusedSteps", "I", false)
  | 37 => ("NoiseFieldsModel", "images", "I", false)
  | 38 => ("NoiseFieldsModel", "spot", "I", false)
  | 39 => ("NoiseFieldsModel", "grows", "[I", true)
  | 40 => ("NoiseFieldsModel", "begun", "I", false)
  | 41 => ("NoiseFieldsModel", "doneSteps", "I", false)
  | 42 => ("NoiseFieldsModel", "wanted", "[I", true)
  | 43 => ("NoiseFieldsModel", "heardAs", "[I", true)
  | 44 => ("NoiseFieldsModel", "alone", "[I", true)
  | 45 => ("NoiseFieldsModel", "lots", "I", false)
  | 46 => ("NoiseFieldsModel", "blightBales", "I", false)
  | 47 => ("NoiseFieldsModel", "blightPence", "I", false)
  | _ => ("NoiseFieldsModel", "blighted", "I", false)
def tyX12 : Nat → FieldType := fun k => match k with
  | 0 => .int
  | 1 => .int
  | 2 => .int
  | 3 => .int
  | 4 => .int
  | 5 => .int
  | 6 => .int
  | 7 => .int
  | 8 => .int
  | 9 => .array .int
  | 10 => .array .int
  | 11 => .array .int
  | 12 => .array .int
  | 13 => .array .int
  | 14 => .array .int
  | 15 => .array .int
  | 16 => .array (.array .int)
  | 17 => .array (.array .int)
  | 18 => .array (.array .int)
  | 19 => .array (.array .int)
  | 20 => .int
  | 21 => .int
  | 22 => .array (.array .int)
  | 23 => .array (.array .int)
  | 24 => .array (.array .int)
  | 25 => .array (.array .int)
  | 26 => .array .int
  | 27 => .array .int
  | 28 => .array (.array .int)
  | 29 => .int
  | 30 => .array .int
  | 31 => .array .int
  | 32 => .array (.array .int)
  | 33 => .array (.array .int)
  | 34 => .int
  | 35 => .int
  | 36 => .int
  | 37 => .int
  | 38 => .int
  | 39 => .array .int
  | 40 => .int
  | 41 => .int
  | 42 => .array .int
  | 43 => .array .int
  | 44 => .array .int
  | 45 => .int
  | 46 => .int
  | 47 => .int
  | _ => .int
abbrev wsX120 : List Cond := u_ws RX12 TX12 49
theorem nmX12 : ∀ a, a < 49 → ∀ b, b < 49 → a ≠ b → (TX12 a).2.1 ≠ (TX12 b).2.1 := by decide +kernel
theorem tyX12_ok : ∀ k, k < 49 → parseFieldDescriptor (TX12 k).2.2.1 = some (tyX12 k) := by decide +kernel
abbrev cX12_init : ByteArray := prog_14_method_1_code
def yX12_init : MethodName := ⟨RX12, "<init>", "()V"⟩
abbrev cX12_tellsNothing : ByteArray := prog_14_method_2_code
def yX12_tellsNothing : MethodName := ⟨RX12, "tellsNothing", "()V"⟩
abbrev cX12_thrown : ByteArray := prog_14_method_3_code
def yX12_thrown : MethodName := ⟨RX12, "thrown", "()I"⟩
abbrev cX12_bad : ByteArray := prog_14_method_4_code
def yX12_bad : MethodName := ⟨RX12, "bad", "(ZII)Z"⟩
abbrev cX12_in : ByteArray := prog_14_method_5_code
def yX12_in : MethodName := ⟨RX12, "in", "(III)Z"⟩
abbrev cX12_less : ByteArray := prog_14_method_6_code
def yX12_less : MethodName := ⟨RX12, "less", "(II)I"⟩
abbrev cX12_more : ByteArray := prog_14_method_7_code
def yX12_more : MethodName := ⟨RX12, "more", "(II)I"⟩
abbrev cX12_feed : ByteArray := prog_14_method_8_code
def yX12_feed : MethodName := ⟨RX12, "feed", "(IIIII)I"⟩
abbrev cX12_byteAt : ByteArray := prog_14_method_9_code
def yX12_byteAt : MethodName := ⟨RX12, "byteAt", "(I)I"⟩
abbrev cX12_blanks : ByteArray := prog_14_method_10_code
def yX12_blanks : MethodName := ⟨RX12, "blanks", "()V"⟩
abbrev cX12_wrong : ByteArray := prog_14_method_11_code
def yX12_wrong : MethodName := ⟨RX12, "wrong", "(II)V"⟩
abbrev cX12_isDigit : ByteArray := prog_14_method_12_code
def yX12_isDigit : MethodName := ⟨RX12, "isDigit", "(I)Z"⟩
abbrev cX12_isSmall : ByteArray := prog_14_method_13_code
def yX12_isSmall : MethodName := ⟨RX12, "isSmall", "(I)Z"⟩
abbrev cX12_number : ByteArray := prog_14_method_14_code
def yX12_number : MethodName := ⟨RX12, "number", "(II)I"⟩
abbrev cX12_wordHere : ByteArray := prog_14_method_15_code
def yX12_wordHere : MethodName := ⟨RX12, "wordHere", "()I"⟩
abbrev cX12_five : ByteArray := prog_14_method_16_code
def yX12_five : MethodName := ⟨RX12, "five", "(IIIII)I"⟩
abbrev cX12_isWord : ByteArray := prog_14_method_17_code
def yX12_isWord : MethodName := ⟨RX12, "isWord", "(IIIII)Z"⟩
abbrev cX12_skipWord : ByteArray := prog_14_method_18_code
def yX12_skipWord : MethodName := ⟨RX12, "skipWord", "()V"⟩
abbrev cX12_takes : ByteArray := prog_14_method_19_code
def yX12_takes : MethodName := ⟨RX12, "takes", "(IIIII)Z"⟩
abbrev cX12_sign : ByteArray := prog_14_method_20_code
def yX12_sign : MethodName := ⟨RX12, "sign", "(I)V"⟩
abbrev cX12_takesSign : ByteArray := prog_14_method_21_code
def yX12_takesSign : MethodName := ⟨RX12, "takesSign", "(I)Z"⟩
abbrev cX12_starts : ByteArray := prog_14_method_22_code
def yX12_starts : MethodName := ⟨RX12, "starts", "(I)V"⟩
abbrev cX12_ends : ByteArray := prog_14_method_23_code
def yX12_ends : MethodName := ⟨RX12, "ends", "()I"⟩
abbrev cX12_kindHere : ByteArray := prog_14_method_24_code
def yX12_kindHere : MethodName := ⟨RX12, "kindHere", "()I"⟩
abbrev cX12_clause : ByteArray := prog_14_method_25_code
def yX12_clause : MethodName := ⟨RX12, "clause", "()V"⟩
abbrev cX12_farm : ByteArray := prog_14_method_26_code
def yX12_farm : MethodName := ⟨RX12, "farm", "(I)I"⟩
abbrev cX12_lays : ByteArray := prog_14_method_27_code
def yX12_lays : MethodName := ⟨RX12, "lays", "([[I[[II)V"⟩
abbrev cX12_stands : ByteArray := prog_14_method_28_code
def yX12_stands : MethodName := ⟨RX12, "stands", "()V"⟩
abbrev cX12_notes : ByteArray := prog_14_method_29_code
def yX12_notes : MethodName := ⟨RX12, "notes", "(II)V"⟩
abbrev cX12_opens : ByteArray := prog_14_method_30_code
def yX12_opens : MethodName := ⟨RX12, "opens", "()Z"⟩
abbrev cX12_sum : ByteArray := prog_14_method_31_code
def yX12_sum : MethodName := ⟨RX12, "sum", "()V"⟩
abbrev cX12_product : ByteArray := prog_14_method_32_code
def yX12_product : MethodName := ⟨RX12, "product", "()V"⟩
abbrev cX12_knownHere : ByteArray := prog_14_method_33_code
def yX12_knownHere : MethodName := ⟨RX12, "knownHere", "()I"⟩
abbrev cX12_one : ByteArray := prog_14_method_34_code
def yX12_one : MethodName := ⟨RX12, "one", "()V"⟩
abbrev cX12_law : ByteArray := prog_14_method_35_code
def yX12_law : MethodName := ⟨RX12, "law", "(I)I"⟩
abbrev cX12_by : ByteArray := prog_14_method_36_code
def yX12_by : MethodName := ⟨RX12, "by", "(III)I"⟩
abbrev cX12_byLaw : ByteArray := prog_14_method_37_code
def yX12_byLaw : MethodName := ⟨RX12, "byLaw", "()I"⟩
abbrev cX12_yieldNow : ByteArray := prog_14_method_38_code
def yX12_yieldNow : MethodName := ⟨RX12, "yieldNow", "()I"⟩
abbrev cX12_hailIn : ByteArray := prog_14_method_39_code
def yX12_hailIn : MethodName := ⟨RX12, "hailIn", "(I)I"⟩
abbrev cX12_restOf : ByteArray := prog_14_method_40_code
def yX12_restOf : MethodName := ⟨RX12, "restOf", "([II)I"⟩
abbrev cX12_nearOf : ByteArray := prog_14_method_41_code
def yX12_nearOf : MethodName := ⟨RX12, "nearOf", "([II)I"⟩
abbrev cX12_yieldOf : ByteArray := prog_14_method_42_code
def yX12_yieldOf : MethodName := ⟨RX12, "yieldOf", "([III)I"⟩
abbrev cX12_would : ByteArray := prog_14_method_43_code
def yX12_would : MethodName := ⟨RX12, "would", "(IIIIII)I"⟩
abbrev cX12_stepHere : ByteArray := prog_14_method_44_code
def yX12_stepHere : MethodName := ⟨RX12, "stepHere", "()I"⟩
abbrev cX12_fieldHere : ByteArray := prog_14_method_45_code
def yX12_fieldHere : MethodName := ⟨RX12, "fieldHere", "()I"⟩
abbrev cX12_soundHere : ByteArray := prog_14_method_46_code
def yX12_soundHere : MethodName := ⟨RX12, "soundHere", "()I"⟩
abbrev cX12_readsStep : ByteArray := prog_14_method_47_code
def yX12_readsStep : MethodName := ⟨RX12, "readsStep", "()V"⟩
abbrev cX12_barnOf : ByteArray := prog_14_method_48_code
def yX12_barnOf : MethodName := ⟨RX12, "barnOf", "([I)I"⟩
abbrev cX12_laysYields : ByteArray := prog_14_method_49_code
def yX12_laysYields : MethodName := ⟨RX12, "laysYields", "([I)V"⟩
abbrev cX12_ages : ByteArray := prog_14_method_50_code
def yX12_ages : MethodName := ⟨RX12, "ages", "([I)V"⟩
abbrev cX12_yearEnds : ByteArray := prog_14_method_51_code
def yX12_yearEnds : MethodName := ⟨RX12, "yearEnds", "([I)V"⟩
abbrev cX12_does : ByteArray := prog_14_method_52_code
def yX12_does : MethodName := ⟨RX12, "does", "([I[I)Z"⟩
abbrev cX12_goes : ByteArray := prog_14_method_53_code
def yX12_goes : MethodName := ⟨RX12, "goes", "(II)V"⟩
abbrev cX12_copies : ByteArray := prog_14_method_54_code
def yX12_copies : MethodName := ⟨RX12, "copies", "([I[I)V"⟩
abbrev cX12_work : ByteArray := prog_14_method_55_code
def yX12_work : MethodName := ⟨RX12, "work", "(I)I"⟩
abbrev cX12_undo : ByteArray := prog_14_method_56_code
def yX12_undo : MethodName := ⟨RX12, "undo", "()I"⟩
abbrev cX12_book : ByteArray := prog_14_method_57_code
def yX12_book : MethodName := ⟨RX12, "book", "(I)I"⟩
abbrev cX12_fault : ByteArray := prog_14_method_58_code
def yX12_fault : MethodName := ⟨RX12, "fault", "()I"⟩
abbrev cX12_told : ByteArray := prog_14_method_59_code
def yX12_told : MethodName := ⟨RX12, "told", "(I)I"⟩
abbrev cX12_isField : ByteArray := prog_14_method_60_code
def yX12_isField : MethodName := ⟨RX12, "isField", "(I)Z"⟩
abbrev cX12_isSound : ByteArray := prog_14_method_61_code
def yX12_isSound : MethodName := ⟨RX12, "isSound", "(I)Z"⟩
abbrev cX12_field : ByteArray := prog_14_method_62_code
def yX12_field : MethodName := ⟨RX12, "field", "(II)I"⟩
abbrev cX12_sound : ByteArray := prog_14_method_63_code
def yX12_sound : MethodName := ⟨RX12, "sound", "(II)I"⟩
abbrev cX12_order : ByteArray := prog_14_method_64_code
def yX12_order : MethodName := ⟨RX12, "order", "(II)I"⟩
abbrev cX12_yields : ByteArray := prog_14_method_65_code
def yX12_yields : MethodName := ⟨RX12, "yields", "(II)I"⟩
abbrev cX12_loudOf : ByteArray := prog_14_method_66_code
def yX12_loudOf : MethodName := ⟨RX12, "loudOf", "([II)I"⟩
abbrev cX12_loud : ByteArray := prog_14_method_67_code
def yX12_loud : MethodName := ⟨RX12, "loud", "(I)I"⟩
abbrev cX12_drownedOf : ByteArray := prog_14_method_68_code
def yX12_drownedOf : MethodName := ⟨RX12, "drownedOf", "([I)I"⟩
abbrev cX12_drowned : ByteArray := prog_14_method_69_code
def yX12_drowned : MethodName := ⟨RX12, "drowned", "()I"⟩
abbrev cX12_all : ByteArray := prog_14_method_70_code
def yX12_all : MethodName := ⟨RX12, "all", "([III)I"⟩
abbrev cX12_ordersOf : ByteArray := prog_14_method_71_code
def yX12_ordersOf : MethodName := ⟨RX12, "ordersOf", "([II)I"⟩
abbrev cX12_ahead : ByteArray := prog_14_method_72_code
def yX12_ahead : MethodName := ⟨RX12, "ahead", "(I)I"⟩
abbrev cX12_sums : ByteArray := prog_14_method_73_code
def yX12_sums : MethodName := ⟨RX12, "sums", "(I)I"⟩
abbrev cX12_power : ByteArray := prog_14_method_74_code
def yX12_power : MethodName := ⟨RX12, "power", "(II)I"⟩
abbrev cX12_sows : ByteArray := prog_14_method_75_code
def yX12_sows : MethodName := ⟨RX12, "sows", "([II)V"⟩
abbrev cX12_digitsOf : ByteArray := prog_14_method_76_code
def yX12_digitsOf : MethodName := ⟨RX12, "digitsOf", "([I)I"⟩
abbrev cX12_worthOf : ByteArray := prog_14_method_77_code
def yX12_worthOf : MethodName := ⟨RX12, "worthOf", "([I)I"⟩
abbrev cX12_best : ByteArray := prog_14_method_78_code
def yX12_best : MethodName := ⟨RX12, "best", "(I)I"⟩
abbrev cX12_turnsOf : ByteArray := prog_14_method_79_code
def yX12_turnsOf : MethodName := ⟨RX12, "turnsOf", "(III)I"⟩
abbrev cX12_wants : ByteArray := prog_14_method_80_code
def yX12_wants : MethodName := ⟨RX12, "wants", "(I)Z"⟩
abbrev cX12_isWanted : ByteArray := prog_14_method_81_code
def yX12_isWanted : MethodName := ⟨RX12, "isWanted", "([I)Z"⟩
abbrev cX12_sets : ByteArray := prog_14_method_82_code
def yX12_sets : MethodName := ⟨RX12, "sets", "(II)I"⟩
abbrev cX12_crosses : ByteArray := prog_14_method_83_code
def yX12_crosses : MethodName := ⟨RX12, "crosses", "(II)I"⟩
abbrev cX12_crossing : ByteArray := prog_14_method_84_code
def yX12_crossing : MethodName := ⟨RX12, "crossing", "(II)I"⟩
abbrev cX12_rowsAtFirst : ByteArray := prog_14_method_85_code
def yX12_rowsAtFirst : MethodName := ⟨RX12, "rowsAtFirst", "()J"⟩
abbrev cX12_nextRows : ByteArray := prog_14_method_86_code
def yX12_nextRows : MethodName := ⟨RX12, "nextRows", "(J)J"⟩
abbrev cX12_generation : ByteArray := prog_14_method_87_code
def yX12_generation : MethodName := ⟨RX12, "generation", "(I)I"⟩
abbrev cX12_rows : ByteArray := prog_14_method_88_code
def yX12_rows : MethodName := ⟨RX12, "rows", "(I)J"⟩
abbrev cX12_stable : ByteArray := prog_14_method_89_code
def yX12_stable : MethodName := ⟨RX12, "stable", "()I"⟩
abbrev cX12_isHeard : ByteArray := prog_14_method_90_code
def yX12_isHeard : MethodName := ⟨RX12, "isHeard", "([I)Z"⟩
abbrev cX12_heard : ByteArray := prog_14_method_91_code
def yX12_heard : MethodName := ⟨RX12, "heard", "(I)I"⟩
abbrev cX12_sure : ByteArray := prog_14_method_92_code
def yX12_sure : MethodName := ⟨RX12, "sure", "(I)I"⟩
abbrev cX12_worstAt : ByteArray := prog_14_method_93_code
def yX12_worstAt : MethodName := ⟨RX12, "worstAt", "(I)I"⟩
abbrev cX12_ear : ByteArray := prog_14_method_94_code
def yX12_ear : MethodName := ⟨RX12, "ear", "(I)I"⟩
abbrev cX12_getsBy : ByteArray := prog_14_method_95_code
def yX12_getsBy : MethodName := ⟨RX12, "getsBy", "(II)I"⟩
abbrev cX12_isBest : ByteArray := prog_14_method_96_code
def yX12_isBest : MethodName := ⟨RX12, "isBest", "(II)Z"⟩
abbrev cX12_against : ByteArray := prog_14_method_97_code
def yX12_against : MethodName := ⟨RX12, "against", "(II)I"⟩
abbrev cX12_keeps : ByteArray := prog_14_method_98_code
def yX12_keeps : MethodName := ⟨RX12, "keeps", "(II)I"⟩
abbrev cX12_blights : ByteArray := prog_14_method_99_code
def yX12_blights : MethodName := ⟨RX12, "blights", "(III)V"⟩
abbrev cX12_blight : ByteArray := prog_14_method_100_code
def yX12_blight : MethodName := ⟨RX12, "blight", "(IIII)I"⟩
abbrev cX12_span : ByteArray := prog_14_method_101_code
def yX12_span : MethodName := ⟨RX12, "span", "(IIIII)I"⟩
abbrev cX12_puts : ByteArray := prog_14_method_102_code
def yX12_puts : MethodName := ⟨RX12, "puts", "([IIZ)I"⟩
abbrev cX12_putsAll : ByteArray := prog_14_method_103_code
def yX12_putsAll : MethodName := ⟨RX12, "putsAll", "([IZ)V"⟩
abbrev cX12_image : ByteArray := prog_14_method_104_code
def yX12_image : MethodName := ⟨RX12, "image", "()I"⟩
abbrev cX12_restore : ByteArray := prog_14_method_105_code
def yX12_restore : MethodName := ⟨RX12, "restore", "()I"⟩
abbrev cX12_status : ByteArray := prog_14_method_106_code
def yX12_status : MethodName := ⟨RX12, "status", "(I)I"⟩
abbrev cX12_count : ByteArray := prog_14_method_107_code
def yX12_count : MethodName := ⟨RX12, "count", "(I)I"⟩
def RJx145de : String := "java/io/Serializable"
def TJx145de : u_T := fun k => match k with
  | _ => ("", "", "", false)
def tyJx145de : Nat → FieldType := fun k => match k with
  | _ => .int
abbrev wsJx145de0 : List Cond := u_ws RJx145de TJx145de 0
theorem nmJx145de : ∀ a, a < 0 → ∀ b, b < 0 → a ≠ b → (TJx145de a).2.1 ≠ (TJx145de b).2.1 := by decide +kernel
theorem tyJx145de_ok : ∀ k, k < 0 → parseFieldDescriptor (TJx145de k).2.2.1 = some (tyJx145de k) := by decide +kernel
def RJx9f9b0 : String := "java/lang/CharSequence"
def TJx9f9b0 : u_T := fun k => match k with
  | _ => ("", "", "", false)
def tyJx9f9b0 : Nat → FieldType := fun k => match k with
  | _ => .int
abbrev wsJx9f9b00 : List Cond := u_ws RJx9f9b0 TJx9f9b0 0
theorem nmJx9f9b0 : ∀ a, a < 0 → ∀ b, b < 0 → a ≠ b → (TJx9f9b0 a).2.1 ≠ (TJx9f9b0 b).2.1 := by decide +kernel
theorem tyJx9f9b0_ok : ∀ k, k < 0 → parseFieldDescriptor (TJx9f9b0 k).2.2.1 = some (tyJx9f9b0 k) := by decide +kernel
def RJx8e188 : String := "java/lang/Cloneable"
def TJx8e188 : u_T := fun k => match k with
  | _ => ("", "", "", false)
def tyJx8e188 : Nat → FieldType := fun k => match k with
  | _ => .int
abbrev wsJx8e1880 : List Cond := u_ws RJx8e188 TJx8e188 0
theorem nmJx8e188 : ∀ a, a < 0 → ∀ b, b < 0 → a ≠ b → (TJx8e188 a).2.1 ≠ (TJx8e188 b).2.1 := by decide +kernel
theorem tyJx8e188_ok : ∀ k, k < 0 → parseFieldDescriptor (TJx8e188 k).2.2.1 = some (tyJx8e188 k) := by decide +kernel
def RJxb160c : String := "java/lang/Comparable"
def TJxb160c : u_T := fun k => match k with
  | _ => ("", "", "", false)
def tyJxb160c : Nat → FieldType := fun k => match k with
  | _ => .int
abbrev wsJxb160c0 : List Cond := u_ws RJxb160c TJxb160c 0
theorem nmJxb160c : ∀ a, a < 0 → ∀ b, b < 0 → a ≠ b → (TJxb160c a).2.1 ≠ (TJxb160c b).2.1 := by decide +kernel
theorem tyJxb160c_ok : ∀ k, k < 0 → parseFieldDescriptor (TJxb160c k).2.2.1 = some (tyJxb160c k) := by decide +kernel
def RJ6 : String := "java/lang/Integer"
def TJ6 : u_T := fun k => match k with
  | _ => ("", "", "", false)
def tyJ6 : Nat → FieldType := fun k => match k with
  | _ => .int
abbrev wsJ60 : List Cond := u_ws RJ6 TJ6 0
theorem nmJ6 : ∀ a, a < 0 → ∀ b, b < 0 → a ≠ b → (TJ6 a).2.1 ≠ (TJ6 b).2.1 := by decide +kernel
theorem tyJ6_ok : ∀ k, k < 0 → parseFieldDescriptor (TJ6 k).2.2.1 = some (tyJ6 k) := by decide +kernel
abbrev cJ6_bitCount_0f7a4 : ByteArray := prog_21_method_49_code
def yJ6_bitCount_0f7a4 : MethodName := ⟨RJ6, "bitCount", "(I)I"⟩
def RJ9 : String := "java/lang/Math"
def TJ9 : u_T := fun k => match k with
  | _ => ("", "", "", false)
def tyJ9 : Nat → FieldType := fun k => match k with
  | _ => .int
abbrev wsJ90 : List Cond := u_ws RJ9 TJ9 0
theorem nmJ9 : ∀ a, a < 0 → ∀ b, b < 0 → a ≠ b → (TJ9 a).2.1 ≠ (TJ9 b).2.1 := by decide +kernel
theorem tyJ9_ok : ∀ k, k < 0 → parseFieldDescriptor (TJ9 k).2.2.1 = some (tyJ9 k) := by decide +kernel
abbrev cJ9_abs_0f7a4 : ByteArray := prog_22_method_59_code
def yJ9_abs_0f7a4 : MethodName := ⟨RJ9, "abs", "(I)I"⟩
abbrev cJ9_max_7cf53 : ByteArray := prog_22_method_65_code
def yJ9_max_7cf53 : MethodName := ⟨RJ9, "max", "(II)I"⟩
abbrev cJ9_min_7cf53 : ByteArray := prog_22_method_69_code
def yJ9_min_7cf53 : MethodName := ⟨RJ9, "min", "(II)I"⟩
def RJ0 : String := "java/lang/String"
def TJ0 : u_T := fun k => match k with
  | _ => ("", "", "", false)
def tyJ0 : Nat → FieldType := fun k => match k with
  | _ => .int
abbrev wsJ00 : List Cond := u_ws RJ0 TJ0 0
theorem nmJ0 : ∀ a, a < 0 → ∀ b, b < 0 → a ≠ b → (TJ0 a).2.1 ≠ (TJ0 b).2.1 := by decide +kernel
theorem tyJ0_ok : ∀ k, k < 0 → parseFieldDescriptor (TJ0 k).2.2.1 = some (tyJ0 k) := by decide +kernel
abbrev cJ0_length_8abf5 : ByteArray := prog_24_method_54_code
def yJ0_length_8abf5 : MethodName := ⟨RJ0, "length", "()I"⟩
abbrev cJ0_charAt_5068e : ByteArray := prog_24_method_56_code
def yJ0_charAt_5068e : MethodName := ⟨RJ0, "charAt", "(I)C"⟩
abbrev cJ0_coder_7d493 : ByteArray := prog_24_method_152_code
def yJ0_coder_7d493 : MethodName := ⟨RJ0, "coder", "()B"⟩
abbrev cJ0_isLatin1_aae02 : ByteArray := prog_24_method_154_code
def yJ0_isLatin1_aae02 : MethodName := ⟨RJ0, "isLatin1", "()Z"⟩
abbrev cJ0_checkIndex_df160 : ByteArray := prog_24_method_155_code
def yJ0_checkIndex_df160 : MethodName := ⟨RJ0, "checkIndex", "(II)V"⟩
def RJ1 : String := "java/lang/StringLatin1"
def TJ1 : u_T := fun k => match k with
  | _ => ("", "", "", false)
def tyJ1 : Nat → FieldType := fun k => match k with
  | _ => .int
abbrev wsJ10 : List Cond := u_ws RJ1 TJ1 0
theorem nmJ1 : ∀ a, a < 0 → ∀ b, b < 0 → a ≠ b → (TJ1 a).2.1 ≠ (TJ1 b).2.1 := by decide +kernel
theorem tyJ1_ok : ∀ k, k < 0 → parseFieldDescriptor (TJ1 k).2.2.1 = some (tyJ1 k) := by decide +kernel
abbrev cJ1_charAt_3b067 : ByteArray := prog_25_method_2_code
def yJ1_charAt_3b067 : MethodName := ⟨RJ1, "charAt", "([BI)C"⟩
def RJ2 : String := "java/lang/StringUTF16"
def TJ2 : u_T := fun k => match k with
  | _ => ("", "", "", false)
def tyJ2 : Nat → FieldType := fun k => match k with
  | _ => .int
abbrev wsJ20 : List Cond := u_ws RJ2 TJ2 0
theorem nmJ2 : ∀ a, a < 0 → ∀ b, b < 0 → a ≠ b → (TJ2 a).2.1 ≠ (TJ2 b).2.1 := by decide +kernel
theorem tyJ2_ok : ∀ k, k < 0 → parseFieldDescriptor (TJ2 k).2.2.1 = some (tyJ2 k) := by decide +kernel
abbrev cJ2_getChar_3b067 : ByteArray := prog_26_method_5_code
def yJ2_getChar_3b067 : MethodName := ⟨RJ2, "getChar", "([BI)C"⟩
abbrev cJ2_length_9d52b : ByteArray := prog_26_method_6_code
def yJ2_length_9d52b : MethodName := ⟨RJ2, "length", "([B)I"⟩
abbrev cJ2_charAt_3b067 : ByteArray := prog_26_method_83_code
def yJ2_charAt_3b067 : MethodName := ⟨RJ2, "charAt", "([BI)C"⟩
abbrev cJ2_checkIndex_2214a : ByteArray := prog_26_method_91_code
def yJ2_checkIndex_2214a : MethodName := ⟨RJ2, "checkIndex", "(I[B)V"⟩
def RJ10 : String := "java/lang/System"
def TJ10 : u_T := fun k => match k with
  | _ => ("", "", "", false)
def tyJ10 : Nat → FieldType := fun k => match k with
  | _ => .int
abbrev wsJ100 : List Cond := u_ws RJ10 TJ10 0
theorem nmJ10 : ∀ a, a < 0 → ∀ b, b < 0 → a ≠ b → (TJ10 a).2.1 ≠ (TJ10 b).2.1 := by decide +kernel
theorem tyJ10_ok : ∀ k, k < 0 → parseFieldDescriptor (TJ10 k).2.2.1 = some (tyJ10 k) := by decide +kernel
def RJxfd54e : String := "java/lang/constant/Constable"
def TJxfd54e : u_T := fun k => match k with
  | _ => ("", "", "", false)
def tyJxfd54e : Nat → FieldType := fun k => match k with
  | _ => .int
abbrev wsJxfd54e0 : List Cond := u_ws RJxfd54e TJxfd54e 0
theorem nmJxfd54e : ∀ a, a < 0 → ∀ b, b < 0 → a ≠ b → (TJxfd54e a).2.1 ≠ (TJxfd54e b).2.1 := by decide +kernel
theorem tyJxfd54e_ok : ∀ k, k < 0 → parseFieldDescriptor (TJxfd54e k).2.2.1 = some (tyJxfd54e k) := by decide +kernel
def RJx3cf43 : String := "java/lang/constant/ConstantDesc"
def TJx3cf43 : u_T := fun k => match k with
  | _ => ("", "", "", false)
def tyJx3cf43 : Nat → FieldType := fun k => match k with
  | _ => .int
abbrev wsJx3cf430 : List Cond := u_ws RJx3cf43 TJx3cf43 0
theorem nmJx3cf43 : ∀ a, a < 0 → ∀ b, b < 0 → a ≠ b → (TJx3cf43 a).2.1 ≠ (TJx3cf43 b).2.1 := by decide +kernel
theorem tyJx3cf43_ok : ∀ k, k < 0 → parseFieldDescriptor (TJx3cf43 k).2.2.1 = some (tyJx3cf43 k) := by decide +kernel
def RJ7 : String := "java/util/Arrays"
def TJ7 : u_T := fun k => match k with
  | _ => ("", "", "", false)
def tyJ7 : Nat → FieldType := fun k => match k with
  | _ => .int
abbrev wsJ70 : List Cond := u_ws RJ7 TJ7 0
theorem nmJ7 : ∀ a, a < 0 → ∀ b, b < 0 → a ≠ b → (TJ7 a).2.1 ≠ (TJ7 b).2.1 := by decide +kernel
theorem tyJ7_ok : ∀ k, k < 0 → parseFieldDescriptor (TJ7 k).2.2.1 = some (tyJ7 k) := by decide +kernel
abbrev cJ7_fill_53178 : ByteArray := prog_31_method_103_code
def yJ7_fill_53178 : MethodName := ⟨RJ7, "fill", "([II)V"⟩
abbrev cJ7_copyOf_9075b : ByteArray := prog_31_method_121_code
def yJ7_copyOf_9075b : MethodName := ⟨RJ7, "copyOf", "([BI)[B"⟩
def RJ3 : String := "jdk/internal/util/Preconditions"
def TJ3 : u_T := fun k => match k with
  | _ => ("", "", "", false)
def tyJ3 : Nat → FieldType := fun k => match k with
  | _ => .int
abbrev wsJ30 : List Cond := u_ws RJ3 TJ3 0
theorem nmJ3 : ∀ a, a < 0 → ∀ b, b < 0 → a ≠ b → (TJ3 a).2.1 ≠ (TJ3 b).2.1 := by decide +kernel
theorem tyJ3_ok : ∀ k, k < 0 → parseFieldDescriptor (TJ3 k).2.2.1 = some (tyJ3 k) := by decide +kernel
abbrev cJ3_checkIndex_8e157 : ByteArray := prog_33_method_11_code
def yJ3_checkIndex_8e157 : MethodName := ⟨RJ3, "checkIndex", "(IILjava/util/function/BiFunction;)I"⟩
def RL : String := "NoiseFieldsLaw"
abbrev cL_farm : ByteArray := method_3_code
def yL_farm : MethodName := ⟨RL, "farm", "(LNoiseFields;I[J)I"⟩
abbrev cL_law : ByteArray := method_4_code
def yL_law : MethodName := ⟨RL, "law", "(LNoiseFields;I[J)I"⟩
abbrev cL_work : ByteArray := method_5_code
def yL_work : MethodName := ⟨RL, "work", "(LNoiseFields;I[J)I"⟩
abbrev cL_book : ByteArray := method_6_code
def yL_book : MethodName := ⟨RL, "book", "(LNoiseFields;I[J)I"⟩
abbrev cL_told : ByteArray := method_7_code
def yL_told : MethodName := ⟨RL, "told", "(LNoiseFields;I[J)I"⟩
abbrev cL_field : ByteArray := method_8_code
def yL_field : MethodName := ⟨RL, "field", "(LNoiseFields;II[J)I"⟩
abbrev cL_sound : ByteArray := method_9_code
def yL_sound : MethodName := ⟨RL, "sound", "(LNoiseFields;II[J)I"⟩
abbrev cL_order : ByteArray := method_10_code
def yL_order : MethodName := ⟨RL, "order", "(LNoiseFields;II[J)I"⟩
abbrev cL_yields : ByteArray := method_11_code
def yL_yields : MethodName := ⟨RL, "yields", "(LNoiseFields;II[J)I"⟩
abbrev cL_would : ByteArray := method_12_code
def yL_would : MethodName := ⟨RL, "would", "(LNoiseFields;IIIIII[J)I"⟩
abbrev cL_loud : ByteArray := method_13_code
def yL_loud : MethodName := ⟨RL, "loud", "(LNoiseFields;I[J)I"⟩
abbrev cL_ahead : ByteArray := method_14_code
def yL_ahead : MethodName := ⟨RL, "ahead", "(LNoiseFields;I[J)I"⟩
abbrev cL_best : ByteArray := method_15_code
def yL_best : MethodName := ⟨RL, "best", "(LNoiseFields;I[J)I"⟩
abbrev cL_turnsOf : ByteArray := method_16_code
def yL_turnsOf : MethodName := ⟨RL, "turnsOf", "(LNoiseFields;III[J)I"⟩
abbrev cL_sets : ByteArray := method_17_code
def yL_sets : MethodName := ⟨RL, "sets", "(LNoiseFields;II[J)I"⟩
abbrev cL_crossing : ByteArray := method_18_code
def yL_crossing : MethodName := ⟨RL, "crossing", "(LNoiseFields;II[J)I"⟩
abbrev cL_generation : ByteArray := method_19_code
def yL_generation : MethodName := ⟨RL, "generation", "(LNoiseFields;I[J)I"⟩
abbrev cL_rows : ByteArray := method_20_code
def yL_rows : MethodName := ⟨RL, "rows", "(LNoiseFields;I[J)I"⟩
abbrev cL_heard : ByteArray := method_21_code
def yL_heard : MethodName := ⟨RL, "heard", "(LNoiseFields;I[J)I"⟩
abbrev cL_sure : ByteArray := method_22_code
def yL_sure : MethodName := ⟨RL, "sure", "(LNoiseFields;I[J)I"⟩
abbrev cL_ear : ByteArray := method_23_code
def yL_ear : MethodName := ⟨RL, "ear", "(LNoiseFields;I[J)I"⟩
abbrev cL_against : ByteArray := method_24_code
def yL_against : MethodName := ⟨RL, "against", "(LNoiseFields;II[J)I"⟩
abbrev cL_keeps : ByteArray := method_25_code
def yL_keeps : MethodName := ⟨RL, "keeps", "(LNoiseFields;II[J)I"⟩
abbrev cL_blight : ByteArray := method_26_code
def yL_blight : MethodName := ⟨RL, "blight", "(LNoiseFields;IIII[J)I"⟩
abbrev cL_span : ByteArray := method_27_code
def yL_span : MethodName := ⟨RL, "span", "(LNoiseFields;IIIII[J)I"⟩
abbrev cL_sums : ByteArray := method_28_code
def yL_sums : MethodName := ⟨RL, "sums", "(LNoiseFields;I[J)I"⟩
abbrev cL_law_ : ByteArray := code
def yL_law_ : MethodName := ⟨RL, "law", "([I)Z"⟩
abbrev vwCl : List vw_C := [(RX0, TX0, 5), (RX1, TX1, 6), (RX2, TX2, 6), (RX3, TX3, 16), (RX4, TX4, 18), (RX5, TX5, 5), (RX6, TX6, 6), (RX7, TX7, 15), (RX8, TX8, 9), (RX9, TX9, 8), (RX10, TX10, 4), (RX11, TX11, 15), (RX12, TX12, 49)]
end
section
/-! 'throw new E("text")' of a class whose constructor has its super's entry at another place than 7 (java/util/NoSuchElementException: 13), in a launch without stack traces: after the library's ctorThrowS (BundleOwnThrow.lean) and chainSX (Shelf42/F29a.lean), and the printed row vx_throwSW -/
section XRX
variable {p : Program} {l : Launch} {e : Env} {R : Room} {s : State} {m₀ : MethodId} {args : Array Value} {below : List Frame} {meth : Method} {c : Code} {W : State} {locs : List Loc} {cells slots : Nat}
set_option maxHeartbeats 1000000 in
theorem xr_ctorX (X : Stand p l e R s m₀ args below meth c W locs cells slots) (hexec : p.tables.exec = Jvm.exec) (htr : e.platform.stackTraces = false) {own cls : String} {names : List String} {ic : Nat}
    {ix : Nat} {rx : ByteArray} (x0 : decode rx 0 = .ok (.aload_n 0, 1)) (x1 : decode rx 1 = .ok (.aload_n 1, 1)) (x2 : decode rx 2 = .ok (.invokespecial ix, 3)) (x5 : decode rx 5 = .ok (.return_, 1))
    (hown : s.vm.findClass own = some m₀.cls) (hcls : Bundle.fit cls = true) (hnames : ∀ n ∈ names, Bundle.fit n = true)
    (h : ∀ a ∈ Bundle.ownAtomsX own ic cls ix rx names, a.before args s = true)
    (hlocs : ∀ x ∈ locs, ∀ cell, s.heap[x.base]? = some cell → cell.vm.isStatics = false)
    {a : Addr} {cX : ClassId} {kX : Class} (hfoundX : s.vm.findClass cls = some cX) (hkX : s.vm.classes[cX]? = some kX) (hcell : W.heap[a]? = some (freshCell cX kX)) (hnew : s.heap.size ≤ a)
    {msg : Value} (hmsg : msg.isRef = true)
    {g : JFrame} (hg : g.method = m₀) (hsize : g.locals.size = c.maxLocals) (hlocked : g.locked = none) (hentered : g.entered = []) {rest : List Value} (hstack : g.stack = msg :: .ref a :: .ref a :: rest)
    (hd6 : decode c.code g.pc = .ok (.invokespecial ic, 3)) (hd9 : decode c.code (g.pc + 3) = .ok (.athrow, 1)) (hout : ∀ x ∈ c.exceptionTable.toList, covers x (g.pc + 3) = false)
    (hRframes : names.length + 3 < R.frames) (hRlocals : 2 * g.monitorRoom + ((Value.ref a :: rest).map fun v => v.category).sum + (13 * (names.length + 1) + 42) ≤ R.locals) (hlocks : meth.locks = false := by first | assumption | exact BodyLoose.notSynchronized (by assumption) | exact Body.notSynchronized (by assumption)) :
    ∃ U : State, Steps p.tables e below (W.setTop g) U ∧ U.status = .running ∧ Ended U below (.threw a) ∧ s.WarmedH U.vm ∧ s.sameButNew ({ U with vm := s.vm } : State) locs cells slots ∧
      ∃ ce, U.heap[a]? = some ce ∧ s.vm.findClass cls = some ce.cls ∧ ce.vm = .none := by
  have howns : e.platform.frameOwnsMonitors = true := by rw [X.admits.platform]
  have hfin : e.platform.finalization = false := by rw [X.admits.platform]
  have hpl : e.platform.magicAccessors = ({} : Platform).magicAccessors := by rw [X.admits.platform]
  have a' : ∀ x, x ∈ Bundle.ownAtomsX own ic cls ix rx names → x.holds args s none s [] = true := fun x hx => h x hx
  obtain ⟨T, Z0, L, -, Y⟩ := ThrowableC.of_atoms (args := args) howns hfin hpl (fun x hx => h x (by simp [Bundle.ownAtomsX, hx]))
  obtain ⟨Z, M, LZ, LM, hnZ⟩ := Init0T.ofS_atoms (args := args) hpl L Y (fun x hx => h x (by simp [Bundle.ownAtomsX, hx]))
  obtain ⟨P1, Ps, hlen, L1, hL, hP1m, hlink1, hlink⟩ := Bundle.chainSX (args := args) hpl hnZ x0 x1 x2 x5 names cls hcls hnames (fun x hx => h x (by simp [Bundle.ownAtomsX, hx]))
  have hfound : s.vm.findClass cls = some P1.m.cls := findClass_of_methodNamed hP1m
  cases Option.some.inj (hfoundX.symm.trans hfound)
  obtain ⟨c1, kX', hc1, hk, hord, -, -, hn6⟩ := Cond.instantiable_spec (a' (.instantiable cls 6) (by simp [Bundle.ownAtomsX]))
  cases Option.some.inj (hc1.symm.trans hfound)
  cases Option.some.inj (hkX.symm.trans hk)
  have hsel0 : selectMethod e.platform s.vm P1.m.cls T.fill0 = .method T.fill0 := by
    obtain ⟨c2, r2, m2, q1, q2, q3, q4, -⟩ := Cond.selects_spec (a' (.selects cls Bundle.tFill0 Bundle.tFill0) (by simp [Bundle.ownAtomsX]))
    cases Option.some.inj (q1.symm.trans hfound)
    cases Option.some.inj (q2.symm.trans (State.methodFound?_of_named Y.fill0 (by decide)))
    cases Option.some.inj (q3.symm.trans Y.fill0)
    rw [Launch.admits_selectMethod X.admits]; exact q4
  have hselF : selectMethod e.platform s.vm P1.m.cls T.fill = .method T.fill := by
    obtain ⟨c2, r2, m2, q1, q2, q3, q4, -⟩ := Cond.selects_spec (a' (.selects cls Bundle.tFill Bundle.tFill) (by simp [Bundle.ownAtomsX]))
    cases Option.some.inj (q1.symm.trans hfound)
    cases Option.some.inj (q2.symm.trans (State.methodFound?_of_named Y.fill (by decide)))
    cases Option.some.inj (q3.symm.trans Y.fill)
    rw [Launch.admits_selectMethod X.admits]; exact q4
  obtain ⟨cellS0, hcS0, hiss⟩ := Y.statics
  obtain ⟨u0, hu0⟩ := Cond.staticRefV Y.unassigned L.unassignedStatic L.statics hcS0 hiss (a' (.isRef (.static Bundle.tN "UNASSIGNED_STACK" Bundle.steD)) (by simp [Bundle.ownAtomsX]))
  obtain ⟨sen, hsen⟩ := Cond.staticRefV Y.sentinel L.sentinelStatic L.statics hcS0 hiss (a' (.isRef (.static Bundle.tN "SUPPRESSED_SENTINEL" Bundle.listD)) (by simp [Bundle.ownAtomsX]))
  obtain ⟨ci198, i198, fB, hk198, hg198, ha198, hsB, -, hnB, htB, hffB⟩ := Cond.ownField (t := .object "java/lang/Object") Y.found L.cls (by decide +kernel) (a' (.fieldLink Bundle.tN 198 Bundle.tN "backtrace" "Ljava/lang/Object;") (by simp [Bundle.ownAtomsX])) (a' (.lays Bundle.tN Bundle.tN "backtrace" "Ljava/lang/Object;") (by simp [Bundle.ownAtomsX])) e.platform hpl
  obtain ⟨cellS, hcS', heS, -, hkeep⟩ := X.same.2.2.2.2.2 T.aS cellS0 hcS0
  have hcellS : W.heap[T.aS]? = some cellS := hcS'
  have hout' : ∀ i, (⟨T.aS, i⟩ : Loc) ∉ locs := fun i hmem => by
    have := hlocs _ hmem cellS0 hcS0
    rw [hiss] at this; cases this
  have hknownS : cellS.vm ≠ .unknown := by
    rw [heS]; intro hu
    rw [show cellS0.vm = .unknown from hu] at hiss
    cases hiss
  have hneS : T.aS ≠ a := Nat.ne_of_lt (Nat.lt_of_lt_of_le (Array.getElem?_eq_some_iff.mp hcS0).1 hnew)
  obtain ⟨iM, hffM⟩ := Y.msg
  obtain ⟨tyC, dC, hdC, hdnC⟩ := Cond.laysAt hfound hk Y.cause (a' (.lays cls Bundle.tN "cause" "Ljava/lang/Throwable;") (by simp [Bundle.ownAtomsX]))
  obtain ⟨tyS, dS, hdS, hdnS⟩ := Cond.laysAt hfound hk Y.stack (a' (.lays cls Bundle.tN "stackTrace" Bundle.steD) (by simp [Bundle.ownAtomsX]))
  obtain ⟨tyP, dP, hdP, hdnP⟩ := Cond.laysAt hfound hk Y.supp (a' (.lays cls Bundle.tN "suppressedExceptions" Bundle.listD) (by simp [Bundle.ownAtomsX]))
  obtain ⟨tyM, dM, hdM, hdnM⟩ := Cond.laysAt hfound hk hffM (a' (.lays cls Bundle.tN "detailMessage" "Ljava/lang/String;") (by simp [Bundle.ownAtomsX]))
  obtain ⟨tyB, dB, hdB, hdnB⟩ := Cond.laysAt hfound hk hffB (a' (.lays cls Bundle.tN "backtrace" "Ljava/lang/Object;") (by simp [Bundle.ownAtomsX]))
  have bC := Cond.laysApart hdB hdC hdnB hdnC (by rw [hnB, Y.causeName]; decide)
  have bS := Cond.laysApart hdB hdS hdnB hdnS (by rw [hnB, Y.stackName]; decide)
  have bP := Cond.laysApart hdB hdP hdnB hdnP (by rw [hnB, Y.suppName]; decide)
  have hskip : SkipFacts T e.platform s (fun u => u) u0 ((preparedCellV T.toThrowableT (freshCell P1.m.cls kX) a u0 sen).withEntry W.cur) :=
    ⟨{ ci198 := ci198, i198 := i198, fBack := fB }, ⟨hk198, hg198, ha198, hsB⟩, by
      have := fresh_default (c := P1.m.cls) tyB
      rw [htB] at this
      simpa [preparedCellV, Cell.setSlot, Cell.withEntry, Array.getElem?_setIfInBounds, bC, bS, bP, bC.symm, bS.symm, bP.symm, defaultValue] using this, fun _ _ => rfl⟩
  obtain ⟨tm, methC, cdC, kC, vm₁, hnC, -, -, -, -, -, -, -, hW₁, st1⟩ := Steps.initColdS (tb := p.tables) (e := e) (below := below) (s := s) (U := W) X.here hexec X.warmed hpl hown (t := Bundle.initS cls) rfl rfl (Bundle.fit_spec hcls).2
    (a' (.methodLink own ic (Bundle.initS cls)) (by simp [Bundle.ownAtomsX])) (h (.instanceMethod (Bundle.initS cls)) (by cases names <;> simp [Bundle.ownAtomsX, Bundle.chainSAtomsX, Bundle.passSAtoms])) (bytes := rx) (maxL := 2) (h (.code (Bundle.initS cls) rx 2 none) (by cases names <;> simp [Bundle.ownAtomsX, Bundle.chainSAtomsX, Bundle.passSAtoms]))
    (f := g) hg (a := a) (msg := msg) (rest := .ref a :: rest) hstack hd6
  cases Option.some.inj (hnC.symm.trans hP1m)
  have X₁ := X.noted hW₁
  obtain ⟨vm₂, X₂, st2⟩ := X₁.ctorMessageOffV hexec (g := { g with stack := .ref a :: rest }) hg hsize T L Z LZ M LM (P1 :: Ps)
    (fun P hP => by rcases List.mem_cons.mp hP with rfl | hP; exact L1; exact hL P hP) ⟨hlink1, hlink⟩ (u0 := u0) (sen := sen) (self := a) hmsg (cell := freshCell P1.m.cls kX) (cellS := cellS)
    hcell (fun _ => by simp) (by simp) rfl rfl hsel0 hselF hcellS hneS hknownS (by rw [hkeep _ (hout' _)]; exact hu0) (by rw [hkeep _ (hout' _)]; exact hsen)
    (Takes.of_laid hk hord tyC (by rw [Y.causeType]; rfl)) (Takes.of_laid hk hord tyS (by rw [Y.stackType]; exact fits_refV_array _ u0)) (Takes.of_laid hk hord tyP (by rw [Y.suppType]; exact fits_refV_object _ sen))
    (Takes.of_laid hk hord tyM (by rw [Y.msgType]; exact fits_refV_object _ ⟨msg, hmsg⟩)) Y.objLocals hskip htr [] hd6
    (by simp only [List.length_cons, hlen]; omega) (by simp only [List.length_cons, hlen]; exact hRlocals)
  obtain ⟨hwalk, hrun, hended, hWU, hsame⟩ := X₂.athrowLeaves hexec (g := { g with stack := .ref a :: rest, pc := g.pc + 3 }) hg hlocked hentered hout (a := a) (rest := rest) rfl hd9
  obtain ⟨c3, c4, hc3, hc4, hasg⟩ := Cond.castable_spec (a' (.castable cls cls) (by simp [Bundle.ownAtomsX]))
  cases Option.some.inj (hc3.symm.trans hfound)
  cases Option.some.inj (hc4.symm.trans hfound)
  have hlt : a < ((W.setVm vm₁).setVm vm₂).heap.size := (Array.getElem?_eq_some_iff.mp hcell).1
  have hU := heapAt_setCell_self (s := (W.setVm vm₁).setVm vm₂) (plainBareV T.toThrowableT (freshCell P1.m.cls kX) a u0 sen msg) hlt
  refine ⟨_, st1 _ (fun acts => ?_), hrun, hended, hWU, hsame.weaken (fun y hy hlt' => ?_) (Nat.le_refl _) (Nat.le_refl _), _, hU, ?_⟩
  · rw [doInvoke_state]
    exact st2 _ hwalk
  · rcases List.mem_append.mp hy with h1 | h1
    · exact h1
    · exfalso
      have hb : y.base = a := by
        simp only [List.mem_cons, List.not_mem_nil, or_false] at h1
        rcases h1 with rfl | rfl | rfl | rfl | rfl <;> rfl
      rw [hb] at hlt'
      exact Nat.not_lt.mpr hnew hlt'
  · exact ⟨hfound, rfl⟩
end XRX
def xr_atX (own : String) (ic : Nat) (X : String) (ix : Nat) (rx : ByteArray) (names : List String) : List Cond := (Bundle.ownAtomsX own ic X ix rx names).filter vx_no
section XRY
variable {p : Program} {l : Launch} {e : Env} {R : Room} {s : State} {m : MethodId} {args : Array Value} {below : List Frame} {meth : Method} {c : Code} {H : Heap} {locs : List Loc} {cells slots : Nat} {Q : State → Prop}
variable {mc ms : Nat} {free : Addr → Prop} {A0 A1 : Nat → Prop} {H0 : Heap} {a : Array Value} {ls : Array Slot} {st0 rest : List Value}
variable {Qc : Array Value → State → Outcome → State → Prop} {XC : String → State → State → Prop}
theorem xr_throwX {cc : ByteArray} {pc : Nat} (hexec : p.tables.exec = Jvm.exec) (hb : c.code = cc) (hl : l.stackTraces = false) {own cls text : String} {names : List String} {ix : Nat} {rx : ByteArray} (x0 : decode rx 0 = .ok (.aload_n 0, 1)) (x1 : decode rx 1 = .ok (.aload_n 1, 1)) (x2 : decode rx 2 = .ok (.invokespecial ix, 3)) (x5 : decode rx 5 = .ok (.return_, 1)) {ik is ic mc ms sa : Nat} {A : Nat → Prop}
    (hown : s.vm.findClass own = some m.cls) (hcls : Bundle.fit cls = true) (hnames : ∀ n ∈ names, Bundle.fit n = true)
    (hk : (Cond.classLink own ik cls).before args s = true) (hini : (Cond.initialized cls).before args s = true) (hstr : vk_R own is text sa s) (hat : ∀ w ∈ xr_atX own ic cls ix rx names, w.before args s = true)
    (hgood : ∀ w ∈ Cond.classLink own ik cls :: Cond.initialized cls :: xr_atX own ic cls ix rx names, vx_ot w = true)
    (hU : vx_Zq Bundle.tN "UNASSIGNED_STACK" Bundle.steD A s s.heap) (hN : vx_Zq Bundle.tN "SUPPRESSED_SENTINEL" Bundle.listD A s s.heap) (hS : va_S A s.heap H locs) (hsize : ls.size = c.maxLocals)
    (d0 : decode cc pc = .ok (.new ik, 3)) (d3 : decode cc (pc + 3) = .ok (.dup, 1)) (d4 : decode cc (pc + 4) = .ok (.ldc_w is, 3)) (d7 : decode cc (pc + 7) = .ok (.invokespecial ic, 3)) (d10 : decode cc (pc + 10) = .ok (.athrow, 1))
    (hout : ∀ x ∈ c.exceptionTable.toList, covers x (pc + 10) = false)
    (hRframes : names.length + 3 < R.frames) (hRlocals : (rest.map fun v => v.category).sum + (13 * (names.length + 1) + 43) ≤ R.locals) (hRcells : cells + 1 ≤ R.cells) (hRslots : slots + 6 ≤ R.slots) (hlocks : meth.locks = false)
    (hx : ∀ t : State, s.vm.Alike t.vm → H.size ≤ t.heap.size → (∀ q : Nat, q < H.size → t.heap[q]? = H[q]?) → XC cls s t)
    (hf : ∀ z ∈ locs, free z.base) (hc : cells + 1 ≤ mc) (hs : slots + 6 ≤ ms) :
    W p l e R s m args below meth c H locs cells slots (vx_MQ below Qc XC args s mc ms free) (F0 m pc ls rest) := by
  intro T hT X
  have htr : e.platform.stackTraces = false := (show e.platform.stackTraces = l.stackTraces by rw [X.admits.platform]).trans hl
  have Y := vx_rebase X (R' := { frames := R.frames, locals := R.locals, cells := 1, slots := 6 }) (Nat.le_refl _) (Nat.le_refl _) hRcells hRslots
  obtain ⟨s', hA⟩ : ∃ z, z = (T.setVm s.vm).setFrames (.invoking m args :: below) := ⟨_, rfl⟩
  rw [← hA] at Y
  have hvm : s'.vm = s.vm := by rw [hA]; rfl
  have hhp : s'.heap = H := by rw [hA]; exact hT
  have hW0 : s.WarmedH s'.vm := by rw [hvm]; exact State.WarmedH.refl s
  have hat' : ∀ w ∈ xr_atX own ic cls ix rx names, w.before args s' = true := fun w hw => vx_ot_at hW0 hvm.symm (hgood w (List.mem_cons_of_mem _ (List.mem_cons_of_mem _ hw))) (hat w hw)
  have hk' : (Cond.classLink own ik cls).before args s' = true := vx_ot_at hW0 hvm.symm (hgood _ List.mem_cons_self) hk
  have hini' : (Cond.initialized cls).before args s' = true := vx_ot_at hW0 hvm.symm (hgood _ (List.mem_cons_of_mem _ List.mem_cons_self)) hini
  have hU' : vx_Zq Bundle.tN "UNASSIGNED_STACK" Bundle.steD A s' s'.heap := by rw [hhp]; exact vx_Zq.moved hW0.alike (hU.kept hS.2.1)
  have hN' : vx_Zq Bundle.tN "SUPPRESSED_SENTINEL" Bundle.listD A s' s'.heap := by rw [hhp]; exact vx_Zq.moved hW0.alike (hN.kept hS.2.1)
  have h : ∀ w ∈ Bundle.ownAtomsX own ic cls ix rx names, w.before args s' = true := vx_own hat' (vx_isRefq hU'.1) (vx_isRefq hN'.1) hU'.2.word hN'.2.word
  have hown' : s'.vm.findClass own = some m.cls := by rw [hvm]; exact hown
  have hins : (Cond.instantiable cls 6).before args s' = true := h _ (by simp [Bundle.ownAtomsX])
  obtain ⟨vm₁, cX, kX, hfX, hkX, -, -, X₁, st1⟩ := Y.newCold hexec (own := own) (C := cls) (index := ik) (n := 6) hown' hk' hins hini'
    (g := F0 m pc ls rest) rfl (by rw [hb]; exact d0) (Nat.le_refl _) (Nat.le_refl _)
  generalize hT1 : (T.setVm vm₁).pushCell { cls := cX, slots := kX.instanceTypes.map defaultValue, vm := .none } = T1 at X₁ st1
  have hcat : (Value.ref T.heap.size).category = 1 := rfl
  have hcellA : T1.heap[T.heap.size]? = some (freshCell cX kX) := by rw [← hT1]; exact State.heap_pushCell_size _ _
  have d3' : decode c.code (pc + 3) = .ok (.dup, 1) := by rw [hb]; exact d3
  have d4' : decode c.code (pc + 4) = .ok (.ldc_w is, 3) := by rw [hb]; exact d4
  have hstr' : vk_R own is text sa s' := vk_R.warm hW0 hstr
  obtain ⟨U, hsteps, hrun, hend, hW, hsame, ce, hce, hO⟩ := xr_ctorX X₁ hexec htr x0 x1 x2 x5 (own := own) (cls := cls) (names := names) (ic := ic) hown' hcls hnames h (fun x hx => nomatch hx) hfX hkX hcellA (by rw [hhp, hT]; exact Nat.le_refl _) (msg := .ref sa) rfl
    (g := { method := m, pc := pc + 7, locals := ls, stack := .ref sa :: .ref T.heap.size :: .ref T.heap.size :: rest, locked := none }) rfl hsize rfl rfl (rest := rest) rfl
    (by rw [hb]; exact d7) (by rw [hb]; exact d10) hout hRframes (by simp only [List.map_cons, List.sum_cons, hcat]; omega) hlocks
  obtain ⟨f1, f2⟩ := vx_frame hsame
  rw [hhp] at f1 f2
  have hWs : s.WarmedH U.vm := State.WarmedH.trans hW0 hW
  have hcl : s.vm.findClass cls = some ce.cls := by
    have h9 := hO.1
    rw [hvm] at h9
    exact h9
  have hall : s.sameButNew ({ U with vm := s.vm } : State) locs mc ms := by
    subst hA
    obtain ⟨e1, e2⟩ := hsame
    rw [State.setFrames_setFrames] at e1
    have h2 : (T.setVm s.vm).sameButNew ({ U with vm := s.vm } : State) [] (0 + 1) (0 + 6) := ⟨e1, e2⟩
    have h3 := X.same.trans h2
    rw [List.append_nil] at h3
    exact h3.mono hc hs
  refine ⟨U, ?_, .threw T.heap.size, hrun, hend, Or.inr ⟨T.heap.size, rfl, cls, ce, locs, hx U hWs.alike f1 (fun q hq => f2 q hq (fun z hz => nomatch hz)), hce, hO.2, hcl, hWs, hall, hf⟩⟩
  refine st1 _ ?_
  show Steps p.tables e below (T1.setTop { method := m, pc := pc + 3, locals := ls, stack := .ref T.heap.size :: rest, locked := none }) _
  jvm_step X₁.here [X₁.here.top, hexec, d3', Value.category]
  exact X₁.ldcStringW hexec (own := own) (text := text) (index := is) (a := sa) hown' hstr'.1 hstr'.2
    (g := { method := m, pc := pc + 4, locals := ls, stack := .ref T.heap.size :: .ref T.heap.size :: rest, locked := none }) rfl d4' _ hsteps
end XRY
end
section
/-! A SYMBOLIC MACHINE, evaluated by the kernel, and what it says of the real one. Values as syntax: '.ref k' the cell k made since the law's entry, '.retAddr n' the int variable n, '.double n' the same as a long, '.float n' an outer address. -/
abbrev xr_C : Type := (Nat × List Value) ⊕ (Nat × Nat × List (Nat × Value))
abbrev xr_En : Type := Nat × Instr × Nat × List Nat × Nat
abbrev xr_L : Type := List (Nat × Value)
abbrev xr_D : Type := List (Nat × Value × Value × Value)
abbrev xr_F : Type := List (Nat × Value × Value × Bool)
/-- rows of a list, by the recursors alone: the kernel walks them fast -/
def xr_nth {α : Type} (l : List α) (n : Nat) : Option α := Nat.rec (motive := fun _ => List α → Option α) (fun l => List.casesOn (motive := fun _ => Option α) l none (fun a _ => some a)) (fun _ ih l => List.casesOn (motive := fun _ => Option α) l none (fun _ t => ih t)) n l
theorem xr_nth_eq {α : Type} : ∀ (l : List α) (n : Nat), xr_nth l n = l[n]?
  | [], 0 => rfl
  | [], n + 1 => rfl
  | a :: t, 0 => rfl
  | a :: t, n + 1 => (show xr_nth (a :: t) (n + 1) = xr_nth t n from rfl).trans ((xr_nth_eq t n).trans (by simp))
def xr_set {α : Type} (l : List α) (n : Nat) (v : α) : List α := Nat.rec (motive := fun _ => List α → List α) (fun l => List.casesOn (motive := fun _ => List α) l [] (fun _ t => v :: t)) (fun _ ih l => List.casesOn (motive := fun _ => List α) l [] (fun a t => a :: ih t)) n l
theorem xr_set_eq {α : Type} : ∀ (l : List α) (n : Nat) (v : α), xr_set l n v = l.set n v
  | [], 0, v => rfl
  | [], n + 1, v => rfl
  | a :: t, 0, v => rfl
  | a :: t, n + 1, v => congrArg (fun q => a :: q) (xr_set_eq t n v)
def xr_dr {α : Type} (l : List α) (n : Nat) : List α := Nat.rec (motive := fun _ => List α → List α) (fun l => l) (fun _ ih l => List.casesOn (motive := fun _ => List α) l [] (fun _ t => ih t)) n l
theorem xr_dr_eq {α : Type} : ∀ (n : Nat) (l : List α), xr_dr l n = l.drop n
  | 0, l => rfl
  | n + 1, [] => rfl
  | n + 1, a :: t => xr_dr_eq n t
def xr_v (ep : Nat → Int32) (ba : Nat) (sg : Nat → Nat) : Value → Value
  | .ref k => .ref (ba + k)
  | .retAddr n => .int (ep n)
  | .double u => .long (ep u.toNat).toInt64
  | .float u => .ref (sg u.toNat)
  | .int x => .int x
  | .long x => .long x
  | .null => .null
def xr_lv (ep : Nat → Int32) (ba : Nat) (sg : Nat → Nat) (l : xr_L) : xr_L := l.map fun q => (q.1, xr_v ep ba sg q.2)
def xr_i (v : Value) : Int32 := match v with
  | .int x => x
  | _ => 0
def xr_l (v : Value) : Int64 := match v with
  | .long x => x
  | _ => 0
def xr_r (v : Value) : Option Nat := match v with
  | .ref a => some a
  | _ => none
def xr_at : xr_L → Nat → Value → Value
  | [], _, d => d
  | (i, v) :: t, j, d => bif Nat.beq j i then v else xr_at t j d
def xr_A (ep : Nat → Int32) (ba : Nat) (sg : Nat → Nat) (kd n : Nat) (as : xr_L) : vp_A :=
  match kd with
  | 2 => (n, .inr (.inl (fun j => xr_l (xr_v ep ba sg (xr_at as j (.long 0))))))
  | 3 => (n, .inr (.inr (.inr (.inr (fun j => xr_r (xr_v ep ba sg (xr_at as j .null)))))))
  | _ => (n, .inl (fun j => xr_i (xr_v ep ba sg (xr_at as j (.int 0)))))
def xr_e (ep : Nat → Int32) (ba : Nat) (sg : Nat → Nat) (cy : Nat → ClassId) : xr_C → va_E
  | .inl (ci, fs) => .inr (ci, fs.map (xr_v ep ba sg))
  | .inr (kd, n, as) => .inl (cy kd, xr_A ep ba sg kd n as)
def xr_w (ep : Nat → Int32) (ba : Nat) (sg : Nat → Nat) (cy : Nat → ClassId) : Nat → List xr_C → va_W
  | _, [] => []
  | k, c :: t => (ba + k, xr_e ep ba sg cy c) :: xr_w ep ba sg cy (k + 1) t
-- numbers
def xr_op (k : Nat) (a b : Int32) : Int32 := match k with
  | 0 => a + b
  | 1 => a - b
  | 2 => a * b
  | 3 => a / b
  | 4 => a - a / b * b
  | 5 => a &&& b
  | 6 => a ||| b
  | 7 => a ^^^ b
  | 8 => a <<< (b &&& 31)
  | 9 => a >>> (b &&& 31)
  | 10 => (a.toUInt32 >>> (b.toUInt32 &&& Int32.toUInt32 31)).toInt32
  | 11 => a.toInt8.toInt32
  | 12 => -a
  | _ => (a.toUInt32 % 65536).toInt32
/-- a number, brought to a literal -/
def xr_n (x : Int32) : Value := Nat.rec (.int (Int32.ofNat 0)) (fun n _ => .int (Int32.ofNat (n + 1))) x.toUInt32.toNat
theorem xr_n_ok (x : Int32) : xr_n x = .int x := by
  have h : ∀ n : Nat, (Nat.rec (.int (Int32.ofNat 0)) (fun n _ => .int (Int32.ofNat (n + 1))) n : Value) = .int (Int32.ofNat n) := fun n => by cases n <;> rfl
  unfold xr_n
  rw [h]
  congr 1
  apply Int32.toBitVec_inj.mp
  simp [Int32.toBitVec_ofNat]
def xr_cm (k : Nat) (a b : Int32) : Bool := match k with
  | 0 => decide (a = b)
  | _ => decide (a < b)
def xr_u (x : Int32) : Nat := x.toUInt32.toNat
/-- the same by Nat alone -/
def xr_cf (k : Nat) (a b : Int32) : Bool := match k with
  | 0 => Nat.beq (xr_u a) (xr_u b)
  | _ => Nat.blt ((xr_u a + 2147483648) % 4294967296) ((xr_u b + 2147483648) % 4294967296)
theorem xr_cf_eq (k : Nat) (a b : Int32) : xr_cf k a b = xr_cm k a b := by
  unfold xr_cf xr_cm
  split
  · by_cases h : a = b
    · subst h
      rw [decide_eq_true rfl]
      exact Nat.beq_refl _
    · rw [decide_eq_false h]
      refine Bool.eq_false_iff.mpr (fun q => h ?_)
      have h1 : a.toUInt32.toNat = b.toUInt32.toNat := Nat.eq_of_beq_eq_true q
      have h2 : a.toBitVec = b.toBitVec := BitVec.eq_of_toNat_eq h1
      exact Int32.toBitVec_inj.mp h2
  · have key : ∀ x : Int32, (xr_u x + 2147483648) % 4294967296 = (x.toInt + 2147483648).toNat := by
      intro x
      have h1 : x.toInt = (x.toUInt32.toNat : Int) - (if x.toUInt32.toNat < 2147483648 then 0 else 4294967296) := by
        have h0 : x.toInt = x.toBitVec.toInt := rfl
        have h2 : x.toUInt32.toNat = x.toBitVec.toNat := rfl
        rw [h0, h2, BitVec.toInt_eq_toNat_cond]
        split <;> split <;> omega
      have h3 : x.toUInt32.toNat < 4294967296 := x.toUInt32.toNat_lt
      unfold xr_u
      rw [h1]
      split <;> omega
    have r : ∀ x : Int32, -2147483648 ≤ x.toInt ∧ x.toInt < 2147483648 := fun x => ⟨Int32.le_toInt x, Int32.toInt_lt x⟩
    rw [key a, key b]
    have ra := r a
    have rb := r b
    by_cases h : a < b
    · rw [decide_eq_true h]
      have h1 := Int32.lt_iff_toInt_lt.mp h
      exact Nat.ble_eq_true_of_le (by omega)
    · rw [decide_eq_false h]
      have h1 : ¬ a.toInt < b.toInt := fun q => h (Int32.lt_iff_toInt_lt.mpr q)
      exact Bool.eq_false_iff.mpr (fun q => by have := Nat.le_of_ble_eq_true q; omega)
def xr_df (df : xr_D) (k : Nat) (x y : Value) : Option Value := match df with
  | [] => none
  | d :: t => bif Nat.beq d.1 k && (decide (d.2.1 = x) && decide (d.2.2.1 = y)) then some d.2.2.2 else xr_df t k x y
def xr_bin (df : xr_D) (k : Nat) (x y : Value) : Option Value := match x, y with
  | .int a, .int b => some (xr_n (xr_op k a b))
  | _, _ => xr_df df k x y
def xr_fx (fx : xr_F) (k : Nat) (x y : Value) : Option Bool := match fx with
  | [] => none
  | d :: t => bif Nat.beq d.1 k && (decide (d.2.1 = x) && decide (d.2.2.1 = y)) then some d.2.2.2 else xr_fx t k x y
def xr_c (fx : xr_F) (k : Nat) (x y : Value) : Option Bool := match x, y with
  | .int a, .int b => some (xr_cf k a b)
  | _, _ => xr_fx fx k x y
def xr_test (fx : xr_F) (c : ClassFile.Cond) (x y : Value) : Option Bool := match c with
  | .eq => xr_c fx 0 x y
  | .ne => (xr_c fx 0 x y).map not
  | .lt => xr_c fx 1 x y
  | .ge => (xr_c fx 1 x y).map not
  | .gt => xr_c fx 1 y x
  | .le => (xr_c fx 1 y x).map not
def xr_okD (ep : Nat → Int32) (ba : Nat) (sg : Nat → Nat) (df : xr_D) : Prop := ∀ d ∈ df, ∃ a b : Int32, xr_v ep ba sg d.2.1 = .int a ∧ xr_v ep ba sg d.2.2.1 = .int b ∧ xr_v ep ba sg d.2.2.2 = .int (xr_op d.1 a b)
def xr_okF (ep : Nat → Int32) (ba : Nat) (sg : Nat → Nat) (fx : xr_F) : Prop := ∀ d ∈ fx, ∃ a b : Int32, xr_v ep ba sg d.2.1 = .int a ∧ xr_v ep ba sg d.2.2.1 = .int b ∧ d.2.2.2 = xr_cm d.1 a b
theorem xr_df_ok {ep : Nat → Int32} {ba : Nat} {sg : Nat → Nat} {k : Nat} {x y v : Value} : ∀ {df : xr_D}, xr_okD ep ba sg df → xr_df df k x y = some v → ∃ a b : Int32, xr_v ep ba sg x = .int a ∧ xr_v ep ba sg y = .int b ∧ xr_v ep ba sg v = .int (xr_op k a b)
  | [], _, h => by simp [xr_df] at h
  | d :: t, hd, h => by
    unfold xr_df at h
    cases hc : (Nat.beq d.1 k && (decide (d.2.1 = x) && decide (d.2.2.1 = y))) with
    | true =>
      rw [hc] at h
      simp only [cond_true, Option.some.injEq] at h
      simp only [Bool.and_eq_true, decide_eq_true_eq] at hc
      obtain ⟨h1, h2, h3⟩ := hc
      have h1 := Nat.eq_of_beq_eq_true h1
      obtain ⟨a, b, e1, e2, e3⟩ := hd d List.mem_cons_self
      subst h1 h2 h3 h
      exact ⟨a, b, e1, e2, e3⟩
    | false =>
      rw [hc] at h
      exact xr_df_ok (fun d hd' => hd d (List.mem_cons_of_mem _ hd')) h
theorem xr_bin_ok {ep : Nat → Int32} {ba : Nat} {sg : Nat → Nat} {k : Nat} {x y v : Value} {df : xr_D} (hd : xr_okD ep ba sg df) (h : xr_bin df k x y = some v) : ∃ a b : Int32, xr_v ep ba sg x = .int a ∧ xr_v ep ba sg y = .int b ∧ xr_v ep ba sg v = .int (xr_op k a b) := by
  unfold xr_bin at h
  split at h
  · rw [xr_n_ok] at h
    cases h
    exact ⟨_, _, rfl, rfl, rfl⟩
  · exact xr_df_ok hd h
theorem xr_fx_ok {ep : Nat → Int32} {ba : Nat} {sg : Nat → Nat} {k : Nat} {x y : Value} {v : Bool} : ∀ {df : xr_F}, xr_okF ep ba sg df → xr_fx df k x y = some v → ∃ a b : Int32, xr_v ep ba sg x = .int a ∧ xr_v ep ba sg y = .int b ∧ v = xr_cm k a b
  | [], _, h => by simp [xr_fx] at h
  | d :: t, hd, h => by
    unfold xr_fx at h
    cases hc : (Nat.beq d.1 k && (decide (d.2.1 = x) && decide (d.2.2.1 = y))) with
    | true =>
      rw [hc] at h
      simp only [cond_true, Option.some.injEq] at h
      simp only [Bool.and_eq_true, decide_eq_true_eq] at hc
      obtain ⟨h1, h2, h3⟩ := hc
      have h1 := Nat.eq_of_beq_eq_true h1
      obtain ⟨a, b, e1, e2, e3⟩ := hd d List.mem_cons_self
      subst h1 h2 h3 h
      exact ⟨a, b, e1, e2, e3⟩
    | false =>
      rw [hc] at h
      exact xr_fx_ok (fun d hd' => hd d (List.mem_cons_of_mem _ hd')) h
theorem xr_c_ok {ep : Nat → Int32} {ba : Nat} {sg : Nat → Nat} {k : Nat} {x y : Value} {v : Bool} {fx : xr_F} (hd : xr_okF ep ba sg fx) (h : xr_c fx k x y = some v) : ∃ a b : Int32, xr_v ep ba sg x = .int a ∧ xr_v ep ba sg y = .int b ∧ v = xr_cm k a b := by
  unfold xr_c at h
  split at h
  · cases h
    exact ⟨_, _, rfl, rfl, xr_cf_eq _ _ _⟩
  · exact xr_fx_ok hd h
-- kinds
def xr_isI (v : Value) : Bool := match v with
  | .int _ => true
  | .retAddr _ => true
  | _ => false
def xr_isL (v : Value) : Bool := match v with
  | .long _ => true
  | .double _ => true
  | _ => false
def xr_isA (v : Value) : Bool := match v with
  | .ref _ => true
  | .float _ => true
  | _ => false
def xr_isB (v : Value) : Bool := match v with
  | .ref _ => true
  | .float _ => true
  | .null => true
  | _ => false
theorem xr_isB_ok {ep : Nat → Int32} {ba : Nat} {sg : Nat → Nat} {v : Value} (h : xr_isB v = true) : (∃ x : Nat, xr_v ep ba sg v = .ref x) ∨ xr_v ep ba sg v = .null := by
  cases v <;> first | exact Or.inl ⟨_, rfl⟩ | exact Or.inr rfl | (simp [xr_isB] at h)
theorem xr_isI_ok {ep : Nat → Int32} {ba : Nat} {sg : Nat → Nat} {v : Value} (h : xr_isI v = true) : ∃ x : Int32, xr_v ep ba sg v = .int x := by
  cases v <;> first | exact ⟨_, rfl⟩ | (simp [xr_isI] at h)
theorem xr_isL_ok {ep : Nat → Int32} {ba : Nat} {sg : Nat → Nat} {v : Value} (h : xr_isL v = true) : ∃ x : Int64, xr_v ep ba sg v = .long x := by
  cases v <;> first | exact ⟨_, rfl⟩ | (simp [xr_isL] at h)
theorem xr_isA_ok {ep : Nat → Int32} {ba : Nat} {sg : Nat → Nat} {v : Value} (h : xr_isA v = true) : ∃ x : Nat, xr_v ep ba sg v = .ref x := by
  cases v <;> first | exact ⟨_, rfl⟩ | (simp [xr_isA] at h)
theorem xr_cat (ep : Nat → Int32) (ba : Nat) (sg : Nat → Nat) (v : Value) : (xr_v ep ba sg v).category = v.category := by cases v <;> rfl
-- locals
def xr_get : xr_L → Nat → Option Value
  | [], _ => none
  | (i, v) :: t, j => bif Nat.beq i j then some v else xr_get t j
def xr_s1 (l : xr_L) (i : Nat) (v : Value) : xr_L := (i, v) :: l.filter (fun q => !(q.1 == i) && !(q.1 + 1 == i && q.2.category == 2))
def xr_s2 (l : xr_L) (i : Nat) (v : Value) : xr_L := (i, v) :: l.filter (fun q => !(q.1 == i) && (!(q.1 == i + 1) && !(q.1 + 1 == i && q.2.category == 2)))
theorem xr_get_mem : ∀ {l : xr_L} {i : Nat} {v : Value}, xr_get l i = some v → (i, v) ∈ l
  | [], _, _, h => by simp [xr_get] at h
  | (j, w) :: t, i, v, h => by
    unfold xr_get at h
    cases hc : Nat.beq j i with
    | true =>
      rw [hc] at h
      simp only [cond_true, Option.some.injEq] at h
      have h1 := Nat.eq_of_beq_eq_true hc
      subst h1 h
      exact List.mem_cons_self
    | false =>
      rw [hc] at h
      exact List.mem_cons_of_mem _ (xr_get_mem h)
theorem xr_get_ok {ep : Nat → Int32} {ba : Nat} {sg : Nat → Nat} {ls : Array Slot} {nL : Nat} {l : xr_L} {i : Nat} {v : Value} (hl : lv_has ls nL (xr_lv ep ba sg l)) (h : xr_get l i = some v) : ls[i]? = some (.val (xr_v ep ba sg v)) :=
  hl.2.2 (i, xr_v ep ba sg v) (List.mem_map.mpr ⟨(i, v), xr_get_mem h, rfl⟩)
theorem xr_s1_ok (ep : Nat → Int32) (ba : Nat) (sg : Nat → Nat) (l : xr_L) (i : Nat) (v : Value) : (i, xr_v ep ba sg v) :: (xr_lv ep ba sg l).filter (fun q => !(q.1 == i) && !(q.1 + 1 == i && q.2.category == 2)) = xr_lv ep ba sg (xr_s1 l i v) := by
  unfold xr_s1 xr_lv
  rw [List.filter_map, List.map_cons]
  congr 2
  apply List.filter_congr
  intro q _
  simp only [Function.comp, xr_cat]
theorem xr_s2_ok (ep : Nat → Int32) (ba : Nat) (sg : Nat → Nat) (l : xr_L) (i : Nat) (v : Value) : (i, xr_v ep ba sg v) :: (xr_lv ep ba sg l).filter (fun q => !(q.1 == i) && (!(q.1 == i + 1) && !(q.1 + 1 == i && q.2.category == 2))) = xr_lv ep ba sg (xr_s2 l i v) := by
  unfold xr_s2 xr_lv
  rw [List.filter_map, List.map_cons]
  congr 2
  apply List.filter_congr
  intro q _
  simp only [Function.comp, xr_cat]
-- where a frame stands
def xr_pc : List xr_En → Nat
  | e :: _ => e.1
  | [] => 0
abbrev xr_S : Type := List xr_En × xr_L × List Value
def xr_seq (r : List xr_En) (pc len n : Nat) (l : xr_L) (st : List Value) : Option xr_S := bif Nat.beq len n then (match r with
  | e :: _ => bif Nat.beq e.1 (pc + n) then some (r, l, st) else none
  | [] => none) else none
def xr_to (tab : List xr_En) (aux : List Nat) (pc len n : Nat) (off : Int) (l : xr_L) (st : List Value) : Option xr_S := bif Nat.beq len n then (match xr_dr tab (aux.headD 0) with
  | e :: r => bif decide ((pc : Int) + off = (e.1 : Int)) then some (e :: r, l, st) else none
  | [] => none) else none
theorem xr_seq_ok {r r' : List xr_En} {pc len n : Nat} {l l' : xr_L} {st st' : List Value} (h : xr_seq r pc len n l st = some (r', l', st')) : len = n ∧ xr_pc r' = pc + n ∧ l = l' ∧ st = st' ∧ r = r' := by
  unfold xr_seq at h
  cases hc : Nat.beq len n with
  | false => rw [hc] at h; cases h
  | true =>
    rw [hc] at h
    simp only [cond_true] at h
    cases r with
    | nil => cases h
    | cons e t =>
      simp only at h
      cases hd : Nat.beq e.1 (pc + n) with
      | false => rw [hd] at h; cases h
      | true =>
        rw [hd] at h
        cases h
        exact ⟨Nat.eq_of_beq_eq_true hc, Nat.eq_of_beq_eq_true hd, rfl, rfl, rfl⟩
theorem xr_to_ok {tab r' : List xr_En} {aux : List Nat} {pc len n : Nat} {off : Int} {l l' : xr_L} {st st' : List Value} (h : xr_to tab aux pc len n off l st = some (r', l', st')) : len = n ∧ (pc : Int) + off = (xr_pc r' : Int) ∧ l = l' ∧ st = st' ∧ r' = tab.drop (aux.headD 0) := by
  unfold xr_to at h
  rw [xr_dr_eq] at h
  cases hc : Nat.beq len n with
  | false => rw [hc] at h; cases h
  | true =>
    rw [hc] at h
    simp only [cond_true] at h
    cases hr : tab.drop (aux.headD 0) with
    | nil => rw [hr] at h; cases h
    | cons e t =>
      rw [hr] at h
      simp only at h
      cases hd : decide ((pc : Int) + off = (e.1 : Int)) with
      | false => rw [hd] at h; cases h
      | true =>
        rw [hd] at h
        cases h
        exact ⟨Nat.eq_of_beq_eq_true hc, of_decide_eq_true hd, rfl, rfl, rfl⟩
end
section
/-! instructions that don't touch the heap -/
def xr_ld (ok : Value → Bool) (r : List xr_En) (pc len n : Nat) (l : xr_L) (st : List Value) (i : Nat) : Option xr_S := match xr_get l i with
  | some v => bif ok v then xr_seq r pc len n l (v :: st) else none
  | none => none
def xr_sto (ok : Value → Bool) (nL : Nat) (r : List xr_En) (pc len n : Nat) (l : xr_L) (st : List Value) (i : Nat) : Option xr_S := match st with
  | v :: st' => bif ok v && Nat.blt i nL then xr_seq r pc len n (xr_s1 l i v) st' else none
  | [] => none
def xr_stl (nL : Nat) (r : List xr_En) (pc len n : Nat) (l : xr_L) (st : List Value) (i : Nat) : Option xr_S := match st with
  | v :: st' => bif xr_isL v && Nat.blt (i + 1) nL then xr_seq r pc len n (xr_s2 l i v) st' else none
  | [] => none
def xr_ar (df : xr_D) (k : Nat) (r : List xr_En) (pc len : Nat) (l : xr_L) (st : List Value) : Option xr_S := match st with
  | y :: x :: st' => match xr_bin df k x y with
    | some v => xr_seq r pc len 1 l (v :: st')
    | none => none
  | _ => none
def xr_dv (df : xr_D) (k : Nat) (r : List xr_En) (pc len : Nat) (l : xr_L) (st : List Value) : Option xr_S := match st with
  | .int b :: x :: st' => bif decide (b = 0) then none else match xr_bin df k x (.int b) with
    | some v => xr_seq r pc len 1 l (v :: st')
    | none => none
  | _ => none
def xr_un (df : xr_D) (k : Nat) (r : List xr_En) (pc len : Nat) (l : xr_L) (st : List Value) : Option xr_S := match st with
  | x :: st' => match xr_bin df k x (.int 0) with
    | some v => xr_seq r pc len 1 l (v :: st')
    | none => none
  | _ => none
def xr_br (tab r : List xr_En) (aux : List Nat) (pc len : Nat) (off : Int) (l : xr_L) (st : List Value) (t : Option Bool) : Option xr_S := match t with
  | some true => xr_to tab aux pc len 3 off l st
  | some false => xr_seq r pc len 3 l st
  | none => none
def xr_ll (k : Nat) (a : Int64) (b : Value) : Option Int64 := match k, b with
  | 0, .long y => some (a &&& y)
  | 1, .long y => some (a ||| y)
  | 2, .int y => some (a <<< (y.toInt64 &&& 63))
  | 3, .int y => some (a >>> (y.toInt64 &&& 63))
  | _, _ => none
def xr_lo (k : Nat) (r : List xr_En) (pc len : Nat) (l : xr_L) (st : List Value) : Option xr_S := match st with
  | y :: .long a :: st' => match xr_ll k a y with
    | some v => xr_seq r pc len 1 l (.long v :: st')
    | none => none
  | _ => none
def xr_sw (fx : xr_F) (tab r : List xr_En) (aux : List Nat) (pc len : Nat) (dflt lo hi : Int) (offs : Array Int) (l : xr_L) (st : List Value) : Option xr_S := match st with
  | .int x :: st' => bif decide (x.toInt < lo) || decide (hi < x.toInt) then xr_to tab (aux.drop 0) pc len len dflt l st' else
    match offs[(x.toInt - lo).toNat]? with
    | some off => xr_to tab (aux.drop (1 + (x.toInt - lo).toNat)) pc len len off l st'
    | none => none
  | .retAddr n :: st' => bif decide ((Int32.ofInt lo).toInt = lo) && decide ((Int32.ofInt hi).toInt = hi) then (match xr_fx fx 1 (.retAddr n) (.int (Int32.ofInt lo)) with
    | some true => xr_to tab aux pc len len dflt l st'
    | _ => match xr_fx fx 1 (.int (Int32.ofInt hi)) (.retAddr n) with
      | some true => xr_to tab aux pc len len dflt l st'
      | _ => none) else none
  | _ => none
def xr_lk (tab : List xr_En) (aux : List Nat) (pc len : Nat) (dflt : Int) (ps : Array (Int × Int)) (l : xr_L) (st : List Value) : Option xr_S := match st with
  | .int x :: st' => bif (ps.toList.zip (ps.toList.drop 1)).all (fun (a, next) => a.1 < next.1) then (match ps.toList.findIdx? (fun q => decide (q.1 = x.toInt)) with
    | some j => xr_to tab (aux.drop (1 + j)) pc len len (Op.lookupswitch.offset ps.toList dflt x.toInt) l st'
    | none => xr_to tab aux pc len len (Op.lookupswitch.offset ps.toList dflt x.toInt) l st') else none
  | _ => none
def xr_lcm (st : List Value) : Option (Value × List Value) := match st with
  | .long y :: .long x :: st' => some (.int (lg_cmp x y), st')
  | .double u :: .double v :: st' => bif decide (u = v) then some (.int 0, st') else none
  | _ => none
def xr_i2l (st : List Value) : Option (List Value) := match st with
  | .int x :: st' => some (.long x.toInt64 :: st')
  | .retAddr n :: st' => bif Nat.blt n 1000 then some (.double (UInt64.ofNat n) :: st') else none
  | _ => none
def xr_du2 (st : List Value) : Option (List Value) := match st with
  | a :: b :: st' => bif Nat.beq a.category 1 && Nat.beq b.category 1 then some (a :: b :: a :: b :: st') else none
  | _ => none
def xr_pure (df : xr_D) (fx : xr_F) (nL : Nat) (tab r : List xr_En) (pc len : Nat) (aux : List Nat) (l : xr_L) (st : List Value) (i : Instr) : Option xr_S := match i with
  | .iconst n => xr_seq r pc len 1 l (.int (Int32.ofInt n) :: st)
  | .bipush n => xr_seq r pc len 2 l (.int (Int8.ofInt n).toInt32 :: st)
  | .sipush n => xr_seq r pc len 3 l (.int (Int16.ofInt n).toInt32 :: st)
  | .lconst n => xr_seq r pc len 1 l (.long (Int64.ofNat (n : Nat)) :: st)
  | .aconst_null => xr_seq r pc len 1 l (.null :: st)
  | .iload_n k => xr_ld xr_isI r pc len 1 l st k.val
  | .iload k => xr_ld xr_isI r pc len 2 l st k
  | .lload_n k => xr_ld xr_isL r pc len 1 l st k.val
  | .lload k => xr_ld xr_isL r pc len 2 l st k
  | .aload_n k => xr_ld xr_isB r pc len 1 l st k.val
  | .aload k => xr_ld xr_isB r pc len 2 l st k
  | .istore_n k => xr_sto xr_isI nL r pc len 1 l st k.val
  | .istore k => xr_sto xr_isI nL r pc len 2 l st k
  | .astore_n k => xr_sto xr_isA nL r pc len 1 l st k.val
  | .astore k => xr_sto xr_isA nL r pc len 2 l st k
  | .lstore_n k => xr_stl nL r pc len 1 l st k.val
  | .lstore k => xr_stl nL r pc len 2 l st k
  | .iinc k n => match xr_get l k with
    | some x => match xr_bin df 0 x (.int (Int32.ofInt n)) with
      | some v => bif Nat.blt k nL then xr_seq r pc len 3 (xr_s1 l k v) st else none
      | none => none
    | none => none
  | .iadd => xr_ar df 0 r pc len l st
  | .isub => xr_ar df 1 r pc len l st
  | .imul => xr_ar df 2 r pc len l st
  | .idiv => xr_dv df 3 r pc len l st
  | .irem => xr_dv df 4 r pc len l st
  | .iand => xr_ar df 5 r pc len l st
  | .ior => xr_ar df 6 r pc len l st
  | .ixor => xr_ar df 7 r pc len l st
  | .ishl => xr_ar df 8 r pc len l st
  | .ishr => xr_ar df 9 r pc len l st
  | .iushr => xr_ar df 10 r pc len l st
  | .i2b => xr_un df 11 r pc len l st
  | .ineg => xr_un df 12 r pc len l st
  | .i2c => xr_un df 13 r pc len l st
  | .land => xr_lo 0 r pc len l st
  | .lor => xr_lo 1 r pc len l st
  | .lshl => xr_lo 2 r pc len l st
  | .lshr => xr_lo 3 r pc len l st
  | .i2l => match xr_i2l st with
    | some st' => xr_seq r pc len 1 l st'
    | none => none
  | .lcmp => match xr_lcm st with
    | some q => xr_seq r pc len 1 l (q.1 :: q.2)
    | none => none
  | .dup => match st with
    | a :: st' => bif Nat.beq a.category 1 then xr_seq r pc len 1 l (a :: a :: st') else none
    | [] => none
  | .pop => match st with
    | a :: st' => bif Nat.beq a.category 1 then xr_seq r pc len 1 l st' else none
    | [] => none
  | .dup2 => match xr_du2 st with
    | some st' => xr_seq r pc len 1 l st'
    | none => none
  | .goto off => xr_to tab aux pc len 3 off l st
  | .ifCond c off => match st with
    | x :: st' => xr_br tab r aux pc len off l st' (xr_test fx c x (.int 0))
    | [] => none
  | .if_icmp c off => match st with
    | y :: x :: st' => xr_br tab r aux pc len off l st' (xr_test fx c x y)
    | _ => none
  | .ifnonnull off => match st with
    | .ref _ :: st' => xr_to tab aux pc len 3 off l st'
    | .null :: st' => xr_seq r pc len 3 l st'
    | _ => none
  | .ifnull off => match st with
    | .ref _ :: st' => xr_seq r pc len 3 l st'
    | .null :: st' => xr_to tab aux pc len 3 off l st'
    | _ => none
  | .tableswitch dflt lo hi offs => xr_sw fx tab r aux pc len dflt lo hi offs l st
  | .lookupswitch dflt ps => xr_lk tab aux pc len dflt ps l st
  | _ => none
section XRP
variable {p : Program} {l : Launch} {e : Env} {R : Room} {s : State} {m : MethodId} {args : Array Value} {below : List Frame} {meth : Method} {c : Code} {H : Heap} {locs : List Loc} {cells slots : Nat} {Q : State → Prop}
variable {cc : ByteArray} {ep : Nat → Int32} {ba : Nat} {sg : Nat → Nat} {ls : Array Slot} {nL : Nat}
abbrev xr_sv (ep : Nat → Int32) (ba : Nat) (sg : Nat → Nat) (st : List Value) : List Value := st.map (xr_v ep ba sg)
/-- what is owed of the state behind an instruction -/
abbrev xr_K (p : Program) (l : Launch) (e : Env) (R : Room) (s : State) (m : MethodId) (args : Array Value) (below : List Frame) (meth : Method) (c : Code) (H : Heap) (locs : List Loc) (cells slots : Nat) (Q : State → Prop) (ep : Nat → Int32) (ba : Nat) (sg : Nat → Nat) (nL : Nat) (r' : List xr_En) (l' : xr_L) (st' : List Value) : Prop :=
  ∀ ls' : Array Slot, lv_has ls' nL (xr_lv ep ba sg l') → W p l e R s m args below meth c H locs cells slots Q (F0 m (xr_pc r') ls' (xr_sv ep ba sg st'))
theorem xr_ldI {r r' : List xr_En} {pc len n : Nat} {lv l' : xr_L} {st st' : List Value} {i : Nat} {ok : Value → Bool} (h : xr_ld ok r pc len n lv st i = some (r', l', st')) (hl : lv_has ls nL (xr_lv ep ba sg lv)) : ∃ v, ok v = true ∧ ls[i]? = some (.val (xr_v ep ba sg v)) ∧ len = n ∧ xr_pc r' = pc + n ∧ lv = l' ∧ v :: st = st' := by
  unfold xr_ld at h
  cases hg : xr_get lv i with
  | none => rw [hg] at h; cases h
  | some v =>
    rw [hg] at h
    simp only at h
    cases hk : ok v with
    | false => rw [hk] at h; cases h
    | true =>
      rw [hk] at h
      obtain ⟨h1, h2, h3, h4, -⟩ := xr_seq_ok h
      exact ⟨v, hk, xr_get_ok hl hg, h1, h2, h3, h4⟩
theorem xr_stI {r r' : List xr_En} {pc len n : Nat} {lv l' : xr_L} {st st' : List Value} {i : Nat} {ok : Value → Bool} (h : xr_sto ok nL r pc len n lv st i = some (r', l', st')) : ∃ v st0, st = v :: st0 ∧ ok v = true ∧ i < nL ∧ len = n ∧ xr_pc r' = pc + n ∧ xr_s1 lv i v = l' ∧ st0 = st' := by
  unfold xr_sto at h
  cases st with
  | nil => cases h
  | cons v st0 =>
    simp only at h
    cases hk : (ok v && Nat.blt i nL) with
    | false => rw [hk] at h; cases h
    | true =>
      rw [hk] at h
      obtain ⟨h1, h2, h3, h4, -⟩ := xr_seq_ok h
      simp only [Bool.and_eq_true] at hk
      exact ⟨v, st0, rfl, hk.1, Nat.le_of_ble_eq_true hk.2, h1, h2, h3, h4⟩
theorem xr_slI {r r' : List xr_En} {pc len n : Nat} {lv l' : xr_L} {st st' : List Value} {i : Nat} (h : xr_stl nL r pc len n lv st i = some (r', l', st')) : ∃ v st0, st = v :: st0 ∧ xr_isL v = true ∧ i + 1 < nL ∧ len = n ∧ xr_pc r' = pc + n ∧ xr_s2 lv i v = l' ∧ st0 = st' := by
  unfold xr_stl at h
  cases st with
  | nil => cases h
  | cons v st0 =>
    simp only at h
    cases hk : (xr_isL v && Nat.blt (i + 1) nL) with
    | false => rw [hk] at h; cases h
    | true =>
      rw [hk] at h
      obtain ⟨h1, h2, h3, h4, -⟩ := xr_seq_ok h
      simp only [Bool.and_eq_true] at hk
      exact ⟨v, st0, rfl, hk.1, Nat.le_of_ble_eq_true hk.2, h1, h2, h3, h4⟩
theorem xr_arI {df : xr_D} (hd : xr_okD ep ba sg df) {k : Nat} {r r' : List xr_En} {pc len : Nat} {lv l' : xr_L} {st st' : List Value} (h : xr_ar df k r pc len lv st = some (r', l', st')) : ∃ a b st0, xr_sv ep ba sg st = .int b :: .int a :: st0 ∧ len = 1 ∧ xr_pc r' = pc + 1 ∧ lv = l' ∧ xr_sv ep ba sg st' = .int (xr_op k a b) :: st0 := by
  unfold xr_ar at h
  split at h
  · rename_i y x st1
    cases hb : xr_bin df k x y with
    | none => rw [hb] at h; cases h
    | some v =>
      rw [hb] at h
      obtain ⟨h1, h2, h3, h4, -⟩ := xr_seq_ok h
      obtain ⟨a, b, e1, e2, e3⟩ := xr_bin_ok hd hb
      subst h4
      exact ⟨a, b, xr_sv ep ba sg st1, by simp [e1, e2], h1, h2, h3, by simp [e3]⟩
  · cases h
theorem xr_dvI {df : xr_D} (hd : xr_okD ep ba sg df) {k : Nat} {r r' : List xr_En} {pc len : Nat} {lv l' : xr_L} {st st' : List Value} (h : xr_dv df k r pc len lv st = some (r', l', st')) : ∃ a b st0, xr_sv ep ba sg st = .int b :: .int a :: st0 ∧ ¬ b = 0 ∧ len = 1 ∧ xr_pc r' = pc + 1 ∧ lv = l' ∧ xr_sv ep ba sg st' = .int (xr_op k a b) :: st0 := by
  unfold xr_dv at h
  split at h
  · rename_i y x st1
    cases h0 : decide (y = 0) with
    | true => rw [h0] at h; cases h
    | false =>
      rw [h0] at h
      simp only [cond_false] at h
      cases hb : xr_bin df k x (.int y) with
      | none => rw [hb] at h; cases h
      | some v =>
        rw [hb] at h
        obtain ⟨h1, h2, h3, h4, -⟩ := xr_seq_ok h
        obtain ⟨a, b, e1, e2, e3⟩ := xr_bin_ok hd hb
        cases e2
        subst h4
        exact ⟨a, y, xr_sv ep ba sg st1, by show _ :: xr_v ep ba sg x :: _ = _; rw [e1]; rfl, of_decide_eq_false h0, h1, h2, h3, by simp [e3]⟩
  · cases h
theorem xr_unI {df : xr_D} (hd : xr_okD ep ba sg df) {k : Nat} {r r' : List xr_En} {pc len : Nat} {lv l' : xr_L} {st st' : List Value} (h : xr_un df k r pc len lv st = some (r', l', st')) : ∃ a st0, xr_sv ep ba sg st = .int a :: st0 ∧ len = 1 ∧ xr_pc r' = pc + 1 ∧ lv = l' ∧ xr_sv ep ba sg st' = .int (xr_op k a 0) :: st0 := by
  unfold xr_un at h
  split at h
  · rename_i x st1
    cases hb : xr_bin df k x (.int 0) with
    | none => rw [hb] at h; cases h
    | some v =>
      rw [hb] at h
      obtain ⟨h1, h2, h3, h4, -⟩ := xr_seq_ok h
      obtain ⟨a, b, e1, e2, e3⟩ := xr_bin_ok hd hb
      cases e2
      subst h4
      exact ⟨a, xr_sv ep ba sg st1, by simp [e1], h1, h2, h3, by simp [e3]⟩
  · cases h
theorem xr_brI {tab r r' : List xr_En} {aux : List Nat} {pc len : Nat} {off : Int} {lv l' : xr_L} {st st' : List Value} {t : Option Bool} (h : xr_br tab r aux pc len off lv st t = some (r', l', st')) : ∃ b, t = some b ∧ len = 3 ∧ lv = l' ∧ st = st' ∧ (b = true → (pc : Int) + off = (xr_pc r' : Int)) ∧ (b = false → xr_pc r' = pc + 3) := by
  unfold xr_br at h
  split at h
  · obtain ⟨h1, h2, h3, h4, -⟩ := xr_to_ok h
    exact ⟨true, rfl, h1, h3, h4, fun _ => h2, fun h => by cases h⟩
  · obtain ⟨h1, h2, h3, h4, -⟩ := xr_seq_ok h
    exact ⟨false, rfl, h1, h3, h4, (fun h => by cases h), fun _ => h2⟩
  · cases h
end XRP
end
section
section XRS
variable {p : Program} {l : Launch} {e : Env} {R : Room} {s : State} {m : MethodId} {args : Array Value} {below : List Frame} {meth : Method} {c : Code} {H : Heap} {locs : List Loc} {cells slots : Nat} {Q : State → Prop}
variable {cc : ByteArray} {pc : Nat} {ls : Array Slot} {rest : List Value}
/-- the branch isn't taken: where it would go doesn't matter -/
theorem xr_skip_ifCond_eq (hx : p.tables.exec = Jvm.exec) (hb : c.code = cc) {x : Int32} {off : Int} (hdg : decode cc pc = .ok (.ifCond .eq off, 3)) (hc : ¬ x = 0) (k : W p l e R s m args below meth c H locs cells slots Q (F0 m (pc + 3) ls rest)) : W p l e R s m args below meth c H locs cells slots Q (F0 m pc ls (.int x :: rest)) := by
  intro T hT X
  obtain ⟨t, a, b⟩ := k T hT X
  refine ⟨t, ?_, b⟩
  jvm_step X.here [X.here.top, hx, hb, hdg, Op.ifCond.holds, Op.if_icmp.holds, hc]
  exact a
/-- the branch isn't taken: where it would go doesn't matter -/
theorem xr_skip_ifCond_ne (hx : p.tables.exec = Jvm.exec) (hb : c.code = cc) {x : Int32} {off : Int} (hdg : decode cc pc = .ok (.ifCond .ne off, 3)) (hc : x = 0) (k : W p l e R s m args below meth c H locs cells slots Q (F0 m (pc + 3) ls rest)) : W p l e R s m args below meth c H locs cells slots Q (F0 m pc ls (.int x :: rest)) := by
  intro T hT X
  obtain ⟨t, a, b⟩ := k T hT X
  refine ⟨t, ?_, b⟩
  jvm_step X.here [X.here.top, hx, hb, hdg, Op.ifCond.holds, Op.if_icmp.holds, hc]
  exact a
/-- the branch isn't taken: where it would go doesn't matter -/
theorem xr_skip_ifCond_lt (hx : p.tables.exec = Jvm.exec) (hb : c.code = cc) {x : Int32} {off : Int} (hdg : decode cc pc = .ok (.ifCond .lt off, 3)) (hc : ¬ x < 0) (k : W p l e R s m args below meth c H locs cells slots Q (F0 m (pc + 3) ls rest)) : W p l e R s m args below meth c H locs cells slots Q (F0 m pc ls (.int x :: rest)) := by
  intro T hT X
  obtain ⟨t, a, b⟩ := k T hT X
  refine ⟨t, ?_, b⟩
  jvm_step X.here [X.here.top, hx, hb, hdg, Op.ifCond.holds, Op.if_icmp.holds, hc]
  exact a
/-- the branch isn't taken: where it would go doesn't matter -/
theorem xr_skip_ifCond_ge (hx : p.tables.exec = Jvm.exec) (hb : c.code = cc) {x : Int32} {off : Int} (hdg : decode cc pc = .ok (.ifCond .ge off, 3)) (hc : ¬ 0 ≤ x) (k : W p l e R s m args below meth c H locs cells slots Q (F0 m (pc + 3) ls rest)) : W p l e R s m args below meth c H locs cells slots Q (F0 m pc ls (.int x :: rest)) := by
  intro T hT X
  obtain ⟨t, a, b⟩ := k T hT X
  refine ⟨t, ?_, b⟩
  jvm_step X.here [X.here.top, hx, hb, hdg, Op.ifCond.holds, Op.if_icmp.holds, hc]
  exact a
/-- the branch isn't taken: where it would go doesn't matter -/
theorem xr_skip_ifCond_gt (hx : p.tables.exec = Jvm.exec) (hb : c.code = cc) {x : Int32} {off : Int} (hdg : decode cc pc = .ok (.ifCond .gt off, 3)) (hc : ¬ 0 < x) (k : W p l e R s m args below meth c H locs cells slots Q (F0 m (pc + 3) ls rest)) : W p l e R s m args below meth c H locs cells slots Q (F0 m pc ls (.int x :: rest)) := by
  intro T hT X
  obtain ⟨t, a, b⟩ := k T hT X
  refine ⟨t, ?_, b⟩
  jvm_step X.here [X.here.top, hx, hb, hdg, Op.ifCond.holds, Op.if_icmp.holds, hc]
  exact a
/-- the branch isn't taken: where it would go doesn't matter -/
theorem xr_skip_ifCond_le (hx : p.tables.exec = Jvm.exec) (hb : c.code = cc) {x : Int32} {off : Int} (hdg : decode cc pc = .ok (.ifCond .le off, 3)) (hc : ¬ x ≤ 0) (k : W p l e R s m args below meth c H locs cells slots Q (F0 m (pc + 3) ls rest)) : W p l e R s m args below meth c H locs cells slots Q (F0 m pc ls (.int x :: rest)) := by
  intro T hT X
  obtain ⟨t, a, b⟩ := k T hT X
  refine ⟨t, ?_, b⟩
  jvm_step X.here [X.here.top, hx, hb, hdg, Op.ifCond.holds, Op.if_icmp.holds, hc]
  exact a
/-- the branch isn't taken: where it would go doesn't matter -/
theorem xr_skip_if_icmp_eq (hx : p.tables.exec = Jvm.exec) (hb : c.code = cc) {x y : Int32} {off : Int} (hdg : decode cc pc = .ok (.if_icmp .eq off, 3)) (hc : ¬ x = y) (k : W p l e R s m args below meth c H locs cells slots Q (F0 m (pc + 3) ls rest)) : W p l e R s m args below meth c H locs cells slots Q (F0 m pc ls (.int y :: .int x :: rest)) := by
  intro T hT X
  obtain ⟨t, a, b⟩ := k T hT X
  refine ⟨t, ?_, b⟩
  jvm_step X.here [X.here.top, hx, hb, hdg, Op.ifCond.holds, Op.if_icmp.holds, hc]
  exact a
/-- the branch isn't taken: where it would go doesn't matter -/
theorem xr_skip_if_icmp_ne (hx : p.tables.exec = Jvm.exec) (hb : c.code = cc) {x y : Int32} {off : Int} (hdg : decode cc pc = .ok (.if_icmp .ne off, 3)) (hc : x = y) (k : W p l e R s m args below meth c H locs cells slots Q (F0 m (pc + 3) ls rest)) : W p l e R s m args below meth c H locs cells slots Q (F0 m pc ls (.int y :: .int x :: rest)) := by
  intro T hT X
  obtain ⟨t, a, b⟩ := k T hT X
  refine ⟨t, ?_, b⟩
  jvm_step X.here [X.here.top, hx, hb, hdg, Op.ifCond.holds, Op.if_icmp.holds, hc]
  exact a
/-- the branch isn't taken: where it would go doesn't matter -/
theorem xr_skip_if_icmp_lt (hx : p.tables.exec = Jvm.exec) (hb : c.code = cc) {x y : Int32} {off : Int} (hdg : decode cc pc = .ok (.if_icmp .lt off, 3)) (hc : ¬ x < y) (k : W p l e R s m args below meth c H locs cells slots Q (F0 m (pc + 3) ls rest)) : W p l e R s m args below meth c H locs cells slots Q (F0 m pc ls (.int y :: .int x :: rest)) := by
  intro T hT X
  obtain ⟨t, a, b⟩ := k T hT X
  refine ⟨t, ?_, b⟩
  jvm_step X.here [X.here.top, hx, hb, hdg, Op.ifCond.holds, Op.if_icmp.holds, hc]
  exact a
/-- the branch isn't taken: where it would go doesn't matter -/
theorem xr_skip_if_icmp_ge (hx : p.tables.exec = Jvm.exec) (hb : c.code = cc) {x y : Int32} {off : Int} (hdg : decode cc pc = .ok (.if_icmp .ge off, 3)) (hc : ¬ y ≤ x) (k : W p l e R s m args below meth c H locs cells slots Q (F0 m (pc + 3) ls rest)) : W p l e R s m args below meth c H locs cells slots Q (F0 m pc ls (.int y :: .int x :: rest)) := by
  intro T hT X
  obtain ⟨t, a, b⟩ := k T hT X
  refine ⟨t, ?_, b⟩
  jvm_step X.here [X.here.top, hx, hb, hdg, Op.ifCond.holds, Op.if_icmp.holds, hc]
  exact a
/-- the branch isn't taken: where it would go doesn't matter -/
theorem xr_skip_if_icmp_gt (hx : p.tables.exec = Jvm.exec) (hb : c.code = cc) {x y : Int32} {off : Int} (hdg : decode cc pc = .ok (.if_icmp .gt off, 3)) (hc : ¬ y < x) (k : W p l e R s m args below meth c H locs cells slots Q (F0 m (pc + 3) ls rest)) : W p l e R s m args below meth c H locs cells slots Q (F0 m pc ls (.int y :: .int x :: rest)) := by
  intro T hT X
  obtain ⟨t, a, b⟩ := k T hT X
  refine ⟨t, ?_, b⟩
  jvm_step X.here [X.here.top, hx, hb, hdg, Op.ifCond.holds, Op.if_icmp.holds, hc]
  exact a
/-- the branch isn't taken: where it would go doesn't matter -/
theorem xr_skip_if_icmp_le (hx : p.tables.exec = Jvm.exec) (hb : c.code = cc) {x y : Int32} {off : Int} (hdg : decode cc pc = .ok (.if_icmp .le off, 3)) (hc : ¬ x ≤ y) (k : W p l e R s m args below meth c H locs cells slots Q (F0 m (pc + 3) ls rest)) : W p l e R s m args below meth c H locs cells slots Q (F0 m pc ls (.int y :: .int x :: rest)) := by
  intro T hT X
  obtain ⟨t, a, b⟩ := k T hT X
  refine ⟨t, ?_, b⟩
  jvm_step X.here [X.here.top, hx, hb, hdg, Op.ifCond.holds, Op.if_icmp.holds, hc]
  exact a
theorem xr_neg_ne {a b : Int32} (h : ¬ a = b) : ¬ a = b := h
theorem xr_pos_ne {a b : Int32} (h : a = b) : a = b := h
theorem xr_neg_ge {a b : Int32} (h : ¬ a < b) : b ≤ a := Int32.not_lt.mp h
theorem xr_pos_ge {a b : Int32} (h : a < b) : ¬ b ≤ a := Int32.not_le.mpr h
theorem xr_neg_le {a b : Int32} (h : ¬ a < b) : b ≤ a := Int32.not_lt.mp h
theorem xr_pos_le {a b : Int32} (h : a < b) : ¬ b ≤ a := Int32.not_le.mpr h
end XRS
/-! .. and what the real machine does at them -/
section XRQ
variable {p : Program} {l : Launch} {e : Env} {R : Room} {s : State} {m : MethodId} {args : Array Value} {below : List Frame} {meth : Method} {c : Code} {H : Heap} {locs : List Loc} {cells slots : Nat} {Q : State → Prop}
variable {cc : ByteArray} {ep : Nat → Int32} {ba : Nat} {sg : Nat → Nat} {ls : Array Slot} {nL : Nat}
theorem lg_cmp_same (x : Int64) : lg_cmp x x = 0 := by
  unfold lg_cmp
  rw [if_neg (show ¬ x > x from Int64.lt_irrefl), if_pos rfl]
theorem xr_loI {k : Nat} {r r' : List xr_En} {pc len : Nat} {lv l' : xr_L} {st st' : List Value} (h : xr_lo k r pc len lv st = some (r', l', st')) : ∃ y a v st0, st = y :: .long a :: st0 ∧ xr_ll k a y = some v ∧ len = 1 ∧ xr_pc r' = pc + 1 ∧ lv = l' ∧ .long v :: st0 = st' := by
  unfold xr_lo at h
  split at h
  · rename_i y a st1
    cases hb : xr_ll k a y with
    | none => rw [hb] at h; cases h
    | some v =>
      rw [hb] at h
      obtain ⟨h1, h2, h3, h4, -⟩ := xr_seq_ok h
      exact ⟨y, a, v, st1, rfl, hb, h1, h2, h3, h4⟩
  · cases h
theorem xr_llI {k : Nat} {a v : Int64} {y : Value} (h : xr_ll k a y = some v) : (k = 0 ∧ ∃ b, y = .long b ∧ a &&& b = v) ∨ (k = 1 ∧ ∃ b, y = .long b ∧ a ||| b = v) ∨ (k = 2 ∧ ∃ b, y = .int b ∧ a <<< (b.toInt64 &&& 63) = v) ∨ (k = 3 ∧ ∃ b, y = .int b ∧ a >>> (b.toInt64 &&& 63) = v) := by
  unfold xr_ll at h
  split at h
  · exact Or.inl ⟨rfl, _, rfl, Option.some.inj h⟩
  · exact Or.inr (Or.inl ⟨rfl, _, rfl, Option.some.inj h⟩)
  · exact Or.inr (Or.inr (Or.inl ⟨rfl, _, rfl, Option.some.inj h⟩))
  · exact Or.inr (Or.inr (Or.inr ⟨rfl, _, rfl, Option.some.inj h⟩))
  · cases h
set_option maxHeartbeats 4000000 in
set_option maxRecDepth 100000 in
theorem xr_pure_ok {df : xr_D} {fx : xr_F} (hD : xr_okD ep ba sg df) (hF : xr_okF ep ba sg fx) {tab r r' : List xr_En} {pc len : Nat} {aux : List Nat} {lv l' : xr_L} {st st' : List Value} {i : Instr} (h : xr_pure df fx nL tab r pc len aux lv st i = some (r', l', st')) (hx : p.tables.exec = Jvm.exec) (hb : c.code = cc) (hd : decode cc pc = .ok (i, len)) (hl : lv_has ls nL (xr_lv ep ba sg lv))
    (k : xr_K p l e R s m args below meth c H locs cells slots Q ep ba sg nL r' l' st') : W p l e R s m args below meth c H locs cells slots Q (F0 m pc ls (xr_sv ep ba sg st)) := by
  cases i
  case iconst n =>
    obtain ⟨rfl, hpc, rfl, rfl, -⟩ := xr_seq_ok h
    have k := k ls hl
    rw [hpc] at k
    exact lv_iconst hx hb hd rfl k
  case bipush n =>
    obtain ⟨rfl, hpc, rfl, rfl, -⟩ := xr_seq_ok h
    have k := k ls hl
    rw [hpc] at k
    exact lv_bipush hx hb hd rfl k
  case sipush n =>
    obtain ⟨rfl, hpc, rfl, rfl, -⟩ := xr_seq_ok h
    have k := k ls hl
    rw [hpc] at k
    exact lv_sipush hx hb hd rfl k
  case lconst n =>
    obtain ⟨rfl, hpc, rfl, rfl, -⟩ := xr_seq_ok h
    have k := k ls hl
    rw [hpc] at k
    exact lv_lconst hx hb hd rfl k
  case aconst_null  =>
    obtain ⟨rfl, hpc, rfl, rfl, -⟩ := xr_seq_ok h
    have k := k ls hl
    rw [hpc] at k
    exact lv_null hx hb hd k
  case iload_n i =>
    obtain ⟨v, hv, hg, rfl, hpc, rfl, rfl⟩ := xr_ldI h hl
    have k := k ls hl
    rw [hpc] at k
    obtain ⟨x, ex⟩ := xr_isI_ok (ep := ep) (ba := ba) (sg := sg) hv
    rw [ex] at hg
    simp only [xr_sv, List.map_cons, ex] at k
    exact lv_iload_n hx hb hd rfl hg k
  case iload i =>
    obtain ⟨v, hv, hg, rfl, hpc, rfl, rfl⟩ := xr_ldI h hl
    have k := k ls hl
    rw [hpc] at k
    obtain ⟨x, ex⟩ := xr_isI_ok (ep := ep) (ba := ba) (sg := sg) hv
    rw [ex] at hg
    simp only [xr_sv, List.map_cons, ex] at k
    exact lv_iload hx hb hd hg k
  case lload_n i =>
    obtain ⟨v, hv, hg, rfl, hpc, rfl, rfl⟩ := xr_ldI h hl
    have k := k ls hl
    rw [hpc] at k
    obtain ⟨x, ex⟩ := xr_isL_ok (ep := ep) (ba := ba) (sg := sg) hv
    rw [ex] at hg
    simp only [xr_sv, List.map_cons, ex] at k
    exact lv_lload_n hx hb hd rfl hg k
  case lload i =>
    obtain ⟨v, hv, hg, rfl, hpc, rfl, rfl⟩ := xr_ldI h hl
    have k := k ls hl
    rw [hpc] at k
    obtain ⟨x, ex⟩ := xr_isL_ok (ep := ep) (ba := ba) (sg := sg) hv
    rw [ex] at hg
    simp only [xr_sv, List.map_cons, ex] at k
    exact lv_lload hx hb hd hg k
  case aload_n i =>
    obtain ⟨v, hv, hg, rfl, hpc, rfl, rfl⟩ := xr_ldI h hl
    have k := k ls hl
    rw [hpc] at k
    rcases xr_isB_ok (ep := ep) (ba := ba) (sg := sg) hv with ⟨x, ex⟩ | ex
    · rw [ex] at hg
      simp only [xr_sv, List.map_cons, ex] at k
      exact lv_aload_n hx hb hd rfl hg k
    · rw [ex] at hg
      simp only [xr_sv, List.map_cons, ex] at k
      exact lv_aload_nN hx hb hd rfl hg k
  case aload i =>
    obtain ⟨v, hv, hg, rfl, hpc, rfl, rfl⟩ := xr_ldI h hl
    have k := k ls hl
    rw [hpc] at k
    rcases xr_isB_ok (ep := ep) (ba := ba) (sg := sg) hv with ⟨x, ex⟩ | ex
    · rw [ex] at hg
      simp only [xr_sv, List.map_cons, ex] at k
      exact lv_aload hx hb hd hg k
    · rw [ex] at hg
      simp only [xr_sv, List.map_cons, ex] at k
      exact lv_aloadN hx hb hd hg k
  case istore_n i =>
    obtain ⟨v, st0, rfl, hv, hi, rfl, hpc, rfl, rfl⟩ := xr_stI h
    obtain ⟨x, ex⟩ := xr_isI_ok (ep := ep) (ba := ba) (sg := sg) hv
    have hs := xr_s1_ok ep ba sg lv i.val v
    rw [ex] at hs
    simp only [xr_sv, List.map_cons, ex]
    refine lv_istore_n hx hb hd rfl hl hi hs (fun ls' hl' => ?_)
    have k := k ls' hl'
    rw [hpc] at k
    exact k
  case istore i =>
    obtain ⟨v, st0, rfl, hv, hi, rfl, hpc, rfl, rfl⟩ := xr_stI h
    obtain ⟨x, ex⟩ := xr_isI_ok (ep := ep) (ba := ba) (sg := sg) hv
    have hs := xr_s1_ok ep ba sg lv i v
    rw [ex] at hs
    simp only [xr_sv, List.map_cons, ex]
    refine lv_istore hx hb hd hl hi hs (fun ls' hl' => ?_)
    have k := k ls' hl'
    rw [hpc] at k
    exact k
  case astore_n i =>
    obtain ⟨v, st0, rfl, hv, hi, rfl, hpc, rfl, rfl⟩ := xr_stI h
    obtain ⟨x, ex⟩ := xr_isA_ok (ep := ep) (ba := ba) (sg := sg) hv
    have hs := xr_s1_ok ep ba sg lv i.val v
    rw [ex] at hs
    simp only [xr_sv, List.map_cons, ex]
    refine lv_astore_n hx hb hd rfl hl hi hs (fun ls' hl' => ?_)
    have k := k ls' hl'
    rw [hpc] at k
    exact k
  case astore i =>
    obtain ⟨v, st0, rfl, hv, hi, rfl, hpc, rfl, rfl⟩ := xr_stI h
    obtain ⟨x, ex⟩ := xr_isA_ok (ep := ep) (ba := ba) (sg := sg) hv
    have hs := xr_s1_ok ep ba sg lv i v
    rw [ex] at hs
    simp only [xr_sv, List.map_cons, ex]
    refine lv_astore hx hb hd hl hi hs (fun ls' hl' => ?_)
    have k := k ls' hl'
    rw [hpc] at k
    exact k
  case lstore_n i =>
    obtain ⟨v, st0, rfl, hv, hi, rfl, hpc, rfl, rfl⟩ := xr_slI h
    obtain ⟨x, ex⟩ := xr_isL_ok (ep := ep) (ba := ba) (sg := sg) hv
    have hs := xr_s2_ok ep ba sg lv i.val v
    rw [ex] at hs
    simp only [xr_sv, List.map_cons, ex]
    refine lv_lstore_n hx hb hd rfl hl hi hs (fun ls' hl' => ?_)
    have k := k ls' hl'
    rw [hpc] at k
    exact k
  case lstore i =>
    obtain ⟨v, st0, rfl, hv, hi, rfl, hpc, rfl, rfl⟩ := xr_slI h
    obtain ⟨x, ex⟩ := xr_isL_ok (ep := ep) (ba := ba) (sg := sg) hv
    have hs := xr_s2_ok ep ba sg lv i v
    rw [ex] at hs
    simp only [xr_sv, List.map_cons, ex]
    refine lv_lstore hx hb hd hl hi hs (fun ls' hl' => ?_)
    have k := k ls' hl'
    rw [hpc] at k
    exact k
  case iinc i n =>
    simp only [xr_pure] at h
    cases hg : xr_get lv i with
    | none => rw [hg] at h; cases h
    | some x =>
      rw [hg] at h
      simp only at h
      cases hn : xr_bin df 0 x (.int (Int32.ofInt n)) with
      | none => rw [hn] at h; cases h
      | some v =>
        rw [hn] at h
        simp only at h
        cases hi : Nat.blt i nL with
        | false => rw [hi] at h; cases h
        | true =>
          rw [hi] at h
          obtain ⟨rfl, hpc, rfl, rfl, -⟩ := xr_seq_ok h
          obtain ⟨a, b, e1, e2, e3⟩ := xr_bin_ok hD hn
          cases e2
          obtain ⟨q, hq⟩ := List.getElem?_of_mem (show (i, xr_v ep ba sg x) ∈ xr_lv ep ba sg lv from List.mem_map.mpr ⟨(i, x), xr_get_mem hg, rfl⟩)
          rw [e1] at hq
          have hs := xr_s1_ok ep ba sg lv i v
          rw [e3] at hs
          refine lv_iinc (k := q) hx hb hd hl hq rfl (Nat.le_of_ble_eq_true hi) hs (fun ls' hl' => ?_)
          have k := k ls' hl'
          rw [hpc] at k
          exact k
  case iadd  =>
    obtain ⟨a, b, st0, e1, rfl, hpc, rfl, e2⟩ := xr_arI hD h
    have k := k ls hl
    rw [hpc, e2] at k
    rw [e1]
    exact lv_iadd hx hb hd k
  case isub  =>
    obtain ⟨a, b, st0, e1, rfl, hpc, rfl, e2⟩ := xr_arI hD h
    have k := k ls hl
    rw [hpc, e2] at k
    rw [e1]
    exact lv_isub hx hb hd k
  case imul  =>
    obtain ⟨a, b, st0, e1, rfl, hpc, rfl, e2⟩ := xr_arI hD h
    have k := k ls hl
    rw [hpc, e2] at k
    rw [e1]
    exact lv_imul hx hb hd k
  case iand  =>
    obtain ⟨a, b, st0, e1, rfl, hpc, rfl, e2⟩ := xr_arI hD h
    have k := k ls hl
    rw [hpc, e2] at k
    rw [e1]
    exact lv_iand hx hb hd k
  case ior  =>
    obtain ⟨a, b, st0, e1, rfl, hpc, rfl, e2⟩ := xr_arI hD h
    have k := k ls hl
    rw [hpc, e2] at k
    rw [e1]
    exact lv_ior hx hb hd k
  case ixor  =>
    obtain ⟨a, b, st0, e1, rfl, hpc, rfl, e2⟩ := xr_arI hD h
    have k := k ls hl
    rw [hpc, e2] at k
    rw [e1]
    exact lv_ixor hx hb hd k
  case ishl  =>
    obtain ⟨a, b, st0, e1, rfl, hpc, rfl, e2⟩ := xr_arI hD h
    have k := k ls hl
    rw [hpc, e2] at k
    rw [e1]
    exact lv_ishl hx hb hd k
  case ishr  =>
    obtain ⟨a, b, st0, e1, rfl, hpc, rfl, e2⟩ := xr_arI hD h
    have k := k ls hl
    rw [hpc, e2] at k
    rw [e1]
    exact lv_ishr hx hb hd k
  case iushr  =>
    obtain ⟨a, b, st0, e1, rfl, hpc, rfl, e2⟩ := xr_arI hD h
    have k := k ls hl
    rw [hpc, e2] at k
    rw [e1]
    exact lv_iushr hx hb hd rfl k
  case idiv  =>
    obtain ⟨a, b, st0, e1, h0, rfl, hpc, rfl, e2⟩ := xr_dvI hD h
    have k := k ls hl
    rw [hpc, e2] at k
    rw [e1]
    exact lv_idiv hx hb hd h0 k
  case irem  =>
    obtain ⟨a, b, st0, e1, h0, rfl, hpc, rfl, e2⟩ := xr_dvI hD h
    have k := k ls hl
    rw [hpc, e2] at k
    rw [e1]
    exact lv_irem hx hb hd h0 k
  case i2b  =>
    obtain ⟨a, st0, e1, rfl, hpc, rfl, e2⟩ := xr_unI hD h
    have k := k ls hl
    rw [hpc, e2] at k
    rw [e1]
    exact lv_i2b hx hb hd rfl k
  case ineg  =>
    obtain ⟨a, st0, e1, rfl, hpc, rfl, e2⟩ := xr_unI hD h
    have k := k ls hl
    rw [hpc, e2] at k
    rw [e1]
    exact lv_ineg hx hb hd k
  case i2c  =>
    obtain ⟨a, st0, e1, rfl, hpc, rfl, e2⟩ := xr_unI hD h
    have k := k ls hl
    rw [hpc, e2] at k
    rw [e1]
    exact lv_i2c hx hb hd rfl k
  case land  =>
    obtain ⟨y, a, v, st0, rfl, hv, rfl, hpc, rfl, rfl⟩ := xr_loI h
    have k := k ls hl
    rw [hpc] at k
    rcases xr_llI hv with ⟨h0, b, rfl, rfl⟩ | ⟨h0, b, rfl, rfl⟩ | ⟨h0, b, rfl, rfl⟩ | ⟨h0, b, rfl, rfl⟩
    · exact lv_land hx hb hd k
    · exact absurd h0 (by decide)
    · exact absurd h0 (by decide)
    · exact absurd h0 (by decide)
  case lor  =>
    obtain ⟨y, a, v, st0, rfl, hv, rfl, hpc, rfl, rfl⟩ := xr_loI h
    have k := k ls hl
    rw [hpc] at k
    rcases xr_llI hv with ⟨h0, b, rfl, rfl⟩ | ⟨h0, b, rfl, rfl⟩ | ⟨h0, b, rfl, rfl⟩ | ⟨h0, b, rfl, rfl⟩
    · exact absurd h0 (by decide)
    · exact lv_lor hx hb hd k
    · exact absurd h0 (by decide)
    · exact absurd h0 (by decide)
  case lshl  =>
    obtain ⟨y, a, v, st0, rfl, hv, rfl, hpc, rfl, rfl⟩ := xr_loI h
    have k := k ls hl
    rw [hpc] at k
    rcases xr_llI hv with ⟨h0, b, rfl, rfl⟩ | ⟨h0, b, rfl, rfl⟩ | ⟨h0, b, rfl, rfl⟩ | ⟨h0, b, rfl, rfl⟩
    · exact absurd h0 (by decide)
    · exact absurd h0 (by decide)
    · exact lv_lshl hx hb hd rfl k
    · exact absurd h0 (by decide)
  case lshr  =>
    obtain ⟨y, a, v, st0, rfl, hv, rfl, hpc, rfl, rfl⟩ := xr_loI h
    have k := k ls hl
    rw [hpc] at k
    rcases xr_llI hv with ⟨h0, b, rfl, rfl⟩ | ⟨h0, b, rfl, rfl⟩ | ⟨h0, b, rfl, rfl⟩ | ⟨h0, b, rfl, rfl⟩
    · exact absurd h0 (by decide)
    · exact absurd h0 (by decide)
    · exact absurd h0 (by decide)
    · exact lv_lshr hx hb hd rfl k
  case i2l  =>
    simp only [xr_pure] at h
    cases hs : xr_i2l st with
    | none => rw [hs] at h; cases h
    | some st1 =>
      rw [hs] at h
      obtain ⟨rfl, hpc, rfl, rfl, -⟩ := xr_seq_ok h
      have k := k ls hl
      rw [hpc] at k
      unfold xr_i2l at hs
      split at hs
      · cases hs
        exact lv_i2l hx hb hd rfl k
      · rename_i n st2
        cases hn : Nat.blt n 1000 with
        | false => rw [hn] at hs; cases hs
        | true =>
          rw [hn] at hs
          cases hs
          have hlt : n < 1000 := Nat.le_of_ble_eq_true hn
          refine lv_i2l hx hb hd (v := (ep n).toInt64) rfl ?_
          have e9 : xr_v ep ba sg (.double (UInt64.ofNat n)) = .long (ep n).toInt64 := by
            simp only [xr_v]
            rw [show (UInt64.ofNat n).toNat = n by simp [UInt64.toNat_ofNat]; omega]
          simp only [xr_sv, List.map_cons, e9] at k
          exact k
      · cases hs
  case lcmp  =>
    simp only [xr_pure] at h
    cases hs : xr_lcm st with
    | none => rw [hs] at h; cases h
    | some q =>
      rw [hs] at h
      obtain ⟨rfl, hpc, rfl, rfl, -⟩ := xr_seq_ok h
      have k := k ls hl
      rw [hpc] at k
      unfold xr_lcm at hs
      split at hs
      · cases hs
        exact W.lcmp hx hb hd k
      · rename_i u v st2
        cases hn : decide (u = v) with
        | false => rw [hn] at hs; cases hs
        | true =>
          rw [hn] at hs
          cases hs
          have he := of_decide_eq_true hn
          subst he
          refine W.lcmp hx hb hd ?_
          rw [lg_cmp_same]
          exact k
      · cases hs
  case dup  =>
    simp only [xr_pure] at h
    cases st with
    | nil => cases h
    | cons a st1 =>
      simp only at h
      cases hc : Nat.beq a.category 1 with
      | false => rw [hc] at h; cases h
      | true =>
        rw [hc] at h
        obtain ⟨rfl, hpc, rfl, rfl, -⟩ := xr_seq_ok h
        have k := k ls hl
        rw [hpc] at k
        exact lv_dup hx hb hd (by rw [xr_cat]; exact Nat.eq_of_beq_eq_true hc) k
  case pop  =>
    simp only [xr_pure] at h
    cases st with
    | nil => cases h
    | cons a st1 =>
      simp only at h
      cases hc : Nat.beq a.category 1 with
      | false => rw [hc] at h; cases h
      | true =>
        rw [hc] at h
        obtain ⟨rfl, hpc, rfl, rfl, -⟩ := xr_seq_ok h
        have k := k ls hl
        rw [hpc] at k
        exact lv_pop hx hb hd (by rw [xr_cat]; exact Nat.eq_of_beq_eq_true hc) k
  case dup2  =>
    simp only [xr_pure] at h
    cases hs : xr_du2 st with
    | none => rw [hs] at h; cases h
    | some st1 =>
      rw [hs] at h
      obtain ⟨rfl, hpc, rfl, rfl, -⟩ := xr_seq_ok h
      have k := k ls hl
      rw [hpc] at k
      unfold xr_du2 at hs
      split at hs
      · rename_i a b st2
        cases hc : (Nat.beq a.category 1 && Nat.beq b.category 1) with
        | false => rw [hc] at hs; cases hs
        | true =>
          rw [hc] at hs
          cases hs
          simp only [Bool.and_eq_true] at hc
          exact lv_dup2_11 hx hb hd (by rw [xr_cat]; exact Nat.eq_of_beq_eq_true hc.1) (by rw [xr_cat]; exact Nat.eq_of_beq_eq_true hc.2) k
      · cases hs
  case goto off =>
    obtain ⟨rfl, hpc, rfl, rfl, -⟩ := xr_to_ok h
    exact lv_goto hx hb hd hpc (k ls hl)
  case ifCond cnd off =>
    simp only [xr_pure] at h
    cases st with
    | nil => cases h
    | cons x st1 =>
      simp only at h
      obtain ⟨t, ht, rfl, rfl, rfl, hT, hN⟩ := xr_brI h
      have k := k ls hl
      cases cnd with
      | eq =>
        simp only [xr_test] at ht
        obtain ⟨a, b, e1, e2, e3⟩ := xr_c_ok hF ht
        cases e2
        simp only [xr_sv, List.map_cons, e1]
        simp only [xr_cm] at e3
        cases t with
        | true =>
          refine lv_if_eq hx hb hd (hT rfl) (fun _ => k) (fun hc => absurd (of_decide_eq_true e3.symm) hc)
        | false =>
          have hz := hN rfl
          rw [hz] at k
          exact xr_skip_ifCond_eq hx hb hd (of_decide_eq_false e3.symm) k
      | ne =>
        simp only [xr_test, Option.map_eq_some_iff] at ht
        obtain ⟨t0, ht, et⟩ := ht
        obtain ⟨a, b, e1, e2, e3⟩ := xr_c_ok hF ht
        cases e2
        simp only [xr_sv, List.map_cons, e1]
        simp only [xr_cm] at e3
        cases t with
        | true =>
          have e0 : t0 = false := by cases t0 <;> simp_all
          rw [e0] at e3
          exact lv_if_ne hx hb hd (hT rfl) (fun _ => k) (fun hc => absurd hc (xr_neg_ne (of_decide_eq_false e3.symm)))
        | false =>
          have e0 : t0 = true := by cases t0 <;> simp_all
          rw [e0] at e3
          have hz := hN rfl
          rw [hz] at k
          exact xr_skip_ifCond_ne hx hb hd (xr_pos_ne (of_decide_eq_true e3.symm)) k
      | lt =>
        simp only [xr_test] at ht
        obtain ⟨a, b, e1, e2, e3⟩ := xr_c_ok hF ht
        cases e2
        simp only [xr_sv, List.map_cons, e1]
        simp only [xr_cm] at e3
        cases t with
        | true =>
          refine lv_if_lt hx hb hd (hT rfl) (fun _ => k) (fun hc => absurd (of_decide_eq_true e3.symm) hc)
        | false =>
          have hz := hN rfl
          rw [hz] at k
          exact xr_skip_ifCond_lt hx hb hd (of_decide_eq_false e3.symm) k
      | ge =>
        simp only [xr_test, Option.map_eq_some_iff] at ht
        obtain ⟨t0, ht, et⟩ := ht
        obtain ⟨a, b, e1, e2, e3⟩ := xr_c_ok hF ht
        cases e2
        simp only [xr_sv, List.map_cons, e1]
        simp only [xr_cm] at e3
        cases t with
        | true =>
          have e0 : t0 = false := by cases t0 <;> simp_all
          rw [e0] at e3
          exact lv_if_ge hx hb hd (hT rfl) (fun _ => k) (fun hc => absurd (xr_neg_ge (of_decide_eq_false e3.symm)) hc)
        | false =>
          have e0 : t0 = true := by cases t0 <;> simp_all
          rw [e0] at e3
          have hz := hN rfl
          rw [hz] at k
          exact xr_skip_ifCond_ge hx hb hd (xr_pos_ge (of_decide_eq_true e3.symm)) k
      | gt =>
        simp only [xr_test] at ht
        obtain ⟨a, b, e1, e2, e3⟩ := xr_c_ok hF ht
        cases e1
        simp only [xr_sv, List.map_cons, e2]
        simp only [xr_cm] at e3
        cases t with
        | true =>
          refine lv_if_gt hx hb hd (hT rfl) (fun _ => k) (fun hc => absurd (of_decide_eq_true e3.symm) hc)
        | false =>
          have hz := hN rfl
          rw [hz] at k
          exact xr_skip_ifCond_gt hx hb hd (of_decide_eq_false e3.symm) k
      | le =>
        simp only [xr_test, Option.map_eq_some_iff] at ht
        obtain ⟨t0, ht, et⟩ := ht
        obtain ⟨a, b, e1, e2, e3⟩ := xr_c_ok hF ht
        cases e1
        simp only [xr_sv, List.map_cons, e2]
        simp only [xr_cm] at e3
        cases t with
        | true =>
          have e0 : t0 = false := by cases t0 <;> simp_all
          rw [e0] at e3
          exact lv_if_le hx hb hd (hT rfl) (fun _ => k) (fun hc => absurd (xr_neg_le (of_decide_eq_false e3.symm)) hc)
        | false =>
          have e0 : t0 = true := by cases t0 <;> simp_all
          rw [e0] at e3
          have hz := hN rfl
          rw [hz] at k
          exact xr_skip_ifCond_le hx hb hd (xr_pos_le (of_decide_eq_true e3.symm)) k
  case if_icmp cnd off =>
    simp only [xr_pure] at h
    split at h
    · rename_i y x st1
      obtain ⟨t, ht, rfl, rfl, rfl, hT, hN⟩ := xr_brI h
      have k := k ls hl
      cases cnd with
      | eq =>
        simp only [xr_test] at ht
        obtain ⟨a, b, e1, e2, e3⟩ := xr_c_ok hF ht
        simp only [xr_sv, List.map_cons, e1, e2]
        simp only [xr_cm] at e3
        cases t with
        | true =>
          refine lv_icmp_eq hx hb hd (hT rfl) (fun _ => k) (fun hc => absurd (of_decide_eq_true e3.symm) hc)
        | false =>
          have hz := hN rfl
          rw [hz] at k
          exact xr_skip_if_icmp_eq hx hb hd (of_decide_eq_false e3.symm) k
      | ne =>
        simp only [xr_test, Option.map_eq_some_iff] at ht
        obtain ⟨t0, ht, et⟩ := ht
        obtain ⟨a, b, e1, e2, e3⟩ := xr_c_ok hF ht
        simp only [xr_sv, List.map_cons, e1, e2]
        simp only [xr_cm] at e3
        cases t with
        | true =>
          have e0 : t0 = false := by cases t0 <;> simp_all
          rw [e0] at e3
          exact lv_icmp_ne hx hb hd (hT rfl) (fun _ => k) (fun hc => absurd hc (xr_neg_ne (of_decide_eq_false e3.symm)))
        | false =>
          have e0 : t0 = true := by cases t0 <;> simp_all
          rw [e0] at e3
          have hz := hN rfl
          rw [hz] at k
          exact xr_skip_if_icmp_ne hx hb hd (xr_pos_ne (of_decide_eq_true e3.symm)) k
      | lt =>
        simp only [xr_test] at ht
        obtain ⟨a, b, e1, e2, e3⟩ := xr_c_ok hF ht
        simp only [xr_sv, List.map_cons, e1, e2]
        simp only [xr_cm] at e3
        cases t with
        | true =>
          refine lv_icmp_lt hx hb hd (hT rfl) (fun _ => k) (fun hc => absurd (of_decide_eq_true e3.symm) hc)
        | false =>
          have hz := hN rfl
          rw [hz] at k
          exact xr_skip_if_icmp_lt hx hb hd (of_decide_eq_false e3.symm) k
      | ge =>
        simp only [xr_test, Option.map_eq_some_iff] at ht
        obtain ⟨t0, ht, et⟩ := ht
        obtain ⟨a, b, e1, e2, e3⟩ := xr_c_ok hF ht
        simp only [xr_sv, List.map_cons, e1, e2]
        simp only [xr_cm] at e3
        cases t with
        | true =>
          have e0 : t0 = false := by cases t0 <;> simp_all
          rw [e0] at e3
          exact lv_icmp_ge hx hb hd (hT rfl) (fun _ => k) (fun hc => absurd (xr_neg_ge (of_decide_eq_false e3.symm)) hc)
        | false =>
          have e0 : t0 = true := by cases t0 <;> simp_all
          rw [e0] at e3
          have hz := hN rfl
          rw [hz] at k
          exact xr_skip_if_icmp_ge hx hb hd (xr_pos_ge (of_decide_eq_true e3.symm)) k
      | gt =>
        simp only [xr_test] at ht
        obtain ⟨a, b, e1, e2, e3⟩ := xr_c_ok hF ht
        simp only [xr_sv, List.map_cons, e1, e2]
        simp only [xr_cm] at e3
        cases t with
        | true =>
          refine lv_icmp_gt hx hb hd (hT rfl) (fun _ => k) (fun hc => absurd (of_decide_eq_true e3.symm) hc)
        | false =>
          have hz := hN rfl
          rw [hz] at k
          exact xr_skip_if_icmp_gt hx hb hd (of_decide_eq_false e3.symm) k
      | le =>
        simp only [xr_test, Option.map_eq_some_iff] at ht
        obtain ⟨t0, ht, et⟩ := ht
        obtain ⟨a, b, e1, e2, e3⟩ := xr_c_ok hF ht
        simp only [xr_sv, List.map_cons, e1, e2]
        simp only [xr_cm] at e3
        cases t with
        | true =>
          have e0 : t0 = false := by cases t0 <;> simp_all
          rw [e0] at e3
          exact lv_icmp_le hx hb hd (hT rfl) (fun _ => k) (fun hc => absurd (xr_neg_le (of_decide_eq_false e3.symm)) hc)
        | false =>
          have e0 : t0 = true := by cases t0 <;> simp_all
          rw [e0] at e3
          have hz := hN rfl
          rw [hz] at k
          exact xr_skip_if_icmp_le hx hb hd (xr_pos_le (of_decide_eq_true e3.symm)) k
    · cases h
  case ifnonnull off =>
    simp only [xr_pure] at h
    split at h
    · obtain ⟨rfl, hpc, rfl, rfl, -⟩ := xr_to_ok h
      exact lv_ifnonnull hx hb hd hpc (k ls hl)
    · obtain ⟨rfl, hpc, rfl, rfl, -⟩ := xr_seq_ok h
      have k := k ls hl
      rw [hpc] at k
      exact lv_ifnonnullN hx hb hd k
    · cases h
  case ifnull off =>
    simp only [xr_pure] at h
    split at h
    · obtain ⟨rfl, hpc, rfl, rfl, -⟩ := xr_seq_ok h
      have k := k ls hl
      rw [hpc] at k
      exact lv_ifnull hx hb hd k
    · obtain ⟨rfl, hpc, rfl, rfl, -⟩ := xr_to_ok h
      exact lv_ifnullN hx hb hd hpc (k ls hl)
    · cases h
  case tableswitch dflt lo hi offs =>
    simp only [xr_pure] at h
    unfold xr_sw at h
    split at h
    · rename_i x st1
      cases hc : (decide (x.toInt < lo) || decide (hi < x.toInt)) with
      | true =>
        rw [hc] at h
        obtain ⟨-, hpc, rfl, rfl, -⟩ := xr_to_ok h
        simp only [Bool.or_eq_true, decide_eq_true_eq] at hc
        exact lv_tableOut hx hb hd hc hpc (k ls hl)
      | false =>
        rw [hc] at h
        simp only [cond_false] at h
        simp only [Bool.or_eq_false_iff, decide_eq_false_iff_not] at hc
        cases ho : offs[(x.toInt - lo).toNat]? with
        | none => rw [ho] at h; cases h
        | some off =>
          rw [ho] at h
          obtain ⟨-, hpc, rfl, rfl, -⟩ := xr_to_ok h
          exact lv_tableIn hx hb hd hc.1 hc.2 ho hpc (k ls hl)
    · rename_i n st1
      cases hg : (decide ((Int32.ofInt lo).toInt = lo) && decide ((Int32.ofInt hi).toInt = hi)) with
      | false => rw [hg] at h; cases h
      | true =>
        rw [hg] at h
        simp only [cond_true] at h
        simp only [Bool.and_eq_true, decide_eq_true_eq] at hg
        split at h
        · rename_i hf
          obtain ⟨a, b, e1, e2, e3⟩ := xr_fx_ok hF hf
          obtain ⟨-, hpc, rfl, rfl, -⟩ := xr_to_ok h
          cases e1
          cases e2
          have hlt := Int32.lt_iff_toInt_lt.mp (of_decide_eq_true (show decide (ep n < Int32.ofInt lo) = true from e3.symm))
          exact lv_tableOut hx hb hd (Or.inl (by rw [hg.1] at hlt; exact hlt)) hpc (k ls hl)
        · split at h
          · rename_i hf
            obtain ⟨a, b, e1, e2, e3⟩ := xr_fx_ok hF hf
            obtain ⟨-, hpc, rfl, rfl, -⟩ := xr_to_ok h
            cases e1
            cases e2
            have hlt := Int32.lt_iff_toInt_lt.mp (of_decide_eq_true (show decide (Int32.ofInt hi < ep n) = true from e3.symm))
            exact lv_tableOut hx hb hd (Or.inr (by rw [hg.2] at hlt; exact hlt)) hpc (k ls hl)
          · cases h
    · cases h
  case lookupswitch dflt ps =>
    simp only [xr_pure] at h
    unfold xr_lk at h
    split at h
    · rename_i x st1
      cases hc : (ps.toList.zip (ps.toList.drop 1)).all (fun (a, next) => a.1 < next.1) with
      | false => rw [hc] at h; cases h
      | true =>
        rw [hc] at h
        simp only [cond_true] at h
        split at h
        · obtain ⟨-, hpc, rfl, rfl, -⟩ := xr_to_ok h
          exact lv_lookup hx hb hd hc rfl hpc (k ls hl)
        · obtain ⟨-, hpc, rfl, rfl, -⟩ := xr_to_ok h
          exact lv_lookup hx hb hd hc rfl hpc (k ls hl)
    · cases h
  all_goals exact absurd (show (none : Option xr_S) = some _ from h) (fun z => by cases z)
end XRQ
end
section
/-! the tables' words, by their places; the world's cells -/
def xr_tb : List Cond := lw_tbl.filter goodWord
def xr_has (h : Nat) (w : Cond) : Bool := decide (lw_tbl[h]? = some w) && goodWord w
theorem xr_has_ok {h : Nat} {w : Cond} (q : xr_has h w = true) : w ∈ xr_tb := by
  simp only [xr_has, Bool.and_eq_true, decide_eq_true_eq] at q
  exact List.mem_filter.mpr ⟨List.mem_of_getElem? q.1, q.2⟩
theorem xr_tb_good {w : Cond} (h : w ∈ xr_tb) : w ∈ xr_tb ∧ ((w.onTables && w.keeps) = true ∨ ∃ ty, w = .arrayClass ty) := ⟨h, good_of_word (List.mem_filter.mp h).2⟩
def xr_hasAll : List Cond → List Nat → Bool
  | [], _ => true
  | w :: t, h :: u => xr_has h w && xr_hasAll t u
  | _ :: _, [] => false
theorem xr_hasAll_ok : ∀ {ws : List Cond} {hs : List Nat}, xr_hasAll ws hs = true → ∀ w ∈ ws, w ∈ xr_tb
  | [], _, _, w, h => by cases h
  | a :: t, [], q, w, h => by simp [xr_hasAll] at q
  | a :: t, b :: u, q, w, h => by
    simp only [xr_hasAll, Bool.and_eq_true] at q
    rcases List.mem_cons.mp h with rfl | h
    · exact xr_has_ok q.1
    · exact xr_hasAll_ok q.2 w h
abbrev xr_ty (cy : Nat → ClassId) : List (ClassId × FieldType) := [(cy 0, .int), (cy 1, .byte), (cy 2, .long), (cy 3, .array .int)]
def xr_ft (ci : Nat) : Nat → FieldType := match ci with
  | 0 => tyX0
  | 1 => tyX1
  | 2 => tyX2
  | 3 => tyX3
  | 4 => tyX4
  | 5 => tyX5
  | 6 => tyX6
  | 7 => tyX7
  | 8 => tyX8
  | 9 => tyX9
  | 10 => tyX10
  | 11 => tyX11
  | _ => tyX12
def xr_nw (ci : Nat) : List Value := match ci with
  | 0 => [.int 0, .int 0, .int 0, .null, .null]
  | 1 => [.int 0, .null, .null, .int 0, .null, .null]
  | 2 => [.null, .int 0, .null, .int 0, .null, .int 0]
  | 3 => [.int 0, .int 0, .int 0, .int 0, .int 0, .int 0, .int 0, .long 0, .null, .null, .null, .null, .null, .null, .null, .null]
  | 4 => [.int 0, .int 0, .int 0, .int 0, .null, .null, .int 0, .int 0, .int 0, .null, .null, .null, .int 0, .null, .null, .null, .null, .null]
  | 5 => [.null, .null, .int 0, .null, .null]
  | 6 => [.null, .null, .null, .null, .int 0, .int 0]
  | 7 => [.int 0, .int 0, .int 0, .int 0, .null, .null, .null, .null, .null, .null, .null, .null, .int 0, .int 0, .int 0]
  | 8 => [.null, .int 0, .int 0, .int 0, .int 0, .int 0, .int 0, .int 0, .int 0]
  | 9 => [.int 0, .int 0, .int 0, .null, .null, .null, .null, .int 0]
  | 10 => [.null, .null, .null, .null]
  | 11 => [.null, .null, .null, .null, .null, .null, .null, .null, .null, .null, .null, .null, .int 0, .int 0, .int 0]
  | _ => [.int 0, .int 0, .int 0, .int 0, .int 0, .int 0, .int 0, .int 0, .int 0, .null, .null, .null, .null, .null, .null, .null, .null, .null, .null, .null, .int 0, .int 0, .null, .null, .null, .null, .null, .null, .null, .int 0, .null, .null, .null, .null, .int 0, .int 0, .int 0, .int 0, .int 0, .null, .int 0, .int 0, .null, .null, .null, .int 0, .int 0, .int 0, .int 0]
theorem xr_in0 : ∀ w ∈ u_ws RX0 TX0 5, w ∈ xr_tb := xr_hasAll_ok (hs := [477, 479, 481, 483, 485]) (by decide +kernel)
theorem xr_in1 : ∀ w ∈ u_ws RX1 TX1 6, w ∈ xr_tb := xr_hasAll_ok (hs := [385, 387, 389, 391, 393, 395]) (by decide +kernel)
theorem xr_in2 : ∀ w ∈ u_ws RX2 TX2 6, w ∈ xr_tb := xr_hasAll_ok (hs := [356, 358, 360, 362, 364, 366]) (by decide +kernel)
theorem xr_in3 : ∀ w ∈ u_ws RX3 TX3 16, w ∈ xr_tb := xr_hasAll_ok (hs := [545, 547, 549, 551, 553, 555, 557, 559, 561, 563, 565, 567, 569, 571, 573, 575]) (by decide +kernel)
theorem xr_in4 : ∀ w ∈ u_ws RX4 TX4 18, w ∈ xr_tb := xr_hasAll_ok (hs := [426, 428, 430, 432, 434, 436, 438, 440, 442, 444, 446, 448, 450, 452, 454, 456, 458, 460]) (by decide +kernel)
theorem xr_in5 : ∀ w ∈ u_ws RX5 TX5 5, w ∈ xr_tb := xr_hasAll_ok (hs := [759, 761, 763, 765, 767]) (by decide +kernel)
theorem xr_in6 : ∀ w ∈ u_ws RX6 TX6 6, w ∈ xr_tb := xr_hasAll_ok (hs := [211, 213, 215, 217, 219, 221]) (by decide +kernel)
theorem xr_in7 : ∀ w ∈ u_ws RX7 TX7 15, w ∈ xr_tb := xr_hasAll_ok (hs := [311, 313, 315, 317, 319, 321, 323, 325, 327, 329, 331, 333, 335, 337, 339]) (by decide +kernel)
theorem xr_in8 : ∀ w ∈ u_ws RX8 TX8 9, w ∈ xr_tb := xr_hasAll_ok (hs := [179, 181, 183, 185, 187, 189, 191, 193, 195]) (by decide +kernel)
theorem xr_in9 : ∀ w ∈ u_ws RX9 TX9 8, w ∈ xr_tb := xr_hasAll_ok (hs := [269, 271, 273, 275, 277, 279, 281, 283]) (by decide +kernel)
theorem xr_in10 : ∀ w ∈ u_ws RX10 TX10 4, w ∈ xr_tb := xr_hasAll_ok (hs := [243, 245, 247, 249]) (by decide +kernel)
theorem xr_in11 : ∀ w ∈ u_ws RX11 TX11 15, w ∈ xr_tb := xr_hasAll_ok (hs := [622, 624, 626, 628, 630, 632, 634, 636, 638, 640, 642, 644, 646, 648, 650]) (by decide +kernel)
theorem xr_in12 : ∀ w ∈ u_ws RX12 TX12 49, w ∈ xr_tb := xr_hasAll_ok (hs := [1677, 1679, 1681, 1683, 1685, 1687, 1689, 1691, 1693, 1695, 1697, 1699, 1701, 1703, 1705, 1707, 1709, 1711, 1713, 1715, 1717, 1719, 1721, 1723, 1725, 1727, 1729, 1731, 1733, 1735, 1737, 1739, 1741, 1743, 1745, 1747, 1749, 1751, 1753, 1755, 1757, 1759, 1761, 1763, 1765, 1767, 1769, 1771, 1773]) (by decide +kernel)
theorem xr_cls {ci : Nat} {C : String} {T : u_T} {N : Nat} (h : vwCl[ci]? = some (C, T, N)) : (∀ k, k < N → parseFieldDescriptor (T k).2.2.1 = some (xr_ft ci k)) ∧ (∀ a, a < N → ∀ b, b < N → a ≠ b → (T a).2.1 ≠ (T b).2.1) ∧ (∀ w ∈ u_ws C T N, w ∈ xr_tb) ∧ (∀ j, j < N → defaultValue (xr_ft ci j) = vp_V (xr_nw ci) j) ∧ (xr_nw ci).length = N := by
  match ci, h with
  | 0, h => cases h; exact ⟨tyX0_ok, nmX0, xr_in0, by decide +kernel, rfl⟩
  | 1, h => cases h; exact ⟨tyX1_ok, nmX1, xr_in1, by decide +kernel, rfl⟩
  | 2, h => cases h; exact ⟨tyX2_ok, nmX2, xr_in2, by decide +kernel, rfl⟩
  | 3, h => cases h; exact ⟨tyX3_ok, nmX3, xr_in3, by decide +kernel, rfl⟩
  | 4, h => cases h; exact ⟨tyX4_ok, nmX4, xr_in4, by decide +kernel, rfl⟩
  | 5, h => cases h; exact ⟨tyX5_ok, nmX5, xr_in5, by decide +kernel, rfl⟩
  | 6, h => cases h; exact ⟨tyX6_ok, nmX6, xr_in6, by decide +kernel, rfl⟩
  | 7, h => cases h; exact ⟨tyX7_ok, nmX7, xr_in7, by decide +kernel, rfl⟩
  | 8, h => cases h; exact ⟨tyX8_ok, nmX8, xr_in8, by decide +kernel, rfl⟩
  | 9, h => cases h; exact ⟨tyX9_ok, nmX9, xr_in9, by decide +kernel, rfl⟩
  | 10, h => cases h; exact ⟨tyX10_ok, nmX10, xr_in10, by decide +kernel, rfl⟩
  | 11, h => cases h; exact ⟨tyX11_ok, nmX11, xr_in11, by decide +kernel, rfl⟩
  | 12, h => cases h; exact ⟨tyX12_ok, nmX12, xr_in12, by decide +kernel, rfl⟩
  | ci + 13, h => simp [vwCl] at h
section XRW
variable {ep : Nat → Int32} {ba : Nat} {sg : Nat → Nat} {cy : Nat → ClassId}
theorem xr_w_get : ∀ (w : List xr_C) (k0 i : Nat), (xr_w ep ba sg cy k0 w)[i]? = (w[i]?).map (fun c => (ba + (k0 + i), xr_e ep ba sg cy c))
  | [], k0, i => by simp [xr_w]
  | c :: t, k0, 0 => by simp [xr_w]
  | c :: t, k0, i + 1 => by
    show (xr_w ep ba sg cy (k0 + 1) t)[i]? = _
    rw [xr_w_get t (k0 + 1) i, show k0 + 1 + i = k0 + (i + 1) by omega]
    simp
theorem xr_w_at {w : List xr_C} {i : Nat} {c : xr_C} (h : w[i]? = some c) : (xr_w ep ba sg cy 0 w)[i]? = some (ba + i, xr_e ep ba sg cy c) := by
  rw [xr_w_get, h, Nat.zero_add]
  rfl
theorem xr_w_set : ∀ (w : List xr_C) (k0 i : Nat) (c : xr_C), (xr_w ep ba sg cy k0 w).set i (ba + (k0 + i), xr_e ep ba sg cy c) = xr_w ep ba sg cy k0 (w.set i c)
  | [], k0, i, c => by simp [xr_w]
  | a :: t, k0, 0, c => by simp [xr_w]
  | a :: t, k0, i + 1, c => by
    show _ :: (xr_w ep ba sg cy (k0 + 1) t).set i (ba + (k0 + (i + 1)), _) = _ :: xr_w ep ba sg cy (k0 + 1) (t.set i c)
    rw [← xr_w_set t (k0 + 1) i c, show k0 + 1 + i = k0 + (i + 1) by omega]
theorem xr_w_app : ∀ (w v : List xr_C) (k0 : Nat), xr_w ep ba sg cy k0 (w ++ v) = xr_w ep ba sg cy k0 w ++ xr_w ep ba sg cy (k0 + w.length) v
  | [], v, k0 => by simp [xr_w]
  | a :: t, v, k0 => by
    show _ :: xr_w ep ba sg cy (k0 + 1) (t ++ v) = _ :: (xr_w ep ba sg cy (k0 + 1) t ++ _)
    rw [xr_w_app t v (k0 + 1), show k0 + 1 + t.length = k0 + (a :: t).length by simp; omega]
theorem xr_w_D (w : List xr_C) : va_D (fun q => ba ≤ q) (xr_w ep ba sg cy 0 w) := by
  have key : ∀ (i : Nat) (q : Nat × va_E), (xr_w ep ba sg cy 0 w)[i]? = some q → q.1 = ba + i := by
    intro i q h
    rw [xr_w_get] at h
    cases hw : w[i]? with
    | none => rw [hw] at h; cases h
    | some c => rw [hw] at h; cases h; show ba + (0 + i) = ba + i; omega
  refine ⟨fun i j p q h1 h2 e => ?_, fun k q h => ?_⟩
  · rw [key i p h1, key j q h2] at e
    omega
  · show ba ≤ q.1
    rw [key k q h]
    omega
end XRW
end
section
/-! reading and writing the world -/
def xr_ix (i : Int32) (n : Nat) : Bool := !decide (i < 0) && Nat.blt i.toNatClampNeg n
theorem xr_ix_ok {i : Int32} {n : Nat} (h : xr_ix i n = true) : vp_in i n := by
  simp only [xr_ix, Bool.and_eq_true, Bool.not_eq_true', decide_eq_false_iff_not] at h
  have h2 : i.toNatClampNeg < n := Nat.le_of_ble_eq_true h.2
  exact fun q => q.elim h.1 (fun z => absurd h2 (Nat.not_lt.mpr z))
def xr_isR (v : Value) : Bool := match v with
  | .ref _ => true
  | .null => true
  | _ => false
def xr_fld (own : String) (idx : Nat) (aux : List Nat) : Bool := match aux with
  | ci :: k :: h :: _ => match vwCl[ci]? with
    | some q => Nat.blt k q.2.2 && xr_has h (.fieldLink own idx (q.2.1 k).1 (q.2.1 k).2.1 (q.2.1 k).2.2.1)
    | none => false
  | _ => false
theorem xr_fld_ok {own : String} {idx : Nat} {aux : List Nat} (h : xr_fld own idx aux = true) : ∃ (ci k : Nat) (u : List Nat) (C : String) (T : u_T) (N : Nat), aux = ci :: k :: u ∧ vwCl[ci]? = some (C, T, N) ∧ k < N ∧ Cond.fieldLink own idx (T k).1 (T k).2.1 (T k).2.2.1 ∈ xr_tb := by
  unfold xr_fld at h
  split at h
  · rename_i ci k hh u
    cases hc : vwCl[ci]? with
    | none => rw [hc] at h; cases h
    | some q =>
      rw [hc] at h
      simp only [Bool.and_eq_true] at h
      obtain ⟨C, T, N⟩ := q
      exact ⟨ci, k, hh :: u, C, T, N, rfl, hc, Nat.le_of_ble_eq_true h.1, xr_has_ok h.2⟩
  · cases h
def xr_fin (own name : String) (aux : List Nat) : Bool := match aux with
  | ci :: k :: _ => match vwCl[ci]? with
    | some q => !(q.2.1 k).2.2.2 || (decide (name = "<init>") && decide ((q.2.1 k).1 = own))
    | none => false
  | _ => false
def xr_fit (ty : FieldType) (v : Value) : Bool := match ty, v with
  | .int, .int _ => true
  | .int, .retAddr _ => true
  | .long, .long _ => true
  | .boolean, .int x => decide (x = 0) || decide (x = 1)
  | .object _, .ref _ => true
  | .object _, .null => true
  | .array _, .ref _ => true
  | .array _, .null => true
  | _, _ => false
theorem xr_fit_ok (ep : Nat → Int32) (ba : Nat) (sg : Nat → Nat) {ty : FieldType} {v : Value} (h : xr_fit ty v = true) : narrow ty (xr_v ep ba sg v) = xr_v ep ba sg v ∧ fits ty (xr_v ep ba sg v) = true := by
  unfold xr_fit at h
  split at h
  · exact ⟨rfl, rfl⟩
  · exact ⟨rfl, rfl⟩
  · exact ⟨rfl, rfl⟩
  · rename_i x
    simp only [Bool.or_eq_true, decide_eq_true_eq] at h
    rcases h with rfl | rfl
    · exact ⟨show narrow .boolean (.int 0) = .int 0 by decide, show fits .boolean (.int 0) = true by decide⟩
    · exact ⟨show narrow .boolean (.int 1) = .int 1 by decide, show fits .boolean (.int 1) = true by decide⟩
  · exact ⟨rfl, rfl⟩
  · exact ⟨rfl, rfl⟩
  · exact ⟨rfl, rfl⟩
  · exact ⟨rfl, rfl⟩
  · cases h
def xr_rda (kd : Nat) (ok : Value → Bool) (d : Value) (w : List xr_C) (r : List xr_En) (pc len : Nat) (l : xr_L) (i : Int32) (a : Nat) (st : List Value) : Option xr_S := match xr_nth w a with
  | some (.inr (k, n, as)) => bif Nat.beq k kd && (xr_ix i n && ok (xr_at as i.toNatClampNeg d)) then xr_seq r pc len 1 l (xr_at as i.toNatClampNeg d :: st) else none
  | _ => none
def xr_rd (scr : Option (List Value)) (r : List xr_En) (pc len : Nat) (aux : List Nat) (l : xr_L) (st : List Value) (w : List xr_C) (i : Instr) : Option xr_S := match i with
  | .getfield _ => match aux, st with
    | ci :: k :: _, .ref a :: st' => match xr_nth w a with
      | some (.inl (cj, fs)) => bif Nat.beq cj ci then (match xr_nth fs k with
        | some v => xr_seq r pc len 3 l (v :: st')
        | none => none) else none
      | _ => none
    | _, _ => none
  | .iaload => match st with
    | .int i :: .ref a :: st' => xr_rda 0 xr_isI (.int 0) w r pc len l i a st'
    | .int i :: .float u :: st' => match scr with
      | some xs => bif decide (u = 0) && xr_ix i xs.length then (match xr_nth xs i.toNatClampNeg with
        | some v => bif xr_isI v then xr_seq r pc len 1 l (v :: st') else none
        | none => none) else none
      | none => none
    | _ => none
  | .baload => match st with
    | .int i :: .ref a :: st' => xr_rda 1 xr_isI (.int 0) w r pc len l i a st'
    | _ => none
  | .laload => match st with
    | .int i :: .ref a :: st' => xr_rda 2 xr_isL (.long 0) w r pc len l i a st'
    | _ => none
  | .aaload => match st with
    | .int i :: .ref a :: st' => xr_rda 3 xr_isR .null w r pc len l i a st'
    | _ => none
  | .arraylength => match st with
    | .ref a :: st' => match xr_nth w a with
      | some (.inr (kd, n, _)) => bif Nat.blt kd 4 then xr_seq r pc len 1 l (.int (Int32.ofNat n) :: st') else none
      | _ => none
    | .float u :: st' => match scr with
      | some xs => bif decide (u = 0) then xr_seq r pc len 1 l (.int (Int32.ofNat xs.length) :: st') else none
      | none => none
    | _ => none
  | _ => none
abbrev xr_T : Type := List xr_En × xr_L × List Value × List xr_C
def xr_wr (o : Option xr_S) (w : List xr_C) : Option xr_T := match o with
  | some q => some (q.1, q.2.1, q.2.2, w)
  | none => none
theorem xr_wr_ok {o : Option xr_S} {w w' : List xr_C} {r : List xr_En} {l : xr_L} {st : List Value} (h : xr_wr o w = some (r, l, st, w')) : o = some (r, l, st) ∧ w = w' := by
  unfold xr_wr at h
  split at h
  · cases h; exact ⟨rfl, rfl⟩
  · cases h
def xr_wta (kd : Nat) (v : Value) (w : List xr_C) (r : List xr_En) (pc len : Nat) (l : xr_L) (i : Int32) (a : Nat) (st : List Value) : Option xr_T := match xr_nth w a with
  | some (.inr (k, n, as)) => bif Nat.beq k kd && xr_ix i n then xr_wr (xr_seq r pc len 1 l st) (xr_set w a (.inr (kd, n, (i.toNatClampNeg, v) :: as))) else none
  | _ => none
def xr_wt (df : xr_D) (r : List xr_En) (pc len : Nat) (aux : List Nat) (l : xr_L) (st : List Value) (w : List xr_C) (i : Instr) : Option xr_T := match i with
  | .putfield _ => match aux, st with
    | ci :: k :: _, v :: .ref a :: st' => match xr_nth w a with
      | some (.inl (cj, fs)) => bif Nat.beq cj ci && (xr_fit (xr_ft ci k) v && Nat.blt k fs.length) then xr_wr (xr_seq r pc len 3 l st') (xr_set w a (.inl (ci, xr_set fs k v))) else none
      | _ => none
    | _, _ => none
  | .iastore => match st with
    | v :: .int i :: .ref a :: st' => bif xr_isI v then xr_wta 0 v w r pc len l i a st' else none
    | _ => none
  | .bastore => match st with
    | x :: .int i :: .ref a :: st' => match xr_bin df 11 x (.int 0) with
      | some v => xr_wta 1 v w r pc len l i a st'
      | none => none
    | _ => none
  | .lastore => match st with
    | v :: .int i :: .ref a :: st' => bif xr_isL v then xr_wta 2 v w r pc len l i a st' else none
    | _ => none
  | _ => none
section XRH
variable {p : Program} {l : Launch} {e : Env} {R : Room} {s : State} {m : MethodId} {args : Array Value} {below : List Frame} {meth : Method} {c : Code} {H : Heap} {locs : List Loc} {cells slots : Nat} {Q : State → Prop}
variable {cc : ByteArray} {ep : Nat → Int32} {ba : Nat} {sg : Nat → Nat} {cy : Nat → ClassId} {D : va_G} {ls : Array Slot} {nL : Nat} {own : String}
def xr_I (D : va_G) (ep : Nat → Int32) (ba : Nat) (sg : Nat → Nat) (cy : Nat → ClassId) (s : State) (w : List xr_C) (b : Bool) (ce : Nat) (H : Heap) (locs : List Loc) : Prop :=
  va_P D vwCl (xr_w ep ba sg cy 0 w) H ∧ va_S (fun q => ba ≤ q) s.heap H locs ∧ ba + w.length ≤ H.size ∧ (b = true → s.heap.size + ce = ba + w.length)
/-- the script that the law reads -/
def xr_Sc (ep : Nat → Int32) (ba : Nat) (sg : Nat → Nat) (s : State) (scr : Option (List Value)) : Prop := ∀ xs, scr = some xs → va_X (sg 0) xs.length (fun j => xr_i (xr_v ep ba sg (xs.getD j (.int 0)))) s s.heap ∧ sg 0 < s.heap.size ∧ sg 0 < ba
theorem xr_iv (v : Value) (h : xr_isI v = true) : Value.int (xr_i (xr_v ep ba sg v)) = xr_v ep ba sg v := by
  obtain ⟨x, ex⟩ := xr_isI_ok (ep := ep) (ba := ba) (sg := sg) h
  rw [ex]; rfl
theorem xr_lvv (v : Value) (h : xr_isL v = true) : Value.long (xr_l (xr_v ep ba sg v)) = xr_v ep ba sg v := by
  obtain ⟨x, ex⟩ := xr_isL_ok (ep := ep) (ba := ba) (sg := sg) h
  rw [ex]; rfl
theorem xr_rv (v : Value) (h : xr_isR v = true) : va_rf (xr_r (xr_v ep ba sg v)) = xr_v ep ba sg v := by
  cases v <;> first | rfl | (simp [xr_isR] at h)
theorem xr_rdaI {kd : Nat} {ok : Value → Bool} {d : Value} {w : List xr_C} {r r' : List xr_En} {pc len : Nat} {lv l' : xr_L} {i : Int32} {a : Nat} {st st' : List Value} (h : xr_rda kd ok d w r pc len lv i a st = some (r', l', st')) : ∃ n as, w[a]? = some (.inr (kd, n, as)) ∧ vp_in i n ∧ ok (xr_at as i.toNatClampNeg d) = true ∧ len = 1 ∧ xr_pc r' = pc + 1 ∧ lv = l' ∧ xr_at as i.toNatClampNeg d :: st = st' := by
  unfold xr_rda at h
  rw [xr_nth_eq] at h
  split at h
  · rename_i k n as hw
    cases hc : (Nat.beq k kd && (xr_ix i n && ok (xr_at as i.toNatClampNeg d))) with
    | false => rw [hc] at h; cases h
    | true =>
      rw [hc] at h
      obtain ⟨h1, h2, h3, h4, -⟩ := xr_seq_ok h
      simp only [Bool.and_eq_true] at hc
      have hk := Nat.eq_of_beq_eq_true hc.1
      subst hk
      exact ⟨n, as, hw, xr_ix_ok hc.2.1, hc.2.2, h1, h2, h3, h4⟩
  · cases h
set_option maxHeartbeats 4000000 in
theorem xr_rd_ok {scr : Option (List Value)} {r r' : List xr_En} {pc len : Nat} {aux : List Nat} {lv l' : xr_L} {st st' : List Value} {w : List xr_C} {b : Bool} {ce : Nat} {i : Instr} (h : xr_rd scr r pc len aux lv st w i = some (r', l', st')) (hx : p.tables.exec = Jvm.exec) (hb : c.code = cc) (hd : decode cc pc = .ok (i, len)) (hown : s.vm.findClass own = some m.cls) (hts : ∀ w ∈ xr_tb, w.before args s = true) (hK : va_K D vwCl (xr_ty cy) s) (hI : xr_I D ep ba sg cy s w b ce H locs) (hsc : xr_Sc ep ba sg s scr) (hf : ∀ idx, i = .getfield idx → xr_fld own idx aux = true) (hl : lv_has ls nL (xr_lv ep ba sg lv))
    (k : xr_K p l e R s m args below meth c H locs cells slots Q ep ba sg nL r' l' st') : W p l e R s m args below meth c H locs cells slots Q (F0 m pc ls (xr_sv ep ba sg st)) := by
  obtain ⟨hP, hS, hz, hsz⟩ := hI
  cases i
  case getfield idx =>
    obtain ⟨ci, kf, u, C, T, N, rfl, hc, hk, hw⟩ := xr_fld_ok (hf idx rfl)
    simp only [xr_rd, xr_nth_eq] at h
    split at h
    · rename_i ci' k' u' a st1 heq
      cases heq
      split at h
      · rename_i cj fs hwa
        cases hcj : Nat.beq cj ci with
        | false => rw [hcj] at h; cases h
        | true =>
          rw [hcj] at h
          have hcj := Nat.eq_of_beq_eq_true hcj
          subst hcj
          simp only [cond_true] at h
          cases hv : fs[kf]? with
          | none => rw [hv] at h; cases h
          | some v =>
            rw [hv] at h
            obtain ⟨rfl, hpc, rfl, rfl, -⟩ := xr_seq_ok h
            have k := k ls hl
            rw [hpc] at k
            exact va_get (q0 := a) (k := kf) hx hb hts (xr_cls hc).2.2.1 hown hK hP (xr_w_at hwa) hc hk (hts _ hw) (fun _ h => h) (v := xr_v ep ba sg v) (by rw [List.getElem?_map, hv]; rfl) hd k
      · cases h
    · cases h
  case iaload =>
    simp only [xr_rd, xr_nth_eq] at h
    split at h
    · rename_i i a st1
      obtain ⟨n, as, hwa, hin, hok, rfl, hpc, rfl, rfl⟩ := xr_rdaI h
      have k := k ls hl
      rw [hpc] at k
      refine va_iald (q0 := a) (t0 := 0) hx hb hK hP (xr_w_at hwa) rfl hin hd ?_
      rw [xr_iv _ hok]
      exact k
    · rename_i i u st1
      split at h
      · rename_i xs
        cases hc : (decide (u = 0) && xr_ix i xs.length) with
        | false => rw [hc] at h; cases h
        | true =>
          rw [hc] at h
          simp only [cond_true] at h
          simp only [Bool.and_eq_true, decide_eq_true_eq] at hc
          obtain ⟨rfl, hix⟩ := hc
          cases hv : xs[i.toNatClampNeg]? with
          | none => rw [hv] at h; cases h
          | some v =>
            rw [hv] at h
            simp only at h
            cases hi : xr_isI v with
            | false => rw [hi] at h; cases h
            | true =>
              rw [hi] at h
              obtain ⟨rfl, hpc, rfl, rfl, -⟩ := xr_seq_ok h
              have k := k ls hl
              rw [hpc] at k
              obtain ⟨hX, hbl, hlt⟩ := hsc xs rfl
              refine va_sld (A := fun q => ba ≤ q) hx hb hX hbl (Nat.not_le.mpr hlt) hS (xr_ix_ok hix) hd ?_
              have e9 : xs.getD i.toNatClampNeg (.int 0) = v := by rw [List.getD_eq_getElem?_getD, hv]; rfl
              rw [e9, xr_iv _ hi]
              exact k
      · cases h
    · cases h
  case baload =>
    simp only [xr_rd, xr_nth_eq] at h
    split at h
    · rename_i i a st1
      obtain ⟨n, as, hwa, hin, hok, rfl, hpc, rfl, rfl⟩ := xr_rdaI h
      have k := k ls hl
      rw [hpc] at k
      refine va_bald (q0 := a) (t0 := 1) hx hb hK hP (xr_w_at hwa) rfl hin hd ?_
      rw [xr_iv _ hok]
      exact k
    · cases h
  case laload =>
    simp only [xr_rd, xr_nth_eq] at h
    split at h
    · rename_i i a st1
      obtain ⟨n, as, hwa, hin, hok, rfl, hpc, rfl, rfl⟩ := xr_rdaI h
      have k := k ls hl
      rw [hpc] at k
      refine va_lald (q0 := a) (t0 := 2) hx hb hK hP (xr_w_at hwa) rfl hin hd ?_
      rw [xr_lvv _ hok]
      exact k
    · cases h
  case aaload =>
    simp only [xr_rd, xr_nth_eq] at h
    split at h
    · rename_i i a st1
      obtain ⟨n, as, hwa, hin, hok, rfl, hpc, rfl, rfl⟩ := xr_rdaI h
      have k := k ls hl
      rw [hpc] at k
      have hcell : H[ba + a]? = some (arrV (cy 3) n (fun j => va_rf (xr_r (xr_v ep ba sg (xr_at as j .null))))) := hP a _ (xr_w_at hwa)
      have hlt : i.toNatClampNeg < n := Nat.not_le.mp fun q => hin (Or.inr q)
      refine W.aald (v := va_rf (xr_r (xr_v ep ba sg (xr_at as i.toNatClampNeg .null)))) (ty := .array .int) hx hb hcell ((hK.2 3 _ rfl).1 n (fun j => va_rf (xr_r (xr_v ep ba sg (xr_at as j .null))))) rfl (fun q => by cases q) (by rw [arrV_size]; exact hin) (by rw [arrV_read _ _ hlt]) rfl rfl hd ?_
      rw [xr_rv _ hok]
      exact k
    · cases h
  case arraylength =>
    simp only [xr_rd, xr_nth_eq] at h
    split at h
    · rename_i a st1
      split at h
      · rename_i kd n as hwa
        cases hk4 : Nat.blt kd 4 with
        | false => rw [hk4] at h; cases h
        | true =>
          rw [hk4] at h
          obtain ⟨rfl, hpc, rfl, rfl, -⟩ := xr_seq_ok h
          have k := k ls hl
          rw [hpc] at k
          have h4 : kd < 4 := Nat.le_of_ble_eq_true hk4
          have hn : (xr_A ep ba sg kd n as).1 = n := by unfold xr_A; split <;> rfl
          rcases (show kd = 0 ∨ kd = 1 ∨ kd = 2 ∨ kd = 3 by omega) with rfl | rfl | rfl | rfl
          · exact va_alen (q0 := a) (t0 := 0) hx hb hK hP (xr_w_at hwa) rfl (by rw [hn]) hd k
          · exact va_alen (q0 := a) (t0 := 1) hx hb hK hP (xr_w_at hwa) rfl (by rw [hn]) hd k
          · exact va_alen (q0 := a) (t0 := 2) hx hb hK hP (xr_w_at hwa) rfl (by rw [hn]) hd k
          · exact va_alen (q0 := a) (t0 := 3) hx hb hK hP (xr_w_at hwa) rfl (by rw [hn]) hd k
      · cases h
    · rename_i u st1
      split at h
      · rename_i xs
        cases hu : decide (u = 0) with
        | false => rw [hu] at h; cases h
        | true =>
          rw [hu] at h
          obtain ⟨rfl, hpc, rfl, rfl, -⟩ := xr_seq_ok h
          have k := k ls hl
          rw [hpc] at k
          have hu := of_decide_eq_true hu
          subst hu
          obtain ⟨hX, hbl, hlt⟩ := hsc xs rfl
          exact va_slen (A := fun q => ba ≤ q) hx hb hX hbl (Nat.not_le.mpr hlt) hS hd k
      · cases h
    · cases h
  all_goals exact absurd (show (none : Option xr_S) = some _ from h) (fun z => by cases z)
end XRH
end
section
section XRV
variable {p : Program} {l : Launch} {e : Env} {R : Room} {s : State} {m : MethodId} {args : Array Value} {below : List Frame} {meth : Method} {c : Code} {H : Heap} {locs : List Loc} {cells slots : Nat} {Q : State → Prop}
variable {cc : ByteArray} {ep : Nat → Int32} {ba : Nat} {sg : Nat → Nat} {cy : Nat → ClassId} {D : va_G} {ls : Array Slot} {nL : Nat} {own : String}
theorem xr_S_rf {A : Nat → Prop} {H0 H : Heap} {locs : List Loc} (h : va_S A H0 H locs) : va_S A H H locs := ⟨Nat.le_refl _, fun _ _ _ => rfl, h.2.2⟩
theorem xr_S_tr {A : Nat → Prop} {H0 H H1 : Heap} {locs locs1 : List Loc} (h : va_S A H0 H locs) (h1 : va_S A H H1 locs1) : va_S A H0 H1 locs1 := ⟨Nat.le_trans h.1 h1.1, fun q g1 g2 => (h1.2.1 q (Nat.lt_of_lt_of_le g1 h.1) g2).trans (h.2.1 q g1 g2), h1.2.2⟩
/-- what is owed behind an instruction that writes -/
abbrev xr_KW (p : Program) (l : Launch) (e : Env) (R : Room) (s : State) (m : MethodId) (args : Array Value) (below : List Frame) (meth : Method) (c : Code) (cells slots : Nat) (Q : State → Prop) (D : va_G) (ep : Nat → Int32) (ba : Nat) (sg : Nat → Nat) (cy : Nat → ClassId) (nL : Nat) (r' : List xr_En) (l' : xr_L) (st' : List Value) (w' : List xr_C) (b : Bool) (ce : Nat) : Prop :=
  ∀ (H' : Heap) (locs' : List Loc) (ls' : Array Slot), xr_I D ep ba sg cy s w' b ce H' locs' → lv_has ls' nL (xr_lv ep ba sg l') → W p l e R s m args below meth c H' locs' cells slots Q (F0 m (xr_pc r') ls' (xr_sv ep ba sg st'))
theorem xr_I_set {w : List xr_C} {b : Bool} {ce : Nat} {a : Nat} {e : xr_C} {H1 : Heap} {locs1 : List Loc} (hI : xr_I D ep ba sg cy s w b ce H locs) (hP : va_P D vwCl ((xr_w ep ba sg cy 0 w).set a (ba + a, xr_e ep ba sg cy e)) H1) (hS1 : va_S (fun q => ba ≤ q) H H1 locs1) : xr_I D ep ba sg cy s (w.set a e) b ce H1 locs1 := by
  refine ⟨?_, xr_S_tr hI.2.1 hS1, ?_, ?_⟩
  · rw [← xr_w_set w 0 a e, Nat.zero_add]
    exact hP
  · rw [List.length_set]
    exact Nat.le_trans hI.2.2.1 hS1.1
  · rw [List.length_set]
    exact hI.2.2.2
theorem xr_wtaI {kd : Nat} {v : Value} {w w' : List xr_C} {r r' : List xr_En} {pc len : Nat} {lv l' : xr_L} {i : Int32} {a : Nat} {st st' : List Value} (h : xr_wta kd v w r pc len lv i a st = some (r', l', st', w')) : ∃ n as, w[a]? = some (.inr (kd, n, as)) ∧ vp_in i n ∧ len = 1 ∧ xr_pc r' = pc + 1 ∧ lv = l' ∧ st = st' ∧ w.set a (.inr (kd, n, (i.toNatClampNeg, v) :: as)) = w' := by
  unfold xr_wta at h
  simp only [xr_nth_eq, xr_set_eq] at h
  split at h
  · rename_i k n as hw
    cases hc : (Nat.beq k kd && xr_ix i n) with
    | false => rw [hc] at h; cases h
    | true =>
      rw [hc] at h
      obtain ⟨h, hw2⟩ := xr_wr_ok h
      obtain ⟨h1, h2, h3, h4, -⟩ := xr_seq_ok h
      simp only [Bool.and_eq_true] at hc
      have hk := Nat.eq_of_beq_eq_true hc.1
      subst hk
      exact ⟨n, as, hw, xr_ix_ok hc.2, h1, h2, h3, h4, hw2⟩
  · cases h
theorem xr_upd_i {as : xr_L} {j : Nat} {v : Value} {x : Int32} (hv : xr_v ep ba sg v = .int x) : upd (fun q => xr_i (xr_v ep ba sg (xr_at as q (.int 0)))) j x = fun q => xr_i (xr_v ep ba sg (xr_at ((j, v) :: as) q (.int 0))) := by
  funext q
  unfold upd
  show _ = xr_i (xr_v ep ba sg (bif Nat.beq q j then v else xr_at as q (.int 0)))
  by_cases hq : q = j
  · subst hq
    rw [if_pos rfl, show Nat.beq q q = true from Nat.beq_refl q, cond_true, hv]
    rfl
  · rw [if_neg hq, show Nat.beq q j = false from Bool.eq_false_iff.mpr (fun h => hq (Nat.eq_of_beq_eq_true h)), cond_false]
theorem xr_upd_l {as : xr_L} {j : Nat} {v : Value} {x : Int64} (hv : xr_v ep ba sg v = .long x) : vp_updL (fun q => xr_l (xr_v ep ba sg (xr_at as q (.long 0)))) j x = fun q => xr_l (xr_v ep ba sg (xr_at ((j, v) :: as) q (.long 0))) := by
  funext q
  unfold vp_updL
  show _ = xr_l (xr_v ep ba sg (bif Nat.beq q j then v else xr_at as q (.long 0)))
  by_cases hq : q = j
  · subst hq
    rw [if_pos rfl, show Nat.beq q q = true from Nat.beq_refl q, cond_true, hv]
    rfl
  · rw [if_neg hq, show Nat.beq q j = false from Bool.eq_false_iff.mpr (fun h => hq (Nat.eq_of_beq_eq_true h)), cond_false]
set_option maxHeartbeats 4000000 in
theorem xr_wt_ok {df : xr_D} (hD : xr_okD ep ba sg df) {r r' : List xr_En} {pc len : Nat} {aux : List Nat} {lv l' : xr_L} {st st' : List Value} {w w' : List xr_C} {b : Bool} {ce : Nat} {i : Instr} (h : xr_wt df r pc len aux lv st w i = some (r', l', st', w')) (hx : p.tables.exec = Jvm.exec) (hb : c.code = cc) (hd : decode cc pc = .ok (i, len)) (hown : s.vm.findClass own = some m.cls) (hts : ∀ w ∈ xr_tb, w.before args s = true) (hK : va_K D vwCl (xr_ty cy) s) (hI : xr_I D ep ba sg cy s w b ce H locs) (hf : ∀ idx, i = .putfield idx → xr_fld own idx aux = true ∧ xr_fin own meth.name aux = true) (hl : lv_has ls nL (xr_lv ep ba sg lv))
    (k : xr_KW p l e R s m args below meth c cells slots Q D ep ba sg cy nL r' l' st' w' b ce) : W p l e R s m args below meth c H locs cells slots Q (F0 m pc ls (xr_sv ep ba sg st)) := by
  have hP := hI.1
  have hS := hI.2.1
  cases i
  case putfield idx =>
    obtain ⟨ci, kf, u, C, T, N, rfl, hc, hk, hw⟩ := xr_fld_ok (hf idx rfl).1
    have hfin := (hf idx rfl).2
    simp only [xr_fin, hc] at hfin
    simp only [xr_wt, xr_nth_eq, xr_set_eq] at h
    split at h
    · rename_i ci' k' u' v a st1 heq
      cases heq
      split at h
      · rename_i cj fs hwa
        cases hcj : (Nat.beq cj ci && (xr_fit (xr_ft ci kf) v && Nat.blt kf fs.length)) with
        | false => rw [hcj] at h; cases h
        | true =>
          rw [hcj] at h
          simp only [Bool.and_eq_true] at hcj
          obtain ⟨hcj, hft, hlt⟩ := hcj
          have hcj := Nat.eq_of_beq_eq_true hcj
          subst hcj
          obtain ⟨hq, rfl⟩ := xr_wr_ok h
          obtain ⟨rfl, hpc, rfl, rfl, -⟩ := xr_seq_ok hq
          have hlt : kf < fs.length := Nat.le_of_ble_eq_true hlt
          obtain ⟨hn, hft⟩ := xr_fit_ok ep ba sg hft
          obtain ⟨hty, hnm, hin, -, -⟩ := xr_cls hc
          have kk : ∀ (H1 : Heap) (locs1 : List Loc), va_P D vwCl ((xr_w ep ba sg cy 0 w).set a (ba + a, .inr (cj, (fs.map (xr_v ep ba sg)).set kf (xr_v ep ba sg v)))) H1 → va_D (fun q => ba ≤ q) ((xr_w ep ba sg cy 0 w).set a (ba + a, .inr (cj, (fs.map (xr_v ep ba sg)).set kf (xr_v ep ba sg v)))) → va_S (fun q => ba ≤ q) H H1 locs1 → W p l e R s m args below meth c H1 locs1 cells slots Q (F0 m (pc + 3) ls (xr_sv ep ba sg st1)) := by
            intro H1 locs1 hP1 _ hS1
            have k := k H1 locs1 ls (xr_I_set (e := .inl (cj, fs.set kf v)) hI (by
              have e9 : xr_e ep ba sg cy (.inl (cj, fs.set kf v)) = .inr (cj, (fs.map (xr_v ep ba sg)).set kf (xr_v ep ba sg v)) := by
                show Sum.inr (cj, (fs.set kf v).map (xr_v ep ba sg)) = _
                rw [List.map_set]
              rw [e9]
              exact hP1) hS1) hl
            rw [hpc] at k
            exact k
          cases hT : (T kf).2.2.2 with
          | false => exact va_put (q0 := a) (k := kf) (H0 := H) hx hb hts hin (xr_ft cj) hty hnm hown hK hP (xr_w_D w) (xr_S_rf hS) (xr_w_at hwa) hc hk (hts _ hw) (fun _ h => h) hT (hty kf hk) hn hft (by rw [List.length_map]; exact hlt) hd kk
          | true =>
            rw [hT] at hfin
            simp only [Bool.not_true, Bool.false_or, Bool.and_eq_true, decide_eq_true_eq] at hfin
            exact va_putF (q0 := a) (k := kf) (H0 := H) hx hb hts hin (xr_ft cj) hty hnm hown hK hP (xr_w_D w) (xr_S_rf hS) (xr_w_at hwa) hc hk (hts _ hw) (fun _ h => h) hT hfin.1 hfin.2 (hty kf hk) hn hft (by rw [List.length_map]; exact hlt) hd kk
      · cases h
    · cases h
  case iastore =>
    simp only [xr_wt, xr_nth_eq, xr_set_eq] at h
    split at h
    · rename_i v i a st1
      cases hi : xr_isI v with
      | false => rw [hi] at h; cases h
      | true =>
        rw [hi] at h
        obtain ⟨n, as, hwa, hin, rfl, hpc, rfl, rfl, rfl⟩ := xr_wtaI h
        obtain ⟨x, ex⟩ := xr_isI_ok (ep := ep) (ba := ba) (sg := sg) hi
        simp only [xr_sv, List.map_cons, ex]
        refine va_iast (q0 := a) (t0 := 0) (H0 := H) hx hb hK hP (xr_w_D w) (xr_S_rf hS) (xr_w_at hwa) rfl hin hd (fun H1 locs1 hP1 _ hS1 => ?_)
        rw [xr_upd_i ex] at hP1
        have k := k H1 locs1 ls (xr_I_set (e := .inr (0, n, (i.toNatClampNeg, v) :: as)) hI hP1 hS1) hl
        rw [hpc] at k
        exact k
    · cases h
  case bastore =>
    simp only [xr_wt, xr_nth_eq, xr_set_eq] at h
    split at h
    · rename_i y i a st1
      cases hv : xr_bin df 11 y (.int 0) with
      | none => rw [hv] at h; cases h
      | some v =>
        rw [hv] at h
        obtain ⟨n, as, hwa, hin, rfl, hpc, rfl, rfl, rfl⟩ := xr_wtaI h
        obtain ⟨x, z, ex, ez, ev⟩ := xr_bin_ok hD hv
        cases ez
        simp only [xr_sv, List.map_cons, ex]
        refine va_bast (q0 := a) (t0 := 1) (H0 := H) hx hb hK hP (xr_w_D w) (xr_S_rf hS) (xr_w_at hwa) rfl hin hd (fun H1 locs1 hP1 _ hS1 => ?_)
        rw [show vp_nar .byte x = xr_op 11 x 0 from rfl, xr_upd_i ev] at hP1
        have k := k H1 locs1 ls (xr_I_set (e := .inr (1, n, (i.toNatClampNeg, v) :: as)) hI hP1 hS1) hl
        rw [hpc] at k
        exact k
    · cases h
  case lastore =>
    simp only [xr_wt, xr_nth_eq, xr_set_eq] at h
    split at h
    · rename_i v i a st1
      cases hi : xr_isL v with
      | false => rw [hi] at h; cases h
      | true =>
        rw [hi] at h
        obtain ⟨n, as, hwa, hin, rfl, hpc, rfl, rfl, rfl⟩ := xr_wtaI h
        obtain ⟨x, ex⟩ := xr_isL_ok (ep := ep) (ba := ba) (sg := sg) hi
        simp only [xr_sv, List.map_cons, ex]
        refine va_last (q0 := a) (t0 := 2) (H0 := H) hx hb hK hP (xr_w_D w) (xr_S_rf hS) (xr_w_at hwa) rfl hin hd (fun H1 locs1 hP1 _ hS1 => ?_)
        rw [xr_upd_l ex] at hP1
        have k := k H1 locs1 ls (xr_I_set (e := .inr (2, n, (i.toNatClampNeg, v) :: as)) hI hP1 hS1) hl
        rw [hpc] at k
        exact k
    · cases h
  all_goals exact absurd (show (none : Option xr_T) = some _ from h) (fun z => by cases z)
end XRV
end
section
/-! making cells -/
def xr_refs (k0 : Nat) : Nat → xr_L
  | 0 => []
  | n + 1 => (n, .ref (k0 + n)) :: xr_refs k0 n
theorem xr_refs_at (k0 : Nat) : ∀ (n j : Nat), xr_at (xr_refs k0 n) j .null = if j < n then .ref (k0 + j) else .null
  | 0, j => by simp [xr_refs, xr_at]
  | n + 1, j => by
    show (bif Nat.beq j n then Value.ref (k0 + n) else xr_at (xr_refs k0 n) j .null) = _
    rw [xr_refs_at k0 n j]
    by_cases h : j = n
    · subst h
      rw [show Nat.beq j j = true from Nat.beq_refl j, cond_true, if_pos (Nat.lt_succ_self j)]
    · rw [show Nat.beq j n = false from Bool.eq_false_iff.mpr (fun z => h (Nat.eq_of_beq_eq_true z)), cond_false]
      by_cases h2 : j < n
      · rw [if_pos h2, if_pos (by omega)]
      · rw [if_neg h2, if_neg (by omega)]
def xr_kd (t : ArrayType) : Option Nat := match t with
  | .int => some 0
  | .byte => some 1
  | .long => some 2
  | _ => none
abbrev xr_U : Type := List xr_En × xr_L × List Value × List xr_C × Nat × Nat
def xr_wu (o : Option xr_S) (w : List xr_C) (dc ds : Nat) : Option xr_U := match o with
  | some q => some (q.1, q.2.1, q.2.2, w, dc, ds)
  | none => none
theorem xr_wu_ok {o : Option xr_S} {w w' : List xr_C} {dc ds dc' ds' : Nat} {r : List xr_En} {l : xr_L} {st : List Value} (h : xr_wu o w dc ds = some (r, l, st, w', dc', ds')) : o = some (r, l, st) ∧ w = w' ∧ dc = dc' ∧ ds = ds' := by
  unfold xr_wu at h
  split at h
  · cases h; exact ⟨rfl, rfl, rfl, rfl⟩
  · cases h
def xr_al (b : Bool) (r : List xr_En) (pc len : Nat) (aux : List Nat) (l : xr_L) (st : List Value) (w : List xr_C) (i : Instr) : Option xr_U := bif b then (match i with
  | .new _ => match aux with
    | ci :: _ => bif Nat.ble ci 12 then xr_wu (xr_seq r pc len 3 l (.ref w.length :: st)) (w ++ [.inl (ci, xr_nw ci)]) 1 (xr_nw ci).length else none
    | [] => none
  | .newarray t => match st, xr_kd t with
    | .int n :: st', some kd => bif !decide (n < 0) && Nat.ble n.toNatClampNeg 10000 then xr_wu (xr_seq r pc len 2 l (.ref w.length :: st')) (w ++ [.inr (kd, n.toNatClampNeg, [])]) 1 n.toNatClampNeg else none
    | _, _ => none
  | .multianewarray _ d => match st with
    | .int k :: .int n :: st' => bif Nat.beq d 2 && (!decide (n < 0) && (!decide (k < 0) && (Nat.ble n.toNatClampNeg 10000 && Nat.ble k.toNatClampNeg 10000))) then xr_wu (xr_seq r pc len 4 l (.ref w.length :: st')) (w ++ (.inr (3, n.toNatClampNeg, xr_refs (w.length + 1) n.toNatClampNeg) :: List.replicate n.toNatClampNeg (.inr (0, k.toNatClampNeg, [])))) (1 + n.toNatClampNeg) (n.toNatClampNeg + n.toNatClampNeg * k.toNatClampNeg) else none
    | _ => none
  | _ => none) else none
def xr_chn (own : String) (i : Instr) (aux : List Nat) : Bool := match i with
  | .new idx => match aux with
    | ci :: h1 :: h2 :: h3 :: _ => match vwCl[ci]? with
      | some q => xr_has h1 (.classLink own idx q.1) && (xr_has h2 (.instantiable q.1 q.2.2) && xr_has h3 (.initialized q.1))
      | none => false
    | _ => false
  | .newarray t => match aux with
    | h :: _ => xr_has h (.arrayClass (newarray.typeOf t))
    | [] => false
  | .multianewarray idx _ => match aux with
    | h1 :: h2 :: _ => xr_has h1 (.classLink own idx "[[I") && xr_has h2 (.arrayClass .int)
    | _ => false
  | _ => true
section XRA
variable {p : Program} {l : Launch} {e : Env} {R : Room} {s : State} {m : MethodId} {args : Array Value} {below : List Frame} {meth : Method} {c : Code} {H : Heap} {locs : List Loc} {ce sl : Nat} {Q : State → Prop}
variable {cc : ByteArray} {ep : Nat → Int32} {ba : Nat} {sg : Nat → Nat} {cy : Nat → ClassId} {D : va_G} {ls : Array Slot} {nL : Nat} {own : String}
theorem xr_up {g : JFrame} (k : H.size ≤ s.heap.size + ce → W p l e R s m args below meth c H locs ce sl Q g) : W p l e R s m args below meth c H locs ce sl Q g := fun T hT X => k (by rw [← hT]; exact X.heapSize) T hT X
theorem xr_nw_v (ci : Nat) : (xr_nw ci).map (xr_v ep ba sg) = xr_nw ci := by
  unfold xr_nw
  split <;> rfl
theorem xr_I_push {w v : List xr_C} {b : Bool} {dc : Nat} {H1 : Heap} (hI : xr_I D ep ba sg cy s w b ce H locs) (hz : H.size = ba + w.length) (z1 : H1.size = ba + w.length + v.length) (hdc : dc = v.length) (o1 : ∀ q, q < H.size → H1[q]? = H[q]?) (hv : ∀ (k : Nat) (x : xr_C), v[k]? = some x → va_at D vwCl (ba + (w.length + k), xr_e ep ba sg cy x) H1) : xr_I D ep ba sg cy s (w ++ v) b (ce + dc) H1 locs := by
  obtain ⟨hP, hS, hge, hsz⟩ := hI
  refine ⟨?_, ?_, ?_, ?_⟩
  · rw [xr_w_app]
    refine va_P.app (hP.kept (fun k x hx => o1 x.1 ((hP k x hx).lt))) (fun k x hx => ?_)
    rw [xr_w_get] at hx
    cases hk : v[k]? with
    | none => rw [hk] at hx; cases hx
    | some y =>
      rw [hk] at hx
      cases hx
      rw [Nat.zero_add]
      exact hv k y hk
  · exact ⟨Nat.le_trans hS.1 (by omega), fun q h1 h2 => (o1 q (Nat.lt_of_lt_of_le h1 hS.1)).trans (hS.2.1 q h1 h2), hS.2.2⟩
  · rw [List.length_append]; omega
  · intro hb
    have := hsz hb
    rw [List.length_append]; omega
/-- what is owed behind an instruction that makes cells -/
abbrev xr_KA (p : Program) (l : Launch) (e : Env) (R : Room) (s : State) (m : MethodId) (args : Array Value) (below : List Frame) (meth : Method) (c : Code) (Q : State → Prop) (D : va_G) (ep : Nat → Int32) (ba : Nat) (sg : Nat → Nat) (cy : Nat → ClassId) (nL : Nat) (r' : List xr_En) (l' : xr_L) (st' : List Value) (w' : List xr_C) (b : Bool) (ce sl : Nat) : Prop :=
  ∀ (H' : Heap) (locs' : List Loc) (ls' : Array Slot), xr_I D ep ba sg cy s w' b ce H' locs' → lv_has ls' nL (xr_lv ep ba sg l') → W p l e R s m args below meth c H' locs' ce sl Q (F0 m (xr_pc r') ls' (xr_sv ep ba sg st'))
set_option maxHeartbeats 4000000 in
theorem xr_al_ok {b : Bool} {r r' : List xr_En} {pc len : Nat} {aux : List Nat} {lv l' : xr_L} {st st' : List Value} {w w' : List xr_C} {dc ds : Nat} {i : Instr} (h : xr_al b r pc len aux lv st w i = some (r', l', st', w', dc, ds)) (hx : p.tables.exec = Jvm.exec) (hb : c.code = cc) (hd : decode cc pc = .ok (i, len)) (hown : s.vm.findClass own = some m.cls) (hts : ∀ w ∈ xr_tb, w.before args s = true) (hK : va_K D vwCl (xr_ty cy) s) (hI : xr_I D ep ba sg cy s w b ce H locs) (hover : (Cond.arrayOver (.array .int)).before args s = true) (hc : xr_chn own i aux = true) (hR : ce + dc ≤ R.cells ∧ sl + ds ≤ R.slots) (hl : lv_has ls nL (xr_lv ep ba sg lv))
    (k : xr_KA p l e R s m args below meth c Q D ep ba sg cy nL r' l' st' w' b (ce + dc) (sl + ds)) : W p l e R s m args below meth c H locs ce sl Q (F0 m pc ls (xr_sv ep ba sg st)) := by
  unfold xr_al at h
  cases b with
  | false => cases h
  | true =>
    simp only [cond_true] at h
    refine xr_up (fun hup => ?_)
    have hsz : H.size = ba + w.length := by
      have h1 := hI.2.2.1
      have h2 := hI.2.2.2 rfl
      omega
    have hP := hI.1
    cases i
    case new idx =>
      simp only [xr_chn] at hc
      split at hc
      · rename_i ci h1 h2 h3 u
        cases hq : vwCl[ci]? with
        | none => rw [hq] at hc; cases hc
        | some q =>
          obtain ⟨C, T, N⟩ := q
          rw [hq] at hc
          simp only [Bool.and_eq_true] at hc
          simp only at h
          cases h12 : Nat.ble ci 12 with
          | false => rw [h12] at h; cases h
          | true =>
          rw [h12] at h
          obtain ⟨hq9, rfl, rfl, rfl⟩ := xr_wu_ok h
          obtain ⟨rfl, hpc, rfl, rfl, -⟩ := xr_seq_ok hq9
          obtain ⟨hty, hnm, hin, hdf, hlen⟩ := xr_cls hq
          have hKn := hK.1 ci _ hq
          refine W.newcK (h := ba + w.length) hx hb hown (hts _ (xr_has_ok hc.1)) (hts _ (xr_has_ok hc.2.1)) (hts _ (xr_has_ok hc.2.2)) rfl hd hR.1 (by rw [← hlen]; exact hR.2) hKn.2.1 hsz (fun H1 kC hkC e1 z1 o1 => ?_)
          have k := k H1 locs ls (xr_I_push (v := [.inl (ci, xr_nw ci)]) hI hsz z1 rfl (fun q hq => o1 q (by omega)) (fun j x hx => by
            have hj : j < 1 := (List.getElem?_eq_some_iff.mp hx).1
            rw [show j = 0 by omega] at hx
            cases hx
            refine ⟨_, hq, ?_⟩
            rw [show ba + (w.length + j) = ba + w.length by omega]
            refine (u_born (xr_ft ci) hts hin hKn hkC e1 hty).to ?_
            intro j hj
            rw [xr_nw_v]
            exact hdf j hj)) hl
          rw [hpc, hlen] at k
          exact k
      · cases hc
    case newarray t =>
      simp only [xr_chn] at hc
      split at hc
      · rename_i hh u
        simp only at h
        split at h
        · rename_i n st1 kd hkd
          cases hg : (!decide (n < 0) && Nat.ble n.toNatClampNeg 10000) with
          | false => rw [hg] at h; cases h
          | true =>
            rw [hg] at h
            simp only [Bool.and_eq_true, Bool.not_eq_true', decide_eq_false_iff_not] at hg
            have hle : n.toNatClampNeg ≤ 10000 := Nat.le_of_ble_eq_true hg.2
            obtain ⟨hq9, rfl, rfl, rfl⟩ := xr_wu_ok h
            obtain ⟨rfl, hpc, rfl, rfl, -⟩ := xr_seq_ok hq9
            have harr := hts _ (xr_has_ok hc)
            have main : ∀ (H1 : Heap), H1[ba + w.length]? = some (vp_cell (cy kd) (xr_A ep ba sg kd n.toNatClampNeg [])) → H1.size = ba + w.length + 1 → (∀ q, q < ba + w.length → H1[q]? = H[q]?) → W p l e R s m args below meth c H1 locs (ce + 1) (sl + n.toNatClampNeg) Q (F0 m (pc + 2) ls (.ref (ba + w.length) :: xr_sv ep ba sg st1)) := by
              intro H1 e1 z1 o1
              have k := k H1 locs ls (xr_I_push (v := [.inr (kd, n.toNatClampNeg, [])]) hI hsz z1 rfl (fun q hq => o1 q (by omega)) (fun j x hx => by
                have hj : j < 1 := (List.getElem?_eq_some_iff.mp hx).1
                rw [show j = 0 by omega] at hx
                cases hx
                rw [show ba + (w.length + j) = ba + w.length by omega]
                exact e1)) hl
              rw [hpc] at k
              exact k
            cases t <;> simp only [xr_kd, Option.some.injEq, reduceCtorEq] at hkd
            · subst hkd
              refine va_newaK (g := F0 m pc ls (.int n :: xr_sv ep ba sg st1)) (h := ba + w.length) hx hb harr rfl hd rfl hg.1 rfl (by simp only [newarray.typeOf, componentBytes]; omega) hR.1 hR.2 hsz (fun H1 cA e1 z1 o1 _ hnm => ?_)
              have hcy : s.vm.findClass ("[" ++ (FieldType.byte).toString) = some (cy 1) := (hK.2 1 _ rfl).2
              cases Option.some.inj (hnm.symm.trans hcy)
              exact main H1 e1 z1 o1
            · subst hkd
              refine va_newaK (g := F0 m pc ls (.int n :: xr_sv ep ba sg st1)) (h := ba + w.length) hx hb harr rfl hd rfl hg.1 rfl (by simp only [newarray.typeOf, componentBytes]; omega) hR.1 hR.2 hsz (fun H1 cA e1 z1 o1 _ hnm => ?_)
              have hcy : s.vm.findClass ("[" ++ (FieldType.int).toString) = some (cy 0) := (hK.2 0 _ rfl).2
              cases Option.some.inj (hnm.symm.trans hcy)
              exact main H1 e1 z1 o1
            · subst hkd
              refine va_newaK (g := F0 m pc ls (.int n :: xr_sv ep ba sg st1)) (h := ba + w.length) hx hb harr rfl hd rfl hg.1 rfl (by simp only [newarray.typeOf, componentBytes]; omega) hR.1 hR.2 hsz (fun H1 cA e1 z1 o1 _ hnm => ?_)
              have hcy : s.vm.findClass ("[" ++ (FieldType.long).toString) = some (cy 2) := (hK.2 2 _ rfl).2
              cases Option.some.inj (hnm.symm.trans hcy)
              exact main H1 e1 z1 o1
        · cases h
      · cases hc
    case multianewarray idx d =>
      simp only [xr_chn] at hc
      split at hc
      · rename_i h1 h2 u
        simp only [Bool.and_eq_true] at hc
        simp only at h
        split at h
        · rename_i kk n st1
          cases hg : (Nat.beq d 2 && (!decide (n < 0) && (!decide (kk < 0) && (Nat.ble n.toNatClampNeg 10000 && Nat.ble kk.toNatClampNeg 10000)))) with
          | false => rw [hg] at h; cases h
          | true =>
            rw [hg] at h
            simp only [Bool.and_eq_true, Bool.not_eq_true', decide_eq_false_iff_not] at hg
            obtain ⟨hd2, hn0, hk0, hn1, hk1⟩ := hg
            have hd2 := Nat.eq_of_beq_eq_true hd2
            subst hd2
            have hn1 : n.toNatClampNeg ≤ 10000 := Nat.le_of_ble_eq_true hn1
            have hk1 : kk.toNatClampNeg ≤ 10000 := Nat.le_of_ble_eq_true hk1
            obtain ⟨hq9, rfl, rfl, rfl⟩ := xr_wu_ok h
            obtain ⟨rfl, hpc, rfl, rfl, -⟩ := xr_seq_ok hq9
            intro T hT Xs
            obtain ⟨vm₁, cA, comp, -, fA, fC, hO, -, X', step⟩ := Xs.multianewarray2F hx hown (show (Cond.classLink own idx ("[" ++ (FieldType.array .int).toString)).before args s = true from hts _ (xr_has_ok hc.1)) hover (hts _ (xr_has_ok hc.2)) (g := F0 m pc ls (.int kk :: .int n :: xr_sv ep ba sg st1)) rfl (by rw [hb]; exact hd) rfl hn0 hk0 (by omega) (by simp only [componentBytes]; omega) (by omega) (by decide) (by decide) (by omega) (by omega)
            have hcy0 : s.vm.findClass ("[" ++ (FieldType.int).toString) = some (cy 0) := (hK.2 0 _ rfl).2
            have hcy3 : s.vm.findClass ("[" ++ (FieldType.array .int).toString) = some (cy 3) := (hK.2 3 _ rfl).2
            cases Option.some.inj (fA.symm.trans hcy3)
            cases Option.some.inj (fC.symm.trans hcy0)
            generalize hF : Jvm.Free.Multi.fill (T.setVm vm₁) (cy 3) (cy 0) n.toNatClampNeg kk.toNatClampNeg (defaultValue .int) n.toNatClampNeg = F at X' step
            have hTh : (T.setVm vm₁).heap = H := hT
            obtain ⟨f1, f2, -, -⟩ := Jvm.Free.Multi.fill_facts (T.setVm vm₁) (cy 3) (cy 0) n.toNatClampNeg kk.toNatClampNeg (defaultValue .int) n.toNatClampNeg
            rw [hF, hTh] at f1 f2
            have hold : ∀ x : Nat, x < H.size → F.heap[x]? = H[x]? := fun x hx => by
              have := Jvm.Free.Multi.fill_old (T.setVm vm₁) (cy 3) (cy 0) n.toNatClampNeg kk.toNatClampNeg (defaultValue .int) (a := x) (by rw [hTh]; exact hx) n.toNatClampNeg
              rw [hF, hTh] at this
              exact this
            have hrow : ∀ j : Nat, j < n.toNatClampNeg → F.heap[H.size + 1 + j]? = some (Jvm.Free.Multi.innerC (cy 0) kk.toNatClampNeg (defaultValue .int)) := fun j hj => by
              have := Jvm.Free.Multi.fill_inner (T.setVm vm₁) (cy 3) (cy 0) n.toNatClampNeg kk.toNatClampNeg (defaultValue .int) n.toNatClampNeg j hj
              rw [hF, hTh] at this
              exact this
            rw [vr_outer] at f2
            have k := k F.heap locs ls (xr_I_push (v := .inr (3, n.toNatClampNeg, xr_refs (w.length + 1) n.toNatClampNeg) :: List.replicate n.toNatClampNeg (.inr (0, kk.toNatClampNeg, []))) hI hsz (by rw [f1, hsz]; simp; omega) (by simp; omega) hold (fun j x hx => by
              cases j with
              | zero =>
                cases hx
                show F.heap[ba + (w.length + 0)]? = some (arrV (cy 3) n.toNatClampNeg (fun j => va_rf (xr_r (xr_v ep ba sg (xr_at (xr_refs (w.length + 1) n.toNatClampNeg) j .null)))))
                rw [show ba + (w.length + 0) = H.size by omega, f2]
                congr 2
                funext j
                rw [xr_refs_at]
                by_cases hj : j < n.toNatClampNeg
                · rw [if_pos hj, if_pos hj, hsz]
                  show va_rf (some (ba + w.length + 1 + j)) = va_rf (some (ba + (w.length + 1 + j)))
                  congr 2
                  omega
                · rw [if_neg hj, if_neg hj]
                  rfl
              | succ j =>
                rw [List.getElem?_cons_succ] at hx
                have hj : j < n.toNatClampNeg := by
                  have := (List.getElem?_eq_some_iff.mp hx).1
                  simpa using this
                have hx2 : x = .inr (0, kk.toNatClampNeg, []) := by
                  rw [List.getElem?_replicate, if_pos hj] at hx
                  exact (Option.some.inj hx).symm
                subst hx2
                show F.heap[ba + (w.length + (j + 1))]? = some (arrV (cy 0) kk.toNatClampNeg (fun _ => .int 0))
                rw [show ba + (w.length + (j + 1)) = H.size + 1 + j by omega, hrow j hj, ← arrV_new]
                rfl)) hl
            rw [hpc] at k
            have X'' : Stand p l e R s m args below meth c F locs (ce + (1 + n.toNatClampNeg)) (sl + (n.toNatClampNeg + n.toNatClampNeg * kk.toNatClampNeg)) := by
              rw [← Nat.add_assoc, ← Nat.add_assoc]
              exact X'
            obtain ⟨t, a1, b1⟩ := k F rfl X''
            refine ⟨t, step t ?_, b1⟩
            have e9 : T.heap.size = ba + w.length := by rw [hT]; exact hsz
            rw [e9]
            exact a1
        · cases h
      · cases hc
    all_goals exact absurd (show (none : Option xr_U) = some _ from h) (fun z => by cases z)
end XRA
end
section
/-! what the JDK's natives do, Object's constructor, the one static field -/
section XRT0
variable {p : Program} {l : Launch} {e : Env} {R : Room} {s : State} {m : MethodId} {args : Array Value} {below : List Frame} {meth : Method} {c : Code} {H : Heap} {locs : List Loc} {cells slots : Nat} {Q : State → Prop}
variable {cc : ByteArray} {pc : Nat} {ls : Array Slot} {rest : List Value} {D : va_G} {cl : List vw_C} {A : Nat → Prop} {a : Nat} {tys : List (ClassId × FieldType)} {ws : va_W} {H0 : Heap}
variable {cc : ByteArray}
theorem xr_copyt (hexec : p.tables.exec = Jvm.exec) (hb : c.code = cc) (hml : c.maxLocals = ls.size) {own : String} {index : Nat} (hown : s.vm.findClass own = some m.cls) (hlink : (Cond.methodLink own index arraycopyName).before args s = true) (hnat : (Cond.native arraycopyName).before args s = true) (hstat : (Cond.static arraycopyName).before args s = true) (hini : (Cond.initialized "java/lang/System").before args s = true)
    (hK : va_K D cl tys s) (hP : va_P D cl ws H) (hD : va_D A ws) (hS : va_S A s.heap H locs) {b0 n0 : Nat} {f : Nat → Int32} (hX : va_T .int b0 n0 (fun j => .int (f j)) A s s.heap) (q1 t1 : Nat) {c1 : ClassId} {n1 : Nat} {g : Nat → Int32} (ha1 : ws[q1]? = some (a, .inl (c1, n1, .inl g))) (ht1 : tys[t1]? = some (c1, .int))
    {sp dp n : Int32} (h1 : ¬ sp < 0) (h2 : ¬ dp < 0) (h3 : ¬ n < 0) (h4 : sp.toNatClampNeg + n.toNatClampNeg ≤ n0) (h5 : dp.toNatClampNeg + n.toNatClampNeg ≤ n1) (hfit : ∀ i : Nat, i < n.toNatClampNeg → fits .int (.int (f (sp.toNatClampNeg + i))) = true)
    (hframes : 1 ≤ R.frames) (hlocals : (rest.map fun v => v.category).sum + (nativeFrameWords "java/lang/System" "arraycopy" 5 + 11) ≤ R.locals) (hdg : decode cc pc = .ok (.invokestatic index, 3))
    (kk : ∀ (H1 : Heap) (locs1 : List Loc), va_P D cl (ws.set q1 (a, .inl (c1, n1, .inl (va_cpy f g sp.toNatClampNeg dp.toNatClampNeg n.toNatClampNeg)))) H1 → va_D A (ws.set q1 (a, .inl (c1, n1, .inl (va_cpy f g sp.toNatClampNeg dp.toNatClampNeg n.toNatClampNeg)))) → va_S A s.heap H1 locs1 → W p l e R s m args below meth c H1 locs1 cells slots Q (F0 m (pc + 3) ls rest)) : W p l e R s m args below meth c H locs cells slots Q (F0 m pc ls (.int n :: .int dp :: .ref a :: .int sp :: .ref b0 :: rest)) := by
  have nn : ∀ z : Int32, ¬ z < 0 → z.toInt = (z.toNatClampNeg : Int) := by
    intro z hz
    have hz0 : (0 : Int) ≤ z.toInt := by
      have := Int32.not_lt.mp hz
      simpa using Int32.le_iff_toInt_le.mp this
    show z.toInt = ((z.toInt.toNat : Nat) : Int)
    omega
  intro T hT X
  obtain ⟨scr, hs1, hs2, hs3, hs4, -, hs5, hs7⟩ := hX
  have hc0 : H[b0]? = some scr := by rw [hS.2.1 b0 (Array.getElem?_eq_some_iff.mp hs1).1 hs7]; exact hs1
  have hc1 : H[a]? = some (vp_cell c1 (n1, .inl g)) := hP q1 _ ha1
  obtain ⟨hs6, k0, hk0, cm0, hkk0⟩ := hs2
  obtain ⟨-, k1, hk1, cm1, hkk1⟩ := (hK.2 t1 _ ht1).1 n1 (fun j => .int (g j))
  obtain ⟨vm', X', step⟩ := X.arraycopy hexec hown hlink hnat hstat hini (src := b0) (dst := a) (cs := scr) (cd := vp_cell c1 (n1, .inl g)) (srcPos := sp) (destPos := dp) (n := n) (by rw [hT]; exact hc0) (by rw [hT]; exact hc1)
    hs6 (fun _ h => by cases h) hs3 (fun h => by cases h) hk0 hk1 hkk0 hkk1 (by simp [refKind]) h1 h2 h3
    (by rw [nn sp h1, nn n h3]; omega)
    (by rw [nn dp h2, nn n h3]; show ¬ _ > ((arrV c1 n1 (fun j => .int (g j))).slots.size : Int); rw [arrV_size]; omega)
    (fun vm₁ _ i hi => by
      have e : scr.slots.getD (sp.toNatClampNeg + i) .null = .int (f (sp.toNatClampNeg + i)) := by
        rw [Array.getD_eq_getD_getElem?, hs5 _ (by omega)]
        rfl
      refine ⟨?_, ?_⟩
      · rw [e]
        exact hfit i hi
      · rw [e]
        exact trivial)
    (g := F0 m pc ls (.int n :: .int dp :: .ref a :: .int sp :: .ref b0 :: rest)) rfl (by rw [hml]) (rest := rest) rfl (by rw [hb]; exact hdg) hframes (by show 2 * 0 + _ + _ ≤ _; omega)
  have e1 : copied scr (vp_cell c1 (n1, .inl g)) sp dp n = vp_cell c1 (n1, .inl (va_cpy f g sp.toNatClampNeg dp.toNatClampNeg n.toNatClampNeg)) := va_copiedX (fun z => .int z) scr c1 f g hs5 h4
  rw [e1] at X' step
  have hl : a < H.size := (Array.getElem?_eq_some_iff.mp hc1).1
  have hheap : ((T.setVm vm').setCell a (vp_cell c1 (n1, .inl (va_cpy f g sp.toNatClampNeg dp.toNatClampNeg n.toNatClampNeg)))).heap = H.setIfInBounds a (vp_cell c1 (n1, .inl (va_cpy f g sp.toNatClampNeg dp.toNatClampNeg n.toNatClampNeg))) := by rw [← hT]; rfl
  have oq : ∀ q : Nat, q ≠ a → (H.setIfInBounds a (vp_cell c1 (n1, .inl (va_cpy f g sp.toNatClampNeg dp.toNatClampNeg n.toNatClampNeg))))[q]? = H[q]? := fun q hq => by simp [Array.getElem?_setIfInBounds, Ne.symm hq]
  obtain ⟨t, a1, b1⟩ := kk _ _ (hP.set hD ha1 (show (H.setIfInBounds a _)[a]? = some _ by simp [Array.getElem?_setIfInBounds, hl]) oq) (hD.set ha1) ⟨by simp; exact hS.1, fun q g1 g2 => by
      rw [oq q (fun e => g2 (by rw [e]; exact hD.2 q1 _ ha1))]
      exact hS.2.1 q g1 g2, fun q hq => by
      rcases List.mem_append.mp hq with h | h
      · exact hS.2.2 q h
      · obtain ⟨z, -, hz⟩ := List.mem_map.mp h
        rw [← hz]
        exact hD.2 q1 _ ha1⟩ _ hheap X'
  exact ⟨t, step t a1, b1⟩
end XRT0
def xr_cs (st : List Value) : Nat := (st.map fun v => v.category).sum
theorem xr_cs_v (ep : Nat → Int32) (ba : Nat) (sg : Nat → Nat) (st : List Value) : ((xr_sv ep ba sg st).map fun v => v.category).sum = xr_cs st := by
  unfold xr_cs xr_sv
  rw [List.map_map]
  congr 1
  apply List.map_congr_left
  intro v _
  exact xr_cat ep ba sg v
def xr_cp (d : Value) (as0 : xr_L) (sp dp : Nat) : Nat → xr_L → xr_L
  | 0, as1 => as1
  | n + 1, as1 => (dp + n, xr_at as0 (sp + n) d) :: xr_cp d as0 sp dp n as1
theorem xr_cp_at (d : Value) (as0 : xr_L) (sp dp : Nat) (as1 : xr_L) (k : Nat) : ∀ n : Nat, xr_at (xr_cp d as0 sp dp n as1) k d = if dp ≤ k ∧ k < dp + n then xr_at as0 (sp + (k - dp)) d else xr_at as1 k d
  | 0 => by
    rw [if_neg (by omega)]
    rfl
  | n + 1 => by
    show (bif Nat.beq k (dp + n) then xr_at as0 (sp + n) d else xr_at (xr_cp d as0 sp dp n as1) k d) = _
    rw [xr_cp_at d as0 sp dp as1 k n]
    by_cases h : k = dp + n
    · subst h
      rw [show Nat.beq (dp + n) (dp + n) = true from Nat.beq_refl _, cond_true, if_pos (by omega), Nat.add_sub_cancel_left]
    · rw [show Nat.beq k (dp + n) = false from Bool.eq_false_iff.mpr (fun z => h (Nat.eq_of_beq_eq_true z)), cond_false]
      by_cases h2 : dp ≤ k ∧ k < dp + n
      · rw [if_pos h2, if_pos (by omega)]
      · rw [if_neg h2, if_neg (by omega)]
def xr_usn (j : Nat) : Int32 := match j with
  | 0 => 1000
  | 1 => 1001
  | 2 => 2000
  | 3 => 1005
  | 4 => 4
  | 5 => 2003
  | _ => 2001
def xr_usl : xr_L := [(0, .int 1000), (1, .int 1001), (2, .int 2000), (3, .int 1005), (4, .int 4), (5, .int 2003), (6, .int 2001)]
def xr_Z (ba : Nat) (sg : Nat → Nat) (s : State) : Prop := va_Z "NoiseFields$Law" "USUAL" "[I" (.ref (sg 1)) (fun q => ba ≤ q) s s.heap ∧ va_T .int (sg 1) 7 (fun j => .int (xr_usn j)) (fun q => ba ≤ q) s s.heap
def xr_cpok (i : Int32) : Bool := !decide (i < 0)
/-- words that are none of the good ones -/
def xr_owk (w : Cond) : Bool := match w with
  | .castable _ _ => true
  | .declares _ => true
  | .methodLinkNest _ _ _ _ => true
  | _ => false
def xr_ob : List Cond := lw_tbl.filter xr_owk
def xr_hasO (h : Nat) (w : Cond) : Bool := decide (lw_tbl[h]? = some w) && xr_owk w
theorem xr_hasO_ok {h : Nat} {w : Cond} (q : xr_hasO h w = true) : w ∈ xr_ob := by
  simp only [xr_hasO, Bool.and_eq_true, decide_eq_true_eq] at q
  exact List.mem_filter.mpr ⟨List.mem_of_getElem? q.1, q.2⟩
theorem xr_owk_warm {w : Cond} (hw : xr_owk w = true) {s U : State} (hW : s.WarmedH U.vm) (h : va_Nw w s) : va_Nw w U := by
  cases w <;> first
    | (exact va_Nw.warmC hW h)
    | (exact va_Nw.warmD hW h)
    | (exact va_Nw.warmM hW h)
    | (simp [xr_owk] at hw)
abbrev xr_clN : MethodName := ⟨"[I", "clone", "()Ljava/lang/Object;"⟩
abbrev xr_clO : MethodName := ⟨"java/lang/Object", "clone", "()Ljava/lang/Object;"⟩
def xr_nt (b : Bool) (r : List xr_En) (pc len : Nat) (aux : List Nat) (l : xr_L) (st : List Value) (w : List xr_C) (i : Instr) : Option xr_U := match i with
  | .getstatic _ => xr_wu (xr_seq r pc len 3 l (.float 1 :: st)) w 0 0
  | .arraylength => match st with
    | .float u :: st' => bif decide (u = 1) then xr_wu (xr_seq r pc len 1 l (.int 7 :: st')) w 0 0 else none
    | _ => none
  | .checkcast _ => match aux, st with
    | _ :: _, .ref a :: st' => match xr_nth w a with
      | some (.inr (k1, _, _)) => bif Nat.beq k1 0 then xr_wu (xr_seq r pc len 3 l (.ref a :: st')) w 0 0 else none
      | _ => none
    | _, _ => none
  | .invokestatic _ => match aux, st with
    | 0 :: _, .int n :: .int dp :: .ref a :: .int sp :: .ref a0 :: st' => match xr_nth w a0, xr_nth w a with
      | some (.inr (k0, n0, as0)), some (.inr (k1, n1, as1)) =>
        bif Nat.ble (xr_cs st') 8 && (Nat.beq k0 k1 && ((Nat.beq k0 0 || (Nat.beq k0 1 && Nat.beq n.toNatClampNeg 0)) && (xr_cpok n && (xr_cpok dp && (xr_cpok sp && (Nat.ble (sp.toNatClampNeg + n.toNatClampNeg) n0 && Nat.ble (dp.toNatClampNeg + n.toNatClampNeg) n1)))))) then
          xr_wu (xr_seq r pc len 3 l st') (xr_set w a (.inr (k0, n1, xr_cp (.int 0) as0 sp.toNatClampNeg dp.toNatClampNeg n.toNatClampNeg as1))) 0 0 else none
      | _, _ => none
    | 0 :: _, .int n :: .int dp :: .ref a :: .int sp :: .float u :: st' => match xr_nth w a with
      | some (.inr (k1, n1, as1)) =>
        bif Nat.ble (xr_cs st') 8 && (Nat.beq k1 0 && (decide (u = 1) && (decide (n = 7) && (decide (dp = 0) && (decide (sp = 0) && Nat.ble 7 n1))))) then
          xr_wu (xr_seq r pc len 3 l st') (xr_set w a (.inr (0, n1, xr_cp (.int 0) xr_usl 0 0 7 as1))) 0 0 else none
      | _ => none
    | 20 :: _, .int y :: .int x :: st' => bif Nat.ble (xr_cs st') 8 then xr_wu (xr_seq r pc len 3 l (.int (bif xr_cf 1 y x then y else x) :: st')) w 0 0 else none
    | 21 :: _, .int y :: .int x :: st' => bif Nat.ble (xr_cs st') 8 then xr_wu (xr_seq r pc len 3 l (.int (bif xr_cf 1 x y then y else x) :: st')) w 0 0 else none
    | _, _ => none
  | .invokevirtual _ => match aux, st with
    | 1 :: _, .ref a :: st' => match xr_nth w a with
      | some (.inr (k1, n1, as1)) => bif b && (Nat.ble (xr_cs st') 8 && Nat.beq k1 0) then xr_wu (xr_seq r pc len 3 l (.ref w.length :: st')) (w ++ [.inr (0, n1, as1)]) 1 n1 else none
      | _ => none
    | _, _ => none
  | .invokespecial _ => match aux, st with
    | 2 :: _, .ref a :: st' => bif Nat.ble (xr_cs st') 8 then xr_wu (xr_seq r pc len 3 l st') w 0 0 else none
    | _, _ => none
  | _ => none
def xr_cht (own : String) (i : Instr) (aux : List Nat) : Bool := match i with
  | .getstatic idx => match aux with
    | h :: _ => xr_has h (.fieldLink own idx "NoiseFields$Law" "USUAL" "[I")
    | [] => false
  | .checkcast idx => match aux with
    | h :: _ => xr_has h (.classLink own idx "[I")
    | [] => true
  | .invokestatic idx => match aux with
    | 0 :: h1 :: h2 :: h3 :: h4 :: _ => xr_has h1 (.methodLink own idx arraycopyName) && (xr_has h2 (.native arraycopyName) && (xr_has h3 (.static arraycopyName) && xr_has h4 (.initialized "java/lang/System")))
    | 0 :: _ => false
    | _ => true
  | .invokevirtual idx => match aux with
    | 1 :: h1 :: h2 :: h3 :: h4 :: h5 :: h6 :: _ => xr_has h1 (.methodLink own idx xr_clN) && (xr_has h2 (.sameMethod "[I" "java/lang/Object" "clone" "()Ljava/lang/Object;") && (xr_has h3 (.native xr_clO) && (xr_has h4 (.instanceMethod xr_clO) && (xr_has h5 (.selects "[I" xr_clN xr_clO) && xr_hasO h6 (.castable "[I" "java/lang/Cloneable")))))
    | 1 :: _ => false
    | _ => true
  | .invokespecial idx => match aux with
    | 2 :: h1 :: h2 :: h3 :: _ => xr_has h1 (.methodLink own idx objectInit) && (xr_has h2 (.instanceMethod objectInit) && xr_has h3 (.code objectInit ⟨#[0xb1]⟩ 1 none))
    | 2 :: _ => false
    | _ => true
  | _ => true
def xr_chm (own : String) (i : Instr) (aux : List Nat) : Bool := match i with
  | .invokestatic idx => match aux with
    | 20 :: h1 :: h2 :: h3 :: h4 :: _ => xr_has h1 (.methodLink own idx Lib.Math.min.name) && (xr_has h2 (.static Lib.Math.min.name) && (xr_has h3 (.initialized "java/lang/Math") && xr_has h4 (.code Lib.Math.min.name Lib.Math.min.code 2 (some .int))))
    | 20 :: _ => false
    | 21 :: h1 :: h2 :: h3 :: h4 :: _ => xr_has h1 (.methodLink own idx Lib.Math.max.name) && (xr_has h2 (.static Lib.Math.max.name) && (xr_has h3 (.initialized "java/lang/Math") && xr_has h4 (.code Lib.Math.max.name Lib.Math.max.code 2 (some .int))))
    | 21 :: _ => false
    | _ => true
  | _ => true
end
section
section XRN
variable {p : Program} {l : Launch} {e : Env} {R : Room} {s : State} {m : MethodId} {args : Array Value} {below : List Frame} {meth : Method} {c : Code} {H : Heap} {locs : List Loc} {ce sl : Nat} {Q : State → Prop}
variable {cc : ByteArray} {ep : Nat → Int32} {ba : Nat} {sg : Nat → Nat} {cy : Nat → ClassId} {D : va_G} {ls : Array Slot} {nL : Nat} {own : String}
theorem xr_cpy_i {as0 as1 : xr_L} {sp dp n : Nat} : va_cpy (fun q => xr_i (xr_v ep ba sg (xr_at as0 q (.int 0)))) (fun q => xr_i (xr_v ep ba sg (xr_at as1 q (.int 0)))) sp dp n = fun q => xr_i (xr_v ep ba sg (xr_at (xr_cp (.int 0) as0 sp dp n as1) q (.int 0))) := by
  funext q
  unfold va_cpy
  rw [xr_cp_at]
  by_cases h : dp ≤ q ∧ q < dp + n
  · rw [if_pos h, if_pos h]
  · rw [if_neg h, if_neg h]
theorem xr_cpy_u {as1 : xr_L} : va_cpy xr_usn (fun q => xr_i (xr_v ep ba sg (xr_at as1 q (.int 0)))) 0 0 7 = fun q => xr_i (xr_v ep ba sg (xr_at (xr_cp (.int 0) xr_usl 0 0 7 as1) q (.int 0))) := by
  funext q
  unfold va_cpy
  rw [xr_cp_at]
  by_cases h : 0 ≤ q ∧ q < 0 + 7
  · rw [if_pos h, if_pos h]
    have h7 : q < 7 := by omega
    rcases (show q = 0 ∨ q = 1 ∨ q = 2 ∨ q = 3 ∨ q = 4 ∨ q = 5 ∨ q = 6 by omega) with rfl | rfl | rfl | rfl | rfl | rfl | rfl <;> rfl
  · rw [if_neg h, if_neg h]
theorem xr_w_len : ∀ (w : List xr_C) (k0 : Nat), (xr_w ep ba sg cy k0 w).length = w.length
  | [], k0 => rfl
  | a :: t, k0 => by
    show (xr_w ep ba sg cy (k0 + 1) t).length + 1 = t.length + 1
    rw [xr_w_len t (k0 + 1)]
theorem xr_P_len {w : List xr_C} (hP : va_P D vwCl (xr_w ep ba sg cy 0 w) H) (hw : 0 < w.length) : ba + w.length ≤ H.size := by
  have h1 : w.length - 1 < w.length := by omega
  have h2 := (hP (w.length - 1) _ (xr_w_at (List.getElem?_eq_getElem h1))).lt
  simp only at h2
  omega
theorem xr_nfw : nativeFrameWords "java/lang/System" "arraycopy" 5 + 11 ≤ 100 := by decide +kernel
set_option maxHeartbeats 4000000 in
theorem xr_nt_ok {b : Bool} {r r' : List xr_En} {pc len : Nat} {aux : List Nat} {lv l' : xr_L} {st st' : List Value} {w w' : List xr_C} {dc ds : Nat} {i : Instr} (h : xr_nt b r pc len aux lv st w i = some (r', l', st', w', dc, ds)) (hx : p.tables.exec = Jvm.exec) (hb : c.code = cc) (hml : c.maxLocals = nL) (hd : decode cc pc = .ok (i, len)) (hown : s.vm.findClass own = some m.cls) (hts : ∀ w ∈ xr_tb, w.before args s = true) (hto : ∀ w ∈ xr_ob, va_Nw w s) (hK : va_K D vwCl (xr_ty cy) s) (hI : xr_I D ep ba sg cy s w b ce H locs) (hba : ba ≤ s.heap.size) (hZ : xr_Z ba sg s) (hc : xr_cht own i aux = true) (hcm : xr_chm own i aux = true) (hR : ce + dc ≤ R.cells ∧ sl + ds ≤ R.slots) (hRf : 1 ≤ R.frames) (hRl : 150 ≤ R.locals) (hl : lv_has ls nL (xr_lv ep ba sg lv))
    (k : xr_KA p l e R s m args below meth c Q D ep ba sg cy nL r' l' st' w' b (ce + dc) (sl + ds)) : W p l e R s m args below meth c H locs ce sl Q (F0 m pc ls (xr_sv ep ba sg st)) := by
  have hP := hI.1
  have hS := hI.2.1
  have hnf := xr_nfw
  have hsz : ls.size = nL := hl.1
  cases i
  case getstatic idx =>
    simp only [xr_nt, xr_nth_eq, xr_set_eq] at h
    obtain ⟨hq, rfl, rfl, rfl⟩ := xr_wu_ok h
    obtain ⟨rfl, hpc, rfl, rfl, -⟩ := xr_seq_ok hq
    simp only [xr_cht] at hc
    split at hc
    · have k := k H locs ls hI hl
      rw [hpc] at k
      exact va_gets hx hb hZ.1 hS hown (hts _ (xr_has_ok hc)) (fun _ h => h) hd k
    · cases hc
  case arraylength =>
    simp only [xr_nt, xr_nth_eq, xr_set_eq] at h
    split at h
    · rename_i u st1
      cases hu : decide (u = 1) with
      | false => rw [hu] at h; cases h
      | true =>
        rw [hu] at h
        have hu := of_decide_eq_true hu
        subst hu
        obtain ⟨hq, rfl, rfl, rfl⟩ := xr_wu_ok h
        obtain ⟨rfl, hpc, rfl, rfl, -⟩ := xr_seq_ok hq
        have k := k H locs ls hI hl
        rw [hpc] at k
        exact va_tlen hx hb hZ.2 hS rfl hd k
    · cases h
  case checkcast idx =>
    simp only [xr_nt, xr_nth_eq, xr_set_eq] at h
    split at h
    · rename_i hh0 u0 a st1
      split at h
      · rename_i k1 n1 as1 hw1
        cases hg : Nat.beq k1 0 with
        | false => rw [hg] at h; cases h
        | true =>
          rw [hg] at h
          have hg := Nat.eq_of_beq_eq_true hg
          subst hg
          obtain ⟨hq, rfl, rfl, rfl⟩ := xr_wu_ok h
          obtain ⟨rfl, hpc, rfl, rfl, -⟩ := xr_seq_ok hq
          simp only [xr_cht] at hc
          · have k := k H locs ls hI hl
            rw [hpc] at k
            have hcy0 : s.vm.findClass ("[" ++ (FieldType.int).toString) = some (cy 0) := (hK.2 0 _ rfl).2
            exact va_castA (q0 := a) (nm := "[I") hx hb hown (hts _ (xr_has_ok hc)) hP (xr_w_at hw1) hcy0 hd k
      · cases h
    · cases h
  case invokestatic idx =>
    simp only [xr_nt, xr_nth_eq, xr_set_eq] at h
    split at h
    · rename_i u n dp a sp a0 st1
      simp only [xr_cht] at hc
      split at h
      · rename_i k0 n0 as0 k1 n1 as1 hw0 hw1
        cases hg : (Nat.ble (xr_cs st1) 8 && (Nat.beq k0 k1 && ((Nat.beq k0 0 || (Nat.beq k0 1 && Nat.beq n.toNatClampNeg 0)) && (xr_cpok n && (xr_cpok dp && (xr_cpok sp && (Nat.ble (sp.toNatClampNeg + n.toNatClampNeg) n0 && Nat.ble (dp.toNatClampNeg + n.toNatClampNeg) n1))))))) with
        | false => rw [hg] at h; cases h
        | true =>
          rw [hg] at h
          obtain ⟨hq, rfl, rfl, rfl⟩ := xr_wu_ok h
          obtain ⟨rfl, hpc, rfl, rfl, -⟩ := xr_seq_ok hq
          simp only [Bool.and_eq_true, Bool.or_eq_true, xr_cpok, Bool.not_eq_true', decide_eq_false_iff_not] at hg
          obtain ⟨g1, g2, g3, g4, g5, g6, g7, g8⟩ := hg
          have g1 : xr_cs st1 ≤ 8 := Nat.le_of_ble_eq_true g1
          have g2 := Nat.eq_of_beq_eq_true g2
          subst g2
          have g7 := Nat.le_of_ble_eq_true g7
          have g8 := Nat.le_of_ble_eq_true g8
          split at hc
          · rename_i h1 h2 h3 h4 u2 heq
            simp only [Bool.and_eq_true] at hc
            have main : ∀ (H1 : Heap) (locs1 : List Loc), va_P D vwCl ((xr_w ep ba sg cy 0 w).set a (ba + a, xr_e ep ba sg cy (.inr (k0, n1, xr_cp (.int 0) as0 sp.toNatClampNeg dp.toNatClampNeg n.toNatClampNeg as1)))) H1 → va_S (fun q => ba ≤ q) H H1 locs1 → W p l e R s m args below meth c H1 locs1 ce sl Q (F0 m (pc + 3) ls (xr_sv ep ba sg st1)) := by
              intro H1 locs1 hP1 hS1
              have k := k H1 locs1 ls (xr_I_set hI hP1 hS1) hl
              rw [hpc] at k
              exact k
            rcases g3 with g3 | ⟨g3, g30⟩
            · have g3 := Nat.eq_of_beq_eq_true g3
              subst g3
              refine va_copyi (q0 := a0) (q1 := a) (t0 := 0) (t1 := 0) (ty := .int) (H0 := H) hx hb (hml.trans hsz.symm) hown (hts _ (xr_has_ok hc.1)) (hts _ (xr_has_ok hc.2.1)) (hts _ (xr_has_ok hc.2.2.1)) (hts _ (xr_has_ok hc.2.2.2)) hK hP (xr_w_D w) (xr_S_rf hS) (xr_w_at hw0) (xr_w_at hw1) rfl rfl rfl g6 g5 g4 g7 g8 (fun _ _ => rfl) hRf (by rw [xr_cs_v]; omega) hd (fun H1 locs1 hP1 _ hS1 => main H1 locs1 ?_ hS1)
              rw [xr_cpy_i] at hP1
              exact hP1
            · have g3 := Nat.eq_of_beq_eq_true g3
              have g30 := Nat.eq_of_beq_eq_true g30
              subst g3
              refine va_copyi (q0 := a0) (q1 := a) (t0 := 1) (t1 := 1) (ty := .byte) (H0 := H) hx hb (hml.trans hsz.symm) hown (hts _ (xr_has_ok hc.1)) (hts _ (xr_has_ok hc.2.1)) (hts _ (xr_has_ok hc.2.2.1)) (hts _ (xr_has_ok hc.2.2.2)) hK hP (xr_w_D w) (xr_S_rf hS) (xr_w_at hw0) (xr_w_at hw1) rfl rfl rfl g6 g5 g4 g7 g8 (fun i hi => by omega) hRf (by rw [xr_cs_v]; omega) hd (fun H1 locs1 hP1 _ hS1 => main H1 locs1 ?_ hS1)
              rw [xr_cpy_i] at hP1
              exact hP1
          · cases hc
          · rename_i hno heq
            exact (heq u rfl).elim
      · cases h
    · rename_i u n dp a sp v st1
      simp only [xr_cht] at hc
      split at h
      · rename_i k1 n1 as1 hw1
        cases hg : (Nat.ble (xr_cs st1) 8 && (Nat.beq k1 0 && (decide (v = 1) && (decide (n = 7) && (decide (dp = 0) && (decide (sp = 0) && Nat.ble 7 n1)))))) with
        | false => rw [hg] at h; cases h
        | true =>
          rw [hg] at h
          obtain ⟨hq, rfl, rfl, rfl⟩ := xr_wu_ok h
          obtain ⟨rfl, hpc, rfl, rfl, -⟩ := xr_seq_ok hq
          simp only [Bool.and_eq_true, decide_eq_true_eq] at hg
          obtain ⟨g1, g2, rfl, rfl, rfl, rfl, g8⟩ := hg
          have g1 : xr_cs st1 ≤ 8 := Nat.le_of_ble_eq_true g1
          have g2 := Nat.eq_of_beq_eq_true g2
          subst g2
          have g8 : 7 ≤ n1 := Nat.le_of_ble_eq_true g8
          split at hc
          · rename_i h1 h2 h3 h4 u2 heq
            simp only [Bool.and_eq_true] at hc
            refine xr_copyt (q1 := a) (t1 := 0) (f := xr_usn) hx hb (hml.trans hsz.symm) hown (hts _ (xr_has_ok hc.1)) (hts _ (xr_has_ok hc.2.1)) (hts _ (xr_has_ok hc.2.2.1)) (hts _ (xr_has_ok hc.2.2.2)) hK hP (xr_w_D w) hS hZ.2 (xr_w_at hw1) rfl (by decide) (by decide) (by decide) (by decide) (by exact g8) (fun _ _ => rfl) hRf (by rw [xr_cs_v]; omega) hd (fun H1 locs1 hP1 _ hS1 => ?_)
            have hP1 : va_P D vwCl ((xr_w ep ba sg cy 0 w).set a (ba + a, .inl (cy 0, n1, .inl (va_cpy xr_usn (fun q => xr_i (xr_v ep ba sg (xr_at as1 q (.int 0)))) 0 0 7)))) H1 := hP1
            rw [xr_cpy_u] at hP1
            have hP2 : va_P D vwCl (xr_w ep ba sg cy 0 (w.set a (.inr (0, n1, xr_cp (.int 0) xr_usl 0 0 7 as1)))) H1 := by
              rw [← xr_w_set w 0 a, Nat.zero_add]
              exact hP1
            have hlt : a < w.length := (List.getElem?_eq_some_iff.mp hw1).1
            have k := k H1 locs1 ls ⟨hP2, hS1, xr_P_len hP2 (by rw [List.length_set]; exact Nat.lt_of_le_of_lt (Nat.zero_le _) hlt), by rw [List.length_set]; exact hI.2.2.2⟩ hl
            rw [hpc] at k
            exact k
          · cases hc
          · rename_i hno heq
            exact (heq u rfl).elim
      · cases h
    · rename_i u y x st1
      cases hg : Nat.ble (xr_cs st1) 8 with
      | false => rw [hg] at h; cases h
      | true =>
        rw [hg] at h
        obtain ⟨hq, rfl, rfl, rfl⟩ := xr_wu_ok h
        obtain ⟨rfl, hpc, rfl, rfl, -⟩ := xr_seq_ok hq
        have g1 : xr_cs st1 ≤ 8 := Nat.le_of_ble_eq_true hg
        have k := k H locs ls hI hl
        rw [hpc] at k
        have ev : (bif xr_cf 1 y x then y else x) = (if y < x then y else x) := by
          rw [xr_cf_eq]
          show (bif decide (y < x) then y else x) = _
          by_cases hlt : y < x
          · rw [decide_eq_true hlt, if_pos hlt]; rfl
          · rw [decide_eq_false hlt, if_neg hlt]; rfl
        rw [ev] at k
        cases u with
        | nil => cases hcm
        | cons h1 u =>
        cases u with
        | nil => cases hcm
        | cons h2 u =>
        cases u with
        | nil => cases hcm
        | cons h3 u =>
        cases u with
        | nil => cases hcm
        | cons h4 u =>
        simp only [xr_chm, Bool.and_eq_true] at hcm
        exact va_mmin hx hb (hml.trans hsz.symm) hown (hts _ (xr_has_ok hcm.1)) (hts _ (xr_has_ok hcm.2.1)) (hts _ (xr_has_ok hcm.2.2.1)) (hts _ (xr_has_ok hcm.2.2.2)) hRf (by rw [xr_cs_v]; omega) (by omega) (by omega) hd k
    · rename_i u y x st1
      cases hg : Nat.ble (xr_cs st1) 8 with
      | false => rw [hg] at h; cases h
      | true =>
        rw [hg] at h
        obtain ⟨hq, rfl, rfl, rfl⟩ := xr_wu_ok h
        obtain ⟨rfl, hpc, rfl, rfl, -⟩ := xr_seq_ok hq
        have g1 : xr_cs st1 ≤ 8 := Nat.le_of_ble_eq_true hg
        have k := k H locs ls hI hl
        rw [hpc] at k
        have ev : (bif xr_cf 1 x y then y else x) = (if x < y then y else x) := by
          rw [xr_cf_eq]
          show (bif decide (x < y) then y else x) = _
          by_cases hlt : x < y
          · rw [decide_eq_true hlt, if_pos hlt]; rfl
          · rw [decide_eq_false hlt, if_neg hlt]; rfl
        rw [ev] at k
        cases u with
        | nil => cases hcm
        | cons h1 u =>
        cases u with
        | nil => cases hcm
        | cons h2 u =>
        cases u with
        | nil => cases hcm
        | cons h3 u =>
        cases u with
        | nil => cases hcm
        | cons h4 u =>
        simp only [xr_chm, Bool.and_eq_true] at hcm
        exact va_mmax hx hb (hml.trans hsz.symm) hown (hts _ (xr_has_ok hcm.1)) (hts _ (xr_has_ok hcm.2.1)) (hts _ (xr_has_ok hcm.2.2.1)) (hts _ (xr_has_ok hcm.2.2.2)) hRf (by rw [xr_cs_v]; omega) (by omega) (by omega) hd k
    · cases h
  case invokevirtual idx =>
    simp only [xr_nt, xr_nth_eq, xr_set_eq] at h
    split at h
    · rename_i u a st1
      simp only [xr_cht] at hc
      split at h
      · rename_i k1 n1 as1 hw1
        cases hg : (b && (Nat.ble (xr_cs st1) 8 && Nat.beq k1 0)) with
        | false => rw [hg] at h; cases h
        | true =>
          rw [hg] at h
          obtain ⟨hq, rfl, rfl, rfl⟩ := xr_wu_ok h
          obtain ⟨rfl, hpc, rfl, rfl, -⟩ := xr_seq_ok hq
          simp only [Bool.and_eq_true] at hg
          obtain ⟨rfl, g1, g2⟩ := hg
          have g1 : xr_cs st1 ≤ 8 := Nat.le_of_ble_eq_true g1
          have g2 := Nat.eq_of_beq_eq_true g2
          subst g2
          split at hc
          · rename_i h1 h2 h3 h4 h5 h6 u2 heq
            simp only [Bool.and_eq_true] at hc
            have hcy0 : s.vm.findClass ("[" ++ (FieldType.int).toString) = some (cy 0) := (hK.2 0 _ rfl).2
            refine va_clone (q0 := a) (t0 := 0) (H0 := H) (ad := "[I") hx hb (hml.trans hsz.symm) hown (hts _ (xr_has_ok hc.1)) (hts _ (xr_has_ok hc.2.1)) (hts _ (xr_has_ok hc.2.2.1)) (hts _ (xr_has_ok hc.2.2.2.1)) (hts _ (xr_has_ok hc.2.2.2.2.1)) (hto _ (xr_hasO_ok hc.2.2.2.2.2)) hK hP (xr_w_D w) (xr_S_rf hS) (fun q hq => by show ba ≤ q; have := hI.2.2.1; omega) (xr_w_at hw1) rfl hcy0 (fun i v hv => ?_) hRf (by rw [xr_cs_v]; omega) hR.1 hR.2 hd (fun q H1 _ hP1 hD1 hS1 => ?_)
            · have hv : (arrV (cy 0) n1 (fun j => Value.int (xr_i (xr_v ep ba sg (xr_at as1 j (.int 0)))))).slots[i]? = some v := hv
              by_cases hi : i < n1
              · rw [arrV_read _ _ hi] at hv
                cases hv
                rfl
              · rw [Array.getElem?_eq_none (by rw [arrV_size]; omega)] at hv
                cases hv
            · refine xr_up (fun hup => ?_)
              have hlen : (xr_w ep ba sg cy 0 w).length = w.length := xr_w_len w 0
              have hql : q < H1.size := (hP1 w.length (q, _) (by rw [← hlen, List.getElem?_concat_length])).lt
              have hqa : ba ≤ q := hD1.2 w.length (q, _) (by rw [← hlen, List.getElem?_concat_length])
              have hex := hI.2.2.2 rfl
              have hq : q = ba + w.length := by
                by_cases hlt : q - ba < w.length
                · exfalso
                  have e1 : (xr_w ep ba sg cy 0 w)[q - ba]? = some (ba + (q - ba), xr_e ep ba sg cy w[q - ba]) := xr_w_at (List.getElem?_eq_getElem hlt)
                  have e2 := hD1.1 (q - ba) w.length _ _ (by rw [List.getElem?_append_left (by rw [hlen]; exact hlt)]; exact e1) (by rw [← hlen, List.getElem?_concat_length]) (by show ba + (q - ba) = q; omega)
                  omega
                · omega
              subst hq
              have hP2 : va_P D vwCl (xr_w ep ba sg cy 0 (w ++ [.inr (0, n1, as1)])) H1 := by
                rw [xr_w_app, Nat.zero_add]
                exact hP1
              have k := k H1 locs ls ⟨hP2, xr_S_tr hS hS1, xr_P_len hP2 (by simp), fun _ => by rw [List.length_append]; simp; omega⟩ hl
              rw [hpc] at k
              exact k
          · cases hc
          · rename_i hno heq
            exact (heq u rfl).elim
      · cases h
    · cases h
  case invokespecial idx =>
    simp only [xr_nt, xr_nth_eq, xr_set_eq] at h
    split at h
    · rename_i u a st1
      cases hg : Nat.ble (xr_cs st1) 8 with
      | false => rw [hg] at h; cases h
      | true =>
        rw [hg] at h
        obtain ⟨hq, rfl, rfl, rfl⟩ := xr_wu_ok h
        obtain ⟨rfl, hpc, rfl, rfl, -⟩ := xr_seq_ok hq
        have g1 : xr_cs st1 ≤ 8 := Nat.le_of_ble_eq_true hg
        simp only [xr_cht] at hc
        split at hc
        · simp only [Bool.and_eq_true] at hc
          have k := k H locs ls hI hl
          rw [hpc] at k
          exact W.objInit hx hb hown (hts _ (xr_has_ok hc.1)) (hts _ (xr_has_ok hc.2.1)) (hts _ (xr_has_ok hc.2.2)) (g := F0 m pc ls (.ref (ba + a) :: xr_sv ep ba sg st1)) rfl (hsz.trans hml.symm) rfl hd hRf (by show 2 * 0 + _ + 12 ≤ _; rw [xr_cs_v]; omega) k
        · cases hc
        · rename_i hno heq
          exact (heq u rfl).elim
    · cases h
  all_goals exact absurd (show (none : Option xr_U) = some _ from h) (fun z => by cases z)
end XRN
end
section
/-! the machine itself: methods, calls, ends -/
abbrev xr_M : Type := MethodName × ByteArray × Nat × Option FieldType × List (Nat × Nat × Nat × Nat) × Nat × List xr_En
abbrev xr_Out : Type := (Option Value ⊕ Nat) × List xr_C × Bool × Nat × Nat
def xr_hw (M : xr_M) : Cond := match M.2.2.2.2.1 with
  | [] => .code M.1 M.2.1 M.2.2.1 M.2.2.2.1
  | h :: hh => .codeWith M.1 M.2.1 M.2.2.1 M.2.2.2.1 (h :: hh)
def xr_ws (M : xr_M) : List Cond := xr_hw M :: xr_tb
def xr_Ex (t : Nat) : String := match t with
  | 0 => "java/lang/IllegalArgumentException"
  | _ => "java/util/NoSuchElementException"
def xr_rt (ret : Option FieldType) (i : Instr) (st : List Value) : Option (Option Value) := match i with
  | .return_ => match ret, st with
    | none, [] => some none
    | _, _ => none
  | .ireturn => match ret, st with
    | some .int, [v] => bif xr_isI v then some (some v) else none
    | some .boolean, [.int x] => bif decide (x = 0) || decide (x = 1) then some (some (.int x)) else none
    | some .byte, [.int x] => bif decide (x = 0) then some (some (.int x)) else none
    | _, _ => none
  | .lreturn => match ret, st with
    | some .long, [v] => bif xr_isL v then some (some v) else none
    | _, _ => none
  | .areturn => match ret, st with
    | some (.array _), [v] => bif xr_isR v then some (some v) else none
    | some (.object _), [v] => bif xr_isR v then some (some v) else none
    | _, _ => none
  | _ => none
/-- which class an entry of the law's pool names where something is caught -/
def xr_ctn (ct : Nat) : Option Nat := match ct with
  | 13 => some 0
  | 31 => some 1
  | _ => none
def xr_cov (a b pc : Nat) : Bool := Nat.ble a pc && Nat.blt pc b
/-- the handler that takes a throw of the kind t at pc: where it is, the number it answers -/
def xr_hdl (hh : List (Nat × Nat × Nat × Nat)) (pc t : Nat) : Option (Nat × Nat) := match hh with
  | [(a, b, h, ct)] => bif xr_cov a b pc && decide (xr_ctn ct = some t) then some (h, 1) else none
  | [(a, b, h, ct), (a', b', h', ct')] => bif xr_cov a b pc && (xr_cov a' b' pc && (decide (xr_ctn ct = some 1) && decide (xr_ctn ct' = some 0))) then (match t with
    | 1 => some (h, 1)
    | 0 => some (h', 2)
    | _ => none) else none
  | _ => none
def xr_ca (mt : List xr_M) (aux : List Nat) (st : List Value) (w : List xr_C) (i : Instr) : Option (Nat × List Value × List Value) := match i with
  | .invokevirtual _ => match aux with
    | 3 :: u :: ci :: _ => match xr_nth mt u with
      | some M' => match xr_dr st M'.2.2.2.2.2.1 with
        | .ref k :: rest => match xr_nth w k with
          | some (.inl (cj, _)) => bif Nat.beq cj ci && (Nat.ble (xr_cs rest) 8 && Nat.beq (st.take M'.2.2.2.2.2.1).length M'.2.2.2.2.2.1) then some (u, .ref k :: (st.take M'.2.2.2.2.2.1).reverse, rest) else none
          | _ => none
        | _ => none
      | none => none
    | _ => none
  | .invokestatic _ => match aux with
    | 4 :: u :: _ => match xr_nth mt u with
      | some M' => bif Nat.ble (xr_cs (st.drop M'.2.2.2.2.2.1)) 8 && Nat.beq (st.take M'.2.2.2.2.2.1).length M'.2.2.2.2.2.1 then some (u, (st.take M'.2.2.2.2.2.1).reverse, st.drop M'.2.2.2.2.2.1) else none
      | none => none
    | _ => none
  | .invokespecial _ => match aux with
    | 5 :: u :: _ => match xr_nth mt u with
      | some M' => match xr_dr st M'.2.2.2.2.2.1 with
        | .ref k :: rest => bif Nat.ble (xr_cs rest) 8 && Nat.beq (st.take M'.2.2.2.2.2.1).length M'.2.2.2.2.2.1 then some (u, .ref k :: (st.take M'.2.2.2.2.2.1).reverse, rest) else none
        | _ => none
      | none => none
    | 6 :: u :: _ => match xr_nth mt u with
      | some M' => match xr_dr st M'.2.2.2.2.2.1 with
        | .ref k :: rest => bif Nat.ble (xr_cs rest) 8 && Nat.beq (st.take M'.2.2.2.2.2.1).length M'.2.2.2.2.2.1 then some (u, .ref k :: (st.take M'.2.2.2.2.2.1).reverse, rest) else none
        | _ => none
      | none => none
    | _ => none
  | _ => none
def xr_thr (d : Nat) (i : Instr) (aux : List Nat) (st : List Value) : Option Nat := match i with
  | .new _ => match aux with
    | 99 :: t :: _ => bif Nat.ble 5 d && Nat.ble (xr_cs st) 8 then some t else none
    | _ => none
  | _ => none
def xr_isV (i : Instr) : Bool := match i with
  | .invokevirtual _ => true
  | _ => false
/-- the pure instructions in heaps, so that the kernel takes up few rows at a time -/
def xr_pA (r : List xr_En) (pc len : Nat) (l : xr_L) (st : List Value) (i : Instr) : Option xr_S := match i with
  | .iload_n k => xr_ld xr_isI r pc len 1 l st k.val
  | .iload k => xr_ld xr_isI r pc len 2 l st k
  | .aload_n k => xr_ld xr_isB r pc len 1 l st k.val
  | .aload k => xr_ld xr_isB r pc len 2 l st k
  | _ => none
def xr_pB (df : xr_D) (nL : Nat) (r : List xr_En) (pc len : Nat) (l : xr_L) (st : List Value) (i : Instr) : Option xr_S := match i with
  | .istore_n k => xr_sto xr_isI nL r pc len 1 l st k.val
  | .istore k => xr_sto xr_isI nL r pc len 2 l st k
  | .iinc k n => match xr_get l k with
    | some x => match xr_bin df 0 x (.int (Int32.ofInt n)) with
      | some v => bif Nat.blt k nL then xr_seq r pc len 3 (xr_s1 l k v) st else none
      | none => none
    | none => none
  | _ => none
def xr_pC (r : List xr_En) (pc len : Nat) (l : xr_L) (st : List Value) (i : Instr) : Option xr_S := match i with
  | .iconst n => xr_seq r pc len 1 l (.int (Int32.ofInt n) :: st)
  | .bipush n => xr_seq r pc len 2 l (.int (Int8.ofInt n).toInt32 :: st)
  | .sipush n => xr_seq r pc len 3 l (.int (Int16.ofInt n).toInt32 :: st)
  | _ => none
def xr_pD (df : xr_D) (r : List xr_En) (pc len : Nat) (l : xr_L) (st : List Value) (i : Instr) : Option xr_S := match i with
  | .iadd => xr_ar df 0 r pc len l st
  | .isub => xr_ar df 1 r pc len l st
  | .imul => xr_ar df 2 r pc len l st
  | .iand => xr_ar df 5 r pc len l st
  | _ => none
def xr_pE (fx : xr_F) (tab r : List xr_En) (pc len : Nat) (aux : List Nat) (l : xr_L) (st : List Value) (i : Instr) : Option xr_S := match i with
  | .goto off => xr_to tab aux pc len 3 off l st
  | .ifCond c off => match st with
    | x :: st' => xr_br tab r aux pc len off l st' (xr_test fx c x (.int 0))
    | [] => none
  | .if_icmp c off => match st with
    | y :: x :: st' => xr_br tab r aux pc len off l st' (xr_test fx c x y)
    | _ => none
  | _ => none
theorem xr_pA_le {df : xr_D} {fx : xr_F} {nL : Nat} {tab r : List xr_En} {pc len : Nat} {aux : List Nat} {l : xr_L} {st : List Value} {i : Instr} {q : xr_S} (h : xr_pA r pc len l st i = some q) : xr_pure df fx nL tab r pc len aux l st i = some q := by
  cases i <;> first | exact h | (simp only [xr_pA, reduceCtorEq] at h)
theorem xr_pB_le {df : xr_D} {fx : xr_F} {nL : Nat} {tab r : List xr_En} {pc len : Nat} {aux : List Nat} {l : xr_L} {st : List Value} {i : Instr} {q : xr_S} (h : xr_pB df nL r pc len l st i = some q) : xr_pure df fx nL tab r pc len aux l st i = some q := by
  cases i <;> first | exact h | (simp only [xr_pB, reduceCtorEq] at h)
theorem xr_pC_le {df : xr_D} {fx : xr_F} {nL : Nat} {tab r : List xr_En} {pc len : Nat} {aux : List Nat} {l : xr_L} {st : List Value} {i : Instr} {q : xr_S} (h : xr_pC r pc len l st i = some q) : xr_pure df fx nL tab r pc len aux l st i = some q := by
  cases i <;> first | exact h | (simp only [xr_pC, reduceCtorEq] at h)
theorem xr_pD_le {df : xr_D} {fx : xr_F} {nL : Nat} {tab r : List xr_En} {pc len : Nat} {aux : List Nat} {l : xr_L} {st : List Value} {i : Instr} {q : xr_S} (h : xr_pD df r pc len l st i = some q) : xr_pure df fx nL tab r pc len aux l st i = some q := by
  cases i <;> first | exact h | (simp only [xr_pD, reduceCtorEq] at h)
theorem xr_pE_le {df : xr_D} {fx : xr_F} {nL : Nat} {tab r : List xr_En} {pc len : Nat} {aux : List Nat} {l : xr_L} {st : List Value} {i : Instr} {q : xr_S} (h : xr_pE fx tab r pc len aux l st i = some q) : xr_pure df fx nL tab r pc len aux l st i = some q := by
  cases i <;> first | exact h | (simp only [xr_pE, reduceCtorEq] at h)
abbrev xr_Ih : Type := List xr_En → xr_L → List Value → List xr_C → Bool → Nat → Nat → Option xr_Out
def xr_g3 (ih : xr_Ih) (w : List xr_C) (b : Bool) (ce sl : Nat) (o : Option xr_S) : Option xr_Out := match o with
  | some q => ih q.1 q.2.1 q.2.2 w b ce sl
  | none => none
def xr_g4 (ih : xr_Ih) (b : Bool) (ce sl : Nat) (o : Option xr_T) : Option xr_Out := match o with
  | some q => ih q.1 q.2.1 q.2.2.1 q.2.2.2 b ce sl
  | none => none
def xr_g6 (ih : xr_Ih) (b : Bool) (ce sl : Nat) (o : Option xr_U) : Option xr_Out := match o with
  | some q => ih q.1 q.2.1 q.2.2.1 q.2.2.2.1 b (ce + q.2.2.2.2.1) (sl + q.2.2.2.2.2)
  | none => none
def xr_gc (mt : List xr_M) (callf : Nat → List Value → List xr_C → Bool → Option xr_Out) (M : xr_M) (ih : xr_Ih) (e : xr_En) (r : List xr_En) (l : xr_L) (st : List Value) (w : List xr_C) (b : Bool) (ce sl : Nat) : Option xr_Out := match xr_ca mt e.2.2.2.1 st w e.2.1 with
  | none => none
  | some a => match callf a.1 a.2.1 w b with
    | none => none
    | some o => match o.1 with
      | .inl rv => match xr_seq r e.1 e.2.2.1 3 l (rv.toList ++ a.2.2) with
        | some q => ih q.1 q.2.1 q.2.2 o.2.1 o.2.2.1 (ce + o.2.2.2.1) (sl + o.2.2.2.2)
        | none => none
      | .inr t => bif xr_isV e.2.1 && Nat.beq e.2.2.1 3 then (match M.2.2.2.2.1 with
        | [] => some (.inr t, o.2.1, false, ce + o.2.2.2.1, sl + o.2.2.2.2)
        | _ :: _ => match xr_hdl M.2.2.2.2.1 e.1 t with
          | some h => some (.inl (some (.int (Int32.ofNat h.2))), o.2.1, false, ce + o.2.2.2.1, sl + o.2.2.2.2)
          | none => none) else none
def xr_ge (M : xr_M) (e : xr_En) (st : List Value) (w : List xr_C) (b : Bool) (ce sl : Nat) : Option xr_Out := match xr_rt M.2.2.2.1 e.2.1 st with
  | some rv => bif Nat.beq e.2.2.1 1 then some (.inl rv, w, b, ce, sl) else none
  | none => none
def xr_gt (d : Nat) (e : xr_En) (st : List Value) (w : List xr_C) (ce sl : Nat) : Option xr_Out := match xr_thr d e.2.1 e.2.2.2.1 st with
  | some t => some (.inr t, w, false, ce + 1, sl + 6)
  | none => none
/-- one instruction, by its kind -/
def xr_st (df : xr_D) (fx : xr_F) (scr : Option (List Value)) (mt : List xr_M) (d : Nat) (callf : Nat → List Value → List xr_C → Bool → Option xr_Out) (M : xr_M) (ih : xr_Ih) (rem : List xr_En) (l : xr_L) (st : List Value) (w : List xr_C) (b : Bool) (ce sl : Nat) : Option xr_Out := match rem with
  | [] => none
  | e :: r => match e.2.2.2.2 with
    | 0 => xr_g3 ih w b ce sl (xr_pA r e.1 e.2.2.1 l st e.2.1)
    | 1 => xr_g3 ih w b ce sl (xr_pB df M.2.2.1 r e.1 e.2.2.1 l st e.2.1)
    | 2 => xr_g3 ih w b ce sl (xr_pC r e.1 e.2.2.1 l st e.2.1)
    | 3 => xr_g3 ih w b ce sl (xr_pD df r e.1 e.2.2.1 l st e.2.1)
    | 4 => xr_g3 ih w b ce sl (xr_pE fx M.2.2.2.2.2.2 r e.1 e.2.2.1 e.2.2.2.1 l st e.2.1)
    | 5 => xr_g3 ih w b ce sl (xr_rd scr r e.1 e.2.2.1 e.2.2.2.1 l st w e.2.1)
    | 6 => xr_g4 ih b ce sl (xr_wt df r e.1 e.2.2.1 e.2.2.2.1 l st w e.2.1)
    | 7 => xr_gc mt callf M ih e r l st w b ce sl
    | 8 => xr_ge M e st w b ce sl
    | 9 => xr_g3 ih w b ce sl (xr_pure df fx M.2.2.1 M.2.2.2.2.2.2 r e.1 e.2.2.1 e.2.2.2.1 l st e.2.1)
    | 10 => xr_g6 ih b ce sl (xr_al b r e.1 e.2.2.1 e.2.2.2.1 l st w e.2.1)
    | 11 => xr_g6 ih b ce sl (xr_nt b r e.1 e.2.2.1 e.2.2.2.1 l st w e.2.1)
    | _ => xr_gt d e st w ce sl
abbrev xr_K0 : List xr_En → xr_L → List Value → List xr_C → Bool → Nat → Nat → Option xr_Out := fun _ _ _ _ _ _ _ => none
/-- n instructions, then K -/
def xr_lp (K : List xr_En → xr_L → List Value → List xr_C → Bool → Nat → Nat → Option xr_Out) (df : xr_D) (fx : xr_F) (scr : Option (List Value)) (mt : List xr_M) (d : Nat) (callf : Nat → List Value → List xr_C → Bool → Option xr_Out) (M : xr_M) (n : Nat) : List xr_En → xr_L → List Value → List xr_C → Bool → Nat → Nat → Option xr_Out :=
  Nat.rec K (fun _ ih => xr_st df fx scr mt d callf M ih) n
/-- a method, called at the depth d -/
def xr_R (df : xr_D) (fx : xr_F) (sm : Nat → Nat → List Value → List xr_C → Bool → Option xr_Out) (mt : List xr_M) (n d : Nat) : Nat → List Value → List xr_C → Bool → Option xr_Out :=
  Nat.rec (fun _ _ _ _ => none) (fun d ih u as w b => match sm (d + 1) u as w b with
    | some o => some o
    | none => match xr_nth mt u with
    | some M => bif Nat.ble (lg_sl as).length M.2.2.1 then xr_lp xr_K0 df fx none mt d ih M n M.2.2.2.2.2.2 (lv_args 0 as) [] w b 0 0 else none
    | none => none) d
-- what is decided of a method's table
def xr_fc (own name : String) (i : Instr) (aux : List Nat) : Bool := match i with
  | .getfield idx => xr_fld own idx aux
  | .putfield idx => xr_fld own idx aux && xr_fin own name aux
  | _ => true
def xr_site (M : xr_M) (pc : Nat) (t : Nat) : Bool := match t with
  | 0 => decide (M.1 = yX11_refuseWrong) && (decide (M.2.1 = cX11_refuseWrong) && (Nat.beq pc 10 && decide (M.2.2.2.2.1 = [])))
  | 1 => decide (M.1 = yX11_refuseMissing) && (decide (M.2.1 = cX11_refuseMissing) && (Nat.beq pc 10 && decide (M.2.2.2.2.1 = [])))
  | _ => false
def xr_nc (M : xr_M) (pc : Nat) (i : Instr) (aux : List Nat) : Bool := match i with
  | .new _ => match aux with
    | 99 :: t :: _ => xr_site M pc t
    | _ => xr_chn M.1.cls i aux
  | _ => xr_chn M.1.cls i aux
def xr_m0 (M' : xr_M) : Bool := decide (M'.1.cls ≠ "java/lang/invoke/MethodHandle") && (decide (M'.1.cls ≠ "java/lang/invoke/VarHandle") && (decide ((parseMethodDescriptor M'.1.desc).map (fun d => d.parameters.length) = some M'.2.2.2.2.2.1) && Nat.ble M'.2.2.1 100))
def xr_chc (mt : List xr_M) (own : String) (i : Instr) (aux : List Nat) : Bool := match i with
  | .invokevirtual idx => match aux with
    | 3 :: u :: ci :: hs => match mt[u]? with
      | some M' => match vwCl[ci]? with
        | some q => decide (q.1 = M'.1.cls) && (xr_m0 M' && (decide (M'.2.2.2.2.1 = []) && xr_hasAll [.methodLink own idx M'.1, .instanceMethod M'.1, .selects M'.1.cls M'.1 M'.1, .initialized M'.1.cls, xr_hw M'] hs))
        | none => false
      | none => false
    | _ => true
  | .invokestatic idx => match aux with
    | 4 :: u :: hs => match mt[u]? with
      | some M' => xr_m0 M' && xr_hasAll [.methodLink own idx M'.1, .static M'.1, .initialized M'.1.cls, xr_hw M'] hs
      | none => false
    | _ => true
  | .invokespecial idx => match aux with
    | 5 :: u :: hs => match mt[u]? with
      | some M' => xr_m0 M' && (decide (M'.1.name = "<init>") && (decide (M'.2.2.2.1 = none) && (decide (M'.2.2.2.2.1 = []) && xr_hasAll [.methodLink own idx M'.1, .instanceMethod M'.1, .initialized M'.1.cls, xr_hw M'] hs)))
      | none => false
    | 6 :: u :: h0 :: hs => match mt[u]? with
      | some M' => xr_m0 M' && (decide (M'.1.name = "<init>") && (decide (M'.2.2.2.1 = none) && (decide (M'.2.2.2.2.1 = []) && (xr_hasO h0 (.methodLinkNest own idx M'.1 "NoiseFields") && xr_hasAll [.instanceMethod M'.1, .initialized M'.1.cls, xr_hw M'] hs))))
      | none => false
    | 6 :: _ => false
    | _ => true
  | _ => true
def xr_chk (mt : List xr_M) (M : xr_M) (e : xr_En) : Bool := decide (decode M.2.1 e.1 = .ok (e.2.1, e.2.2.1)) && (xr_fc M.1.cls M.1.name e.2.1 e.2.2.2.1 && (xr_nc M e.1 e.2.1 e.2.2.2.1 && (xr_cht M.1.cls e.2.1 e.2.2.2.1 && (xr_chm M.1.cls e.2.1 e.2.2.2.1 && xr_chc mt M.1.cls e.2.1 e.2.2.2.1))))
/-- of a handler: it keeps what was thrown, answers its number -/
def xr_hc (M : xr_M) (h : Nat × Nat × Nat × Nat) (k : Nat) : Bool := (match xr_ctn h.2.2.2 with
  | some _ => true
  | none => false) && (decide (h.2.2.2 ≠ 0) && (match decode M.2.1 h.2.2.1 with
  | .ok (.astore_n q, 1) => Nat.blt q.val M.2.2.1 && (decide (decode M.2.1 (h.2.2.1 + 1) = .ok (.iconst (k : Int), 1)) && decide (decode M.2.1 (h.2.2.1 + 2) = .ok (.ireturn, 1)))
  | .ok (.astore q, 2) => Nat.blt q M.2.2.1 && (decide (decode M.2.1 (h.2.2.1 + 2) = .ok (.iconst (k : Int), 1)) && decide (decode M.2.1 (h.2.2.1 + 3) = .ok (.ireturn, 1)))
  | _ => false))
def xr_hcs (M : xr_M) : Bool := match M.2.2.2.2.1 with
  | [] => true
  | [h] => decide (M.1.cls = "NoiseFieldsLaw") && (decide (M.2.2.2.1 = some .int) && xr_hc M h 1)
  | [h, h'] => decide (M.1.cls = "NoiseFieldsLaw") && (decide (M.2.2.2.1 = some .int) && (xr_hc M h 1 && xr_hc M h' 2))
  | _ => false
def xr_Mok (mt : List xr_M) (M : xr_M) : Bool := plainName M.1.cls && (decide (M.2.2.1 ≤ 100) && (decide (xr_pc M.2.2.2.2.2.2 = 0) && (xr_hcs M && M.2.2.2.2.2.2.all (xr_chk mt M))))
end
section
/-! what the real machine does -/
def xr_Xt (ba : Nat) (sg : Nat → Nat) (s : State) : Prop :=
  vk_R "NoiseFields" 404 "an argument is outside what the document allows" (sg 2) s ∧ vk_R "NoiseFields" 397 "no such field, sound or order" (sg 3) s ∧
  vx_Zq Bundle.tN "UNASSIGNED_STACK" Bundle.steD (fun q => ba ≤ q) s s.heap ∧ vx_Zq Bundle.tN "SUPPRESSED_SENTINEL" Bundle.listD (fun q => ba ≤ q) s s.heap ∧
  va_Nc "java/lang/IllegalArgumentException" "java/util/NoSuchElementException" s
def xr_X (ba : Nat) (sg : Nat → Nat) (s : State) : Prop := xr_Z ba sg s ∧ (∀ w ∈ xr_ob, va_Nw w s) ∧ (Cond.arrayOver (.array .int)).before #[] s = true ∧ xr_Xt ba sg s
/-- the class of the rows of rows of ints stays as it is (after the kit's va_AO.moved, which is of rows of objects) -/
theorem xr_over_go {s U : State} {A A' : Array Value} (hW : s.WarmedH U.vm) (h : (Cond.arrayOver (.array .int)).before A s = true) : (Cond.arrayOver (.array .int)).before A' U = true := by
  have hvm := hW.alike
  have h0 : ∃ (comp c : ClassId) (k : Class), s.vm.findClass (FieldType.array .int).toString = some comp ∧ (s.vm.classes.findIdx? fun (x : Class) => match x.kind with | .array component _ => component == comp | _ => false) = some c ∧ s.vm.classes[c]? = some k ∧ k.kind = .array comp (.array .int) ∧ s.vm.findClass ("[" ++ (FieldType.array .int).toString) = some c := by
    have h : (Cond.arrayOver (.array .int)).holds A s none s [] = true := h
    simp only [Cond.holds, Cond.value, beq_iff_eq] at h
    cases hc : s.vm.findClass (FieldType.array .int).toString with
    | none => simp [hc] at h
    | some comp =>
      simp only [hc, Option.bind_some, Option.bind_eq_some_iff, Option.map_eq_some_iff] at h
      obtain ⟨c, hi, k, hk, hb⟩ := h
      obtain ⟨hlt, hp, -⟩ := Array.findIdx?_eq_some_iff_getElem.mp hi
      have hkk : s.vm.classes[c] = k := (Array.getElem?_eq_some_iff.mp hk).2
      rw [hkk] at hp
      cases hkind : k.kind with
      | array component ty =>
        rw [hkind] at hb hp
        simp at hb hp
        refine ⟨comp, c, k, rfl, hi, hk, ?_, hb.2⟩
        rw [hkind, hb.1, hp]
      | _ => rw [hkind] at hb; simp at hb
  obtain ⟨comp, c, k, h1, h2, h3, h4, h5⟩ := h0
  obtain ⟨k', hk', he⟩ := hvm.2.2 _ _ h3
  have hi : (U.vm.classes.findIdx? fun (x : Class) => match x.kind with | .array component _ => component == comp | _ => false) = some c := by
    have e1 := va_idx_bare U.vm comp
    have e2 := va_idx_bare s.vm comp
    have e3 : U.vm.bare = s.vm.bare := by first | exact hvm.bare_eq | exact hvm.bare_eq.symm
    rw [e3] at e1
    exact e1.symm.trans (e2.trans h2)
  have hkind : k'.kind = .array comp (.array .int) := by rw [he]; exact h4
  have f1 : U.vm.findClass (FieldType.array .int).toString = some comp := by rw [hvm.findClass]; exact h1
  have f2 : U.vm.findClass ("[" ++ (FieldType.array .int).toString) = some c := by rw [hvm.findClass]; exact h5
  unfold Cond.before Cond.holds
  simp only [Cond.value]
  rw [f1, Option.bind_some]
  refine (congrArg (fun o : Option Nat => (o.bind (fun c => (U.vm.classes[c]?).map fun (k : Class) => match k.kind with | .array _ ty => decide (ty = FieldType.array .int) && decide (U.vm.findClass ("[" ++ (FieldType.array .int).toString) = some c) | _ => false) == some true)) hi).trans ?_
  simp [hk', hkind, f2]
theorem xr_X_go {ba : Nat} {sg : Nat → Nat} {s U : State} {H : Heap} {locs : List Loc} (hX : xr_X ba sg s) (hW : s.WarmedH U.vm) (hS : va_S (fun q => ba ≤ q) s.heap H locs) (hH : U.heap = H) : xr_X ba sg U := by
  obtain ⟨⟨hz, ht⟩, ho, hv, h1, h2, h3, h4, h5⟩ := hX
  have hal := hW.alike
  subst hH
  refine ⟨⟨(hz.kept hS.2.1).moved hal, (ht.kept hS.2.1).moved hal⟩, fun w hw => xr_owk_warm (List.mem_filter.mp hw).2 hW (ho w hw), xr_over_go hW hv, vk_R.warm hW h1, vk_R.warm hW h2, (h3.kept hS.2.1).moved hal, (h4.kept hS.2.1).moved hal, h5.moved hal⟩
def xr_Pc (D : va_G) (ep : Nat → Int32) (ba : Nat) (sg : Nat → Nat) (cy : Nat → ClassId) (as : List Value) (w : List xr_C) (b : Bool) : Array Value → State → Prop := fun a U =>
  a = (xr_sv ep ba sg as).toArray ∧ xr_X ba sg U ∧ va_K D vwCl (xr_ty cy) U ∧ va_P D vwCl (xr_w ep ba sg cy 0 w) U.heap ∧ ba + w.length ≤ U.heap.size ∧ (b = true → U.heap.size = ba + w.length)
def xr_Fr (ba : Nat) (st t : State) : Prop := st.heap.size ≤ t.heap.size ∧ ∀ q : Nat, q < st.heap.size → ¬ ba ≤ q → t.heap[q]? = st.heap[q]?
def xr_Qc (D : va_G) (ep : Nat → Int32) (ba : Nat) (sg : Nat → Nat) (cy : Nat → ClassId) (rv : Option Value) (w : List xr_C) (b : Bool) (dc : Nat) : Array Value → State → Outcome → State → Prop := fun _ st o t =>
  o = .returned (rv.map (xr_v ep ba sg)) ∧ va_P D vwCl (xr_w ep ba sg cy 0 w) t.heap ∧ ba + w.length ≤ t.heap.size ∧ (b = true → st.heap.size + dc = ba + w.length) ∧ xr_Fr ba st t
def xr_XC (D : va_G) (ep : Nat → Int32) (ba : Nat) (sg : Nat → Nat) (cy : Nat → ClassId) (k : Nat) (w : List xr_C) : String → State → State → Prop := fun E st t =>
  E = xr_Ex k ∧ va_P D vwCl (xr_w ep ba sg cy 0 w) t.heap ∧ ba + w.length ≤ t.heap.size ∧ xr_Fr ba st t
abbrev xr_rm (d ce sl : Nat) : Room := { frames := d, cells := ce, slots := sl, locals := 150 * d }
def xr_Con (l : Launch) (D : va_G) (ep : Nat → Int32) (ba : Nat) (sg : Nat → Nat) (cy : Nat → ClassId) (mt : List xr_M) (d u : Nat) (as : List Value) (w : List xr_C) (b : Bool) (o : xr_Out) : Prop :=
  (o.2.2.1 = true → b = true) ∧ ∀ M, mt[u]? = some M → match o.1 with
    | .inl rv => Met l M.1 (xr_ws M) (xr_rm d o.2.2.2.1 o.2.2.2.2) (xr_Pc D ep ba sg cy as w b) (xr_Qc D ep ba sg cy rv o.2.1 o.2.2.1 o.2.2.2.1) o.2.2.2.1 o.2.2.2.2 (fun q => ba ≤ q)
    | .inr k => vx_Met l M.1 (xr_ws M) (xr_rm d o.2.2.2.1 o.2.2.2.2) (xr_Pc D ep ba sg cy as w b) (fun _ _ _ _ => False) (xr_XC D ep ba sg cy k o.2.1) o.2.2.2.1 o.2.2.2.2 (fun q => ba ≤ q)
section XRC
variable {p : Program} {l : Launch} {e : Env} {R : Room} {s : State} {m : MethodId} {args : Array Value} {below : List Frame} {meth : Method} {c : Code} {H : Heap} {locs : List Loc} {ce sl : Nat} {Q : State → Prop}
variable {cc : ByteArray} {ep : Nat → Int32} {ba : Nat} {sg : Nat → Nat} {cy : Nat → ClassId} {D : va_G} {ls : Array Slot} {nL : Nat} {own : String} {mt : List xr_M} {d : Nat}
theorem xr_blind {as : List Value} {w : List xr_C} {b : Bool} : FrameBlind (xr_Pc D ep ba sg cy as w b) := by
  intro a U g mk h
  obtain ⟨h1, h2, h3, h4, h5, h6⟩ := h
  exact ⟨h1, xr_X_go h2 (State.WarmedH.refl U) (locs := []) va_S.rf rfl, va_K.moved (u := U) (U := U.calling g mk a) (Vm.Alike.refl U.vm) h3, h4, h5, h6⟩
theorem xr_pre {as : List Value} {w : List xr_C} {b : Bool} (hX : xr_X ba sg s) (hK : va_K D vwCl (xr_ty cy) s) (hI : xr_I D ep ba sg cy s w b ce H locs) (hup : H.size ≤ s.heap.size + ce) : ∀ U : State, U.heap = H → s.WarmedH U.vm → xr_Pc D ep ba sg cy as w b (xr_sv ep ba sg as).toArray U := by
  intro U hU hW
  refine ⟨rfl, xr_X_go hX hW hI.2.1 hU, va_K.moved hW.alike hK, by rw [hU]; exact hI.1, by rw [hU]; exact hI.2.2.1, fun hb => ?_⟩
  have h1 := hI.2.2.2 hb
  have h2 := hI.2.2.1
  rw [hU]
  omega
theorem xr_goodM {M : xr_M} (h : xr_hw M ∈ xr_tb) : GoodIn xr_tb (xr_ws M) := by
  intro w hw
  rcases List.mem_cons.mp hw with rfl | hw
  · exact xr_tb_good h
  · exact xr_tb_good hw
theorem xr_hasAll_cons {w : Cond} {ws : List Cond} {hs : List Nat} (h : xr_hasAll (w :: ws) hs = true) : w ∈ xr_tb ∧ ∃ hs', xr_hasAll ws hs' = true := by
  cases hs with
  | nil => cases h
  | cons a t =>
    simp only [xr_hasAll, Bool.and_eq_true] at h
    exact ⟨xr_has_ok h.1, t, h.2⟩
/-- what a call owes and gives: the callee's contract at this heap -/
theorem xr_I_ret {w w' : List xr_C} {b b' : Bool} {dc : Nat} {rv : Option Value} {a : Array Value} {v : Option Value} {st₀ t T' : State} {L : List Loc} (hI : xr_I D ep ba sg cy s w b ce H locs) (hup : H.size ≤ s.heap.size + ce) (hbb : b' = true → b = true) (h0 : st₀.heap = H) (hL : ∀ q ∈ L, ba ≤ q.base) (e1 : T'.heap = t.heap) (hq : xr_Qc D ep ba sg cy rv w' b' dc a st₀ (.returned v) t) : v = rv.map (xr_v ep ba sg) ∧ xr_I D ep ba sg cy s w' b' (ce + dc) T'.heap (locs ++ L) := by
  obtain ⟨hv, hP, hz, hsz, hf1, hf2⟩ := hq
  cases hv
  rw [h0] at hsz hf1 hf2
  refine ⟨rfl, by rw [e1]; exact hP, ⟨?_, ?_, ?_⟩, by rw [e1]; exact hz, fun hb => ?_⟩
  · rw [e1]; exact Nat.le_trans hI.2.1.1 hf1
  · intro q h1 h2
    rw [e1, hf2 q (Nat.lt_of_lt_of_le h1 hI.2.1.1) h2]
    exact hI.2.1.2.1 q h1 h2
  · intro q hq
    rcases List.mem_append.mp hq with h | h
    · exact hI.2.1.2.2 q h
    · exact hL q h
  · have h1 := hsz hb
    have h2 := hI.2.2.2 (hbb hb)
    have h3 := hI.2.2.1
    omega
theorem xr_I_thr {w w' : List xr_C} {b : Bool} {k : Nat} {E : String} {st₀ t T' : State} {L : List Loc} (hI : xr_I D ep ba sg cy s w b ce H locs) (h0 : st₀.heap = H) (hL : ∀ q ∈ L, ba ≤ q.base) (e1 : T'.heap = t.heap) (hq : xr_XC D ep ba sg cy k w' E st₀ t) (dc : Nat) : E = xr_Ex k ∧ xr_I D ep ba sg cy s w' false (ce + dc) T'.heap (locs ++ L) := by
  obtain ⟨hE, hP, hz, hf1, hf2⟩ := hq
  rw [h0] at hf1 hf2
  refine ⟨hE, by rw [e1]; exact hP, ⟨?_, ?_, ?_⟩, by rw [e1]; exact hz, fun hb => by cases hb⟩
  · rw [e1]; exact Nat.le_trans hI.2.1.1 hf1
  · intro q h1 h2
    rw [e1, hf2 q (Nat.lt_of_lt_of_le h1 hI.2.1.1) h2]
    exact hI.2.1.2.1 q h1 h2
  · intro q hq
    rcases List.mem_append.mp hq with h | h
    · exact hI.2.1.2.2 q h
    · exact hL q h
end XRC
end
section
section XRC2
variable {p : Program} {l : Launch} {e : Env} {R : Room} {s : State} {m : MethodId} {args : Array Value} {below : List Frame} {meth : Method} {c : Code} {H : Heap} {locs : List Loc} {ce sl : Nat} {Q : State → Prop}
variable {cc : ByteArray} {ep : Nat → Int32} {ba : Nat} {sg : Nat → Nat} {cy : Nat → ClassId} {D : va_G} {ls : Array Slot} {nL : Nat} {own : String} {mt : List xr_M} {d : Nat}
theorem xr_sv_app (a b : List Value) : xr_sv ep ba sg (a ++ b) = xr_sv ep ba sg a ++ xr_sv ep ba sg b := List.map_append
theorem xr_go_ret {w w' : List xr_C} {b b' : Bool} {dc ds pc : Nat} {rv : Option Value} {a : Array Value} {st0 : List Value} {rest : List Value} (hr : va_Run p l e R s m args below meth c H locs ce sl dc ds (F0 m pc ls st0) (xr_sv ep ba sg rest) (xr_Qc D ep ba sg cy rv w' b' dc a) (fun q => ba ≤ q)) (hI : xr_I D ep ba sg cy s w b ce H locs) (hup : H.size ≤ s.heap.size + ce) (hbb : b' = true → b = true)
    (kk : ∀ (H' : Heap) (locs' : List Loc), xr_I D ep ba sg cy s w' b' (ce + dc) H' locs' → W p l e R s m args below meth c H' locs' (ce + dc) (sl + ds) Q (F0 m (pc + 3) ls (xr_sv ep ba sg (rv.toList ++ rest)))) : W p l e R s m args below meth c H locs ce sl Q (F0 m pc ls st0) := by
  intro T hT X
  obtain ⟨v, st₀, t, T', L, h0, X', hL, e1, e2, hq, st⟩ := hr T hT X
  obtain ⟨rfl, hI'⟩ := xr_I_ret hI hup hbb h0 hL e1 hq
  obtain ⟨t2, a1, b1⟩ := kk T'.heap (locs ++ L) hI' T' rfl X'
  refine ⟨t2, st t2 ?_, b1⟩
  have e9 : xr_sv ep ba sg (rv.toList ++ rest) = (rv.map (xr_v ep ba sg)).toList ++ xr_sv ep ba sg rest := by
    rw [xr_sv_app]
    cases rv <;> rfl
  rw [e9] at a1
  exact a1
theorem xr_go_thr {w w' : List xr_C} {b : Bool} {dc ds pc k : Nat} {a : Array Value} {st0 rest : List Value} (hr : vx_Run p l e R s m args below meth c H locs ce sl dc ds (F0 m pc ls st0) rest (fun _ _ _ => False) (xr_XC D ep ba sg cy k w') (fun q => ba ≤ q)) (hI : xr_I D ep ba sg cy s w b ce H locs)
    (kk : ∀ (H' : Heap) (locs' : List Loc) (q : Addr) (cl : Cell), xr_I D ep ba sg cy s w' false (ce + dc) H' locs' → H'[q]? = some cl → cl.vm = .none → s.vm.findClass (xr_Ex k) = some cl.cls → vx_W p l e R s m args below meth c H' locs' (ce + dc) (sl + ds) Q (F0 m pc ls rest) q) : W p l e R s m args below meth c H locs ce sl Q (F0 m pc ls st0) := by
  intro T hT X
  rcases hr T hT X with ⟨v, st₀, t, T', L, h0, X', hL, e1, e2, hq, st⟩ | ⟨q, st₀, t, T', L, E, cl, h0, X', hL, e1, e2, hq, hcl, hvm, hcls, st⟩
  · exact hq.elim
  · obtain ⟨rfl, hI'⟩ := xr_I_thr hI h0 hL e1 hq dc
    obtain ⟨t2, a1, b1⟩ := kk T'.heap (locs ++ L) q cl hI' (by rw [e1]; exact hcl) hvm hcls T' rfl X'
    exact ⟨t2, st.trans a1, b1⟩
theorem xr_m0_ok {M : xr_M} (h : xr_m0 M = true) : (M.1.cls ≠ "java/lang/invoke/MethodHandle" ∧ M.1.cls ≠ "java/lang/invoke/VarHandle") ∧ (∀ sig, parseMethodDescriptor M.1.desc = some sig → M.2.2.2.2.2.1 = sig.parameters.length) ∧ M.2.2.1 ≤ 100 := by
  simp only [xr_m0, Bool.and_eq_true, decide_eq_true_eq] at h
  refine ⟨⟨h.1, h.2.1⟩, fun sig hs => ?_, Nat.le_of_ble_eq_true h.2.2.2⟩
  have h2 := h.2.2.1
  rw [hs] at h2
  exact (Option.some.inj h2).symm
theorem xr_hw_nil {M : xr_M} (h : M.2.2.2.2.1 = []) : xr_hw M = .code M.1 M.2.1 M.2.2.1 M.2.2.2.1 := by
  unfold xr_hw
  rw [h]
theorem xr_callB {M : xr_M} {idx dc ds : Nat} (hts : ∀ w ∈ xr_tb, w.before args s = true) (h0 : xr_m0 M = true) (hh : M.2.2.2.2.1 = []) (hc : xr_hw M ∈ xr_tb) (hi : Cond.initialized M.1.cls ∈ xr_tb) (hlk : Cond.methodLink own idx M.1 ∈ xr_tb) (hRf : d + 1 ≤ R.frames) (hRl : 150 * (d + 1) ≤ R.locals) : CallB R s args own idx M.1 M.2.1 M.2.2.1 M.2.2.2.1 (xr_ws M) (xr_rm d dc ds) dc ds M.2.2.2.2.2.1 := by
  obtain ⟨hne, hlen, hmx⟩ := xr_m0_ok h0
  have hcc : Cond.code M.1 M.2.1 M.2.2.1 M.2.2.2.1 ∈ xr_ws M := by rw [← xr_hw_nil hh]; exact List.mem_cons_self
  refine ⟨rfl, rfl, hRf, ?_, pay_in hts (xr_goodM hc), hcc, ?_, hts _ hi, hne, hlen, hts _ hlk⟩
  · show 8 + (M.2.2.1 + 11) + 150 * d ≤ R.locals
    omega
  · rw [← xr_hw_nil hh]; exact hts _ hc
theorem xr_stk {st rest : List Value} {n k : Nat} (hd : st.drop n = .ref k :: rest) : xr_sv ep ba sg st = (xr_sv ep ba sg (st.take n).reverse).reverse ++ .ref (ba + k) :: xr_sv ep ba sg rest := by
  have h1 : st = st.take n ++ (.ref k :: rest) := by rw [← hd, List.take_append_drop]
  have h2 : xr_sv ep ba sg st = xr_sv ep ba sg (st.take n) ++ xr_sv ep ba sg (.ref k :: rest) := by
    rw [← xr_sv_app, ← h1]
  rw [h2]
  show _ = (List.map _ _).reverse ++ _
  rw [List.map_reverse, List.reverse_reverse]
  rfl
theorem xr_stk0 {st : List Value} {n : Nat} : xr_sv ep ba sg st = (xr_sv ep ba sg (st.take n).reverse).reverse ++ xr_sv ep ba sg (st.drop n) := by
  have h2 : xr_sv ep ba sg st = xr_sv ep ba sg (st.take n) ++ xr_sv ep ba sg (st.drop n) := by
    rw [← xr_sv_app, List.take_append_drop]
  rw [h2]
  show _ = (List.map _ _).reverse ++ _
  rw [List.map_reverse, List.reverse_reverse]
set_option maxHeartbeats 4000000 in
/-- a call that returns -/
theorem xr_ca_ret {aux : List Nat} {st : List Value} {w : List xr_C} {b : Bool} {i : Instr} {a : Nat × List Value × List Value} {rv : Option Value} {w' : List xr_C} {b' : Bool} {dc ds pc : Nat} (h : xr_ca mt aux st w i = some a) (hc : xr_chc mt own i aux = true) (hcon : xr_Con l D ep ba sg cy mt d a.1 a.2.1 w b (.inl rv, w', b', dc, ds)) (hx : p.tables.exec = Jvm.exec) (hb : c.code = cc) (hml : c.maxLocals = nL) (hown : s.vm.findClass own = some m.cls) (hts : ∀ w ∈ xr_tb, w.before args s = true) (hK : va_K D vwCl (xr_ty cy) s) (hX : xr_X ba sg s) (hd : decode cc pc = .ok (i, 3)) (hRf : d + 1 ≤ R.frames) (hRl : 150 * (d + 1) ≤ R.locals) (hR : ce + dc ≤ R.cells ∧ sl + ds ≤ R.slots) (hI : xr_I D ep ba sg cy s w b ce H locs) (hsz : ls.size = nL)
    (kk : ∀ (H' : Heap) (locs' : List Loc), xr_I D ep ba sg cy s w' b' (ce + dc) H' locs' → W p l e R s m args below meth c H' locs' (ce + dc) (sl + ds) Q (F0 m (pc + 3) ls (xr_sv ep ba sg (rv.toList ++ a.2.2)))) : W p l e R s m args below meth c H locs ce sl Q (F0 m pc ls (xr_sv ep ba sg st)) := by
  refine xr_up (fun hup => ?_)
  obtain ⟨hbb, hcon⟩ := hcon
  cases i
  case invokevirtual idx =>
    simp only [xr_ca, xr_nth_eq, xr_dr_eq] at h
    split at h
    · rename_i u ci hs
      simp only [xr_chc] at hc
      cases hM : mt[u]? with
      | none => rw [hM] at h; cases h
      | some M =>
        rw [hM] at h hc
        simp only at h hc
        split at h
        · rename_i k rest hdr
          split at h
          · rename_i cj fs hwk
            cases hg : (Nat.beq cj ci && (Nat.ble (xr_cs rest) 8 && Nat.beq (st.take M.2.2.2.2.2.1).length M.2.2.2.2.2.1)) with
            | false => rw [hg] at h; cases h
            | true =>
              rw [hg] at h
              cases h
              simp only [Bool.and_eq_true] at hg
              obtain ⟨g1, g2, g3⟩ := hg
              have g1 := Nat.eq_of_beq_eq_true g1
              subst g1
              have g2 : xr_cs rest ≤ 8 := Nat.le_of_ble_eq_true g2
              have g3 := Nat.eq_of_beq_eq_true g3
              split at hc
              · rename_i q hq
                simp only [Bool.and_eq_true, decide_eq_true_eq] at hc
                obtain ⟨c1, c2, c3, c4⟩ := hc
                obtain ⟨m1, _, c4⟩ := xr_hasAll_cons c4
                obtain ⟨m2, _, c4⟩ := xr_hasAll_cons c4
                obtain ⟨m3, _, c4⟩ := xr_hasAll_cons c4
                obtain ⟨m4, _, c4⟩ := xr_hasAll_cons c4
                obtain ⟨m5, _, c4⟩ := xr_hasAll_cons c4
                have hmet := hcon M hM
                refine xr_go_ret (va_runV (As := xr_sv ep ba sg (st.take M.2.2.2.2.2.1).reverse) (b := ba + k) (C := M.1.cls) (index := idx) (bytes := M.2.1) (maxL := M.2.2.1) (ret := M.2.2.2.1) (n := M.2.2.2.2.2.1) (Ts := xr_tb) (g := F0 m pc ls (xr_sv ep ba sg st)) ⟨hx, hb, hml, hown, hts⟩ hmet ⟨xr_callB hts c2 c3 m5 m4 m1 hRf hRl, hts _ m2, hts _ m3⟩ ⟨xr_blind, ?_, ?_⟩ rfl ?_ hsz (xr_stk hdr) ?_ hd hR) hI hup hbb kk
                · rw [← c1]
                  exact va_recv hK hI.1 hq (xr_w_at hwk)
                · exact xr_pre (as := .ref k :: (st.take M.2.2.2.2.2.1).reverse) hX hK hI hup
                · rw [List.length_map, List.length_reverse]; exact g3
                · show 2 * 0 + _ ≤ 8
                  rw [xr_cs_v]; omega
              · cases hc
          · cases h
        · cases h
    · cases h
  case invokestatic idx =>
    simp only [xr_ca, xr_nth_eq, xr_dr_eq] at h
    split at h
    · rename_i u hs
      simp only [xr_chc] at hc
      cases hM : mt[u]? with
      | none => rw [hM] at h; cases h
      | some M =>
        rw [hM] at h hc
        simp only at h hc
        cases hg : (Nat.ble (xr_cs (st.drop M.2.2.2.2.2.1)) 8 && Nat.beq (st.take M.2.2.2.2.2.1).length M.2.2.2.2.2.1) with
        | false => rw [hg] at h; cases h
        | true =>
          rw [hg] at h
          cases h
          simp only [Bool.and_eq_true] at hg
          obtain ⟨g2, g3⟩ := hg
          have g2 : xr_cs (st.drop M.2.2.2.2.2.1) ≤ 8 := Nat.le_of_ble_eq_true g2
          have g3 := Nat.eq_of_beq_eq_true g3
          simp only [Bool.and_eq_true] at hc
          obtain ⟨c2, c4⟩ := hc
          obtain ⟨m1, _, c4⟩ := xr_hasAll_cons c4
          obtain ⟨m2, _, c4⟩ := xr_hasAll_cons c4
          obtain ⟨m4, _, c4⟩ := xr_hasAll_cons c4
          obtain ⟨m5, _, c4⟩ := xr_hasAll_cons c4
          have hmet := hcon M hM
          cases hh : M.2.2.2.2.1 with
          | nil =>
            refine xr_go_ret (va_runS (As := xr_sv ep ba sg (st.take M.2.2.2.2.2.1).reverse) (index := idx) (bytes := M.2.1) (maxL := M.2.2.1) (ret := M.2.2.2.1) (n := M.2.2.2.2.2.1) (Ts := xr_tb) (g := F0 m pc ls (xr_sv ep ba sg st)) ⟨hx, hb, hml, hown, hts⟩ hmet ⟨xr_callB hts c2 hh m5 m4 m1 hRf hRl, hts _ m2⟩ ⟨xr_blind, ?_⟩ rfl ?_ hsz xr_stk0 ?_ hd hR) hI hup hbb kk
            · exact xr_pre (as := (st.take M.2.2.2.2.2.1).reverse) hX hK hI hup
            · rw [List.length_map, List.length_reverse]; exact g3
            · show 2 * 0 + _ ≤ 8
              rw [xr_cs_v]; omega
          | cons h1 ht =>
            obtain ⟨hne, hlen, hmx⟩ := xr_m0_ok c2
            have e5 : xr_hw M = .codeWith M.1 M.2.1 M.2.2.1 M.2.2.2.1 (h1 :: ht) := by unfold xr_hw; rw [hh]
            refine xr_go_ret (vx_runSW (As := xr_sv ep ba sg (st.take M.2.2.2.2.2.1).reverse) (index := idx) (bytes := M.2.1) (maxL := M.2.2.1) (ret := M.2.2.2.1) (n := M.2.2.2.2.2.1) (hh := h1 :: ht) (Ts := xr_tb) (g := F0 m pc ls (xr_sv ep ba sg st)) ⟨hx, hb, hml, hown, hts⟩ hmet ⟨⟨rfl, rfl, hRf, ?_, pay_in hts (xr_goodM m5), ?_⟩, ?_, hts _ m4, hne, hlen, hts _ m1, hts _ m2⟩ ⟨xr_blind, ?_⟩ rfl ?_ hsz xr_stk0 ?_ hd hR) hI hup hbb kk
            · show 8 + (M.2.2.1 + 11) + 150 * d ≤ R.locals
              omega
            · rw [← e5]; exact List.mem_cons_self
            · rw [← e5]; exact hts _ m5
            · exact xr_pre (as := (st.take M.2.2.2.2.2.1).reverse) hX hK hI hup
            · rw [List.length_map, List.length_reverse]; exact g3
            · show 2 * 0 + _ ≤ 8
              rw [xr_cs_v]; omega
    · cases h
  case invokespecial idx =>
    simp only [xr_ca, xr_nth_eq, xr_dr_eq] at h
    split at h
    · rename_i u hs
      simp only [xr_chc] at hc
      cases hM : mt[u]? with
      | none => rw [hM] at h; cases h
      | some M =>
        rw [hM] at h hc
        simp only at h hc
        split at h
        · rename_i k rest hdr
          cases hg : (Nat.ble (xr_cs rest) 8 && Nat.beq (st.take M.2.2.2.2.2.1).length M.2.2.2.2.2.1) with
          | false => rw [hg] at h; cases h
          | true =>
            rw [hg] at h
            cases h
            simp only [Bool.and_eq_true] at hg
            obtain ⟨g2, g3⟩ := hg
            have g2 : xr_cs rest ≤ 8 := Nat.le_of_ble_eq_true g2
            have g3 := Nat.eq_of_beq_eq_true g3
            simp only [Bool.and_eq_true, decide_eq_true_eq] at hc
            obtain ⟨c2, cn, cr, c3, c4⟩ := hc
            obtain ⟨m1, _, c4⟩ := xr_hasAll_cons c4
            obtain ⟨m2, _, c4⟩ := xr_hasAll_cons c4
            obtain ⟨m4, _, c4⟩ := xr_hasAll_cons c4
            obtain ⟨m5, _, c4⟩ := xr_hasAll_cons c4
            have hmet := hcon M hM
            have hcb := xr_callB (dc := dc) (ds := ds) hts c2 c3 m5 m4 m1 hRf hRl
            rw [cr] at hcb
            refine xr_go_ret (va_runI (As := xr_sv ep ba sg (st.take M.2.2.2.2.2.1).reverse) (b := ba + k) (index := idx) (bytes := M.2.1) (maxL := M.2.2.1) (n := M.2.2.2.2.2.1) (Ts := xr_tb) (g := F0 m pc ls (xr_sv ep ba sg st)) ⟨hx, hb, hml, hown, hts⟩ hmet ⟨hcb, cn, hts _ m2⟩ ⟨xr_blind, ?_⟩ rfl ?_ hsz (xr_stk hdr) ?_ hd hR) hI hup hbb kk
            · exact xr_pre (as := .ref k :: (st.take M.2.2.2.2.2.1).reverse) hX hK hI hup
            · rw [List.length_map, List.length_reverse]; exact g3
            · show 2 * 0 + _ ≤ 8
              rw [xr_cs_v]; omega
        · cases h
    · rename_i u hs
      simp only [xr_chc] at hc
      cases hM : mt[u]? with
      | none => rw [hM] at h; cases h
      | some M =>
        rw [hM] at h
        simp only at h
        split at h
        · rename_i k rest hdr
          cases hg : (Nat.ble (xr_cs rest) 8 && Nat.beq (st.take M.2.2.2.2.2.1).length M.2.2.2.2.2.1) with
          | false => rw [hg] at h; cases h
          | true =>
            rw [hg] at h
            cases h
            simp only [Bool.and_eq_true] at hg
            obtain ⟨g2, g3⟩ := hg
            have g2 : xr_cs rest ≤ 8 := Nat.le_of_ble_eq_true g2
            have g3 := Nat.eq_of_beq_eq_true g3
            split at hc
            · rename_i heq
              cases heq
            · rename_i u2 h0 hs2 heq
              cases heq
              rw [hM] at hc
              simp only [Bool.and_eq_true, decide_eq_true_eq] at hc
              obtain ⟨c2, cn, cr, c3, c0, c4⟩ := hc
              obtain ⟨m2, _, c4⟩ := xr_hasAll_cons c4
              obtain ⟨m4, _, c4⟩ := xr_hasAll_cons c4
              obtain ⟨m5, _, c4⟩ := xr_hasAll_cons c4
              have hmet := hcon M hM
              obtain ⟨hne, hlen, hmx⟩ := xr_m0_ok c2
              have e5 : xr_hw M = .code M.1 M.2.1 M.2.2.1 none := by rw [xr_hw_nil c3, cr]
              refine xr_go_ret (va_runIN (As := xr_sv ep ba sg (st.take M.2.2.2.2.2.1).reverse) (b := ba + k) (index := idx) (host := "NoiseFields") (bytes := M.2.1) (maxL := M.2.2.1) (n := M.2.2.2.2.2.1) (Ts := xr_tb) (g := F0 m pc ls (xr_sv ep ba sg st)) ⟨hx, hb, hml, hown, hts⟩ hmet ⟨⟨⟨rfl, rfl, hRf, ?_, pay_in hts (xr_goodM m5), ?_⟩, ?_, hts _ m4, hne, hlen, va_Nw.use rfl (hX.2.1 _ (xr_hasO_ok c0))⟩, cn, hts _ m2⟩ ⟨xr_blind, ?_⟩ rfl ?_ hsz (xr_stk hdr) ?_ hd hR) hI hup hbb kk
              · show 8 + (M.2.2.1 + 11) + 150 * d ≤ R.locals
                omega
              · rw [← e5]; exact List.mem_cons_self
              · rw [← e5]; exact hts _ m5
              · exact xr_pre (as := .ref k :: (st.take M.2.2.2.2.2.1).reverse) hX hK hI hup
              · rw [List.length_map, List.length_reverse]; exact g3
              · show 2 * 0 + _ ≤ 8
                rw [xr_cs_v]; omega
            · cases hc
            · rename_i hn1 hn2 hn3
              exact (hn3 _ rfl).elim
        · cases h
    · cases h
  all_goals exact absurd (show (none : Option (Nat × List Value × List Value)) = some _ from h) (fun z => by cases z)
end XRC2
end
section
section XRC3
variable {p : Program} {l : Launch} {e : Env} {R : Room} {s : State} {m : MethodId} {args : Array Value} {below : List Frame} {meth : Method} {c : Code} {H : Heap} {locs : List Loc} {ce sl : Nat} {Q : State → Prop}
variable {cc : ByteArray} {ep : Nat → Int32} {ba : Nat} {sg : Nat → Nat} {cy : Nat → ClassId} {D : va_G} {ls : Array Slot} {nL : Nat} {own : String} {mt : List xr_M} {d : Nat}
set_option maxHeartbeats 4000000 in
/-- a call that throws -/
theorem xr_ca_thr {aux : List Nat} {st : List Value} {w : List xr_C} {b : Bool} {i : Instr} {a : Nat × List Value × List Value} {k0 : Nat} {w' : List xr_C} {b' : Bool} {dc ds pc : Nat} (hv : xr_isV i = true) (h : xr_ca mt aux st w i = some a) (hc : xr_chc mt own i aux = true) (hcon : xr_Con l D ep ba sg cy mt d a.1 a.2.1 w b (.inr k0, w', b', dc, ds)) (hx : p.tables.exec = Jvm.exec) (hb : c.code = cc) (hml : c.maxLocals = nL) (hown : s.vm.findClass own = some m.cls) (hts : ∀ w ∈ xr_tb, w.before args s = true) (hK : va_K D vwCl (xr_ty cy) s) (hX : xr_X ba sg s) (hd : decode cc pc = .ok (i, 3)) (hRf : d + 1 ≤ R.frames) (hRl : 150 * (d + 1) ≤ R.locals) (hR : ce + dc ≤ R.cells ∧ sl + ds ≤ R.slots) (hI : xr_I D ep ba sg cy s w b ce H locs) (hsz : ls.size = nL)
    (kk : ∀ (H' : Heap) (locs' : List Loc) (q : Addr) (cl : Cell), xr_I D ep ba sg cy s w' false (ce + dc) H' locs' → H'[q]? = some cl → cl.vm = .none → s.vm.findClass (xr_Ex k0) = some cl.cls → vx_W p l e R s m args below meth c H' locs' (ce + dc) (sl + ds) Q (F0 m pc ls (xr_sv ep ba sg a.2.2)) q) : W p l e R s m args below meth c H locs ce sl Q (F0 m pc ls (xr_sv ep ba sg st)) := by
  refine xr_up (fun hup => ?_)
  obtain ⟨hbb, hcon⟩ := hcon
  cases i
  case invokevirtual idx =>
    simp only [xr_ca, xr_nth_eq, xr_dr_eq] at h
    split at h
    · rename_i u ci hs
      simp only [xr_chc] at hc
      cases hM : mt[u]? with
      | none => rw [hM] at h; cases h
      | some M =>
        rw [hM] at h hc
        simp only at h hc
        split at h
        · rename_i k rest hdr
          split at h
          · rename_i cj fs hwk
            cases hg : (Nat.beq cj ci && (Nat.ble (xr_cs rest) 8 && Nat.beq (st.take M.2.2.2.2.2.1).length M.2.2.2.2.2.1)) with
            | false => rw [hg] at h; cases h
            | true =>
              rw [hg] at h
              cases h
              simp only [Bool.and_eq_true] at hg
              obtain ⟨g1, g2, g3⟩ := hg
              have g1 := Nat.eq_of_beq_eq_true g1
              subst g1
              have g2 : xr_cs rest ≤ 8 := Nat.le_of_ble_eq_true g2
              have g3 := Nat.eq_of_beq_eq_true g3
              split at hc
              · rename_i q hq
                simp only [Bool.and_eq_true, decide_eq_true_eq] at hc
                obtain ⟨c1, c2, c3, c4⟩ := hc
                obtain ⟨m1, _, c4⟩ := xr_hasAll_cons c4
                obtain ⟨m2, _, c4⟩ := xr_hasAll_cons c4
                obtain ⟨m3, _, c4⟩ := xr_hasAll_cons c4
                obtain ⟨m4, _, c4⟩ := xr_hasAll_cons c4
                obtain ⟨m5, _, c4⟩ := xr_hasAll_cons c4
                have hmet := hcon M hM
                refine xr_go_thr (a := #[]) (vx_runV (As := xr_sv ep ba sg (st.take M.2.2.2.2.2.1).reverse) (b := ba + k) (C := M.1.cls) (index := idx) (bytes := M.2.1) (maxL := M.2.2.1) (ret := M.2.2.2.1) (n := M.2.2.2.2.2.1) (Ts := xr_tb) (g := F0 m pc ls (xr_sv ep ba sg st)) ⟨hx, hb, hml, hown, hts⟩ hmet ⟨xr_callB hts c2 c3 m5 m4 m1 hRf hRl, hts _ m2, hts _ m3⟩ ⟨xr_blind, ?_, ?_⟩ rfl ?_ hsz (xr_stk hdr) ?_ hd hR) hI kk
                · rw [← c1]
                  exact va_recv hK hI.1 hq (xr_w_at hwk)
                · exact xr_pre (as := .ref k :: (st.take M.2.2.2.2.2.1).reverse) hX hK hI hup
                · rw [List.length_map, List.length_reverse]; exact g3
                · show 2 * 0 + _ ≤ 8
                  rw [xr_cs_v]; omega
              · cases hc
          · cases h
        · cases h
    · cases h
  all_goals cases hv
theorem xr_seq_suf {r r' : List xr_En} {pc len n : Nat} {lv l' : xr_L} {st st' : List Value} (h : xr_seq r pc len n lv st = some (r', l', st')) : r' = r := (xr_seq_ok h).2.2.2.2.symm
/-- where an instruction may go on: behind it, or at a place of the table -/
def xr_suf (tab r r' : List xr_En) : Prop := r' = r ∨ ∃ t, r' = tab.drop t
theorem xr_to_suf {tab r r' : List xr_En} {aux : List Nat} {pc len n : Nat} {off : Int} {lv l' : xr_L} {st st' : List Value} (h : xr_to tab aux pc len n off lv st = some (r', l', st')) : xr_suf tab r r' := Or.inr ⟨_, (xr_to_ok h).2.2.2.2⟩
theorem xr_suf_mem {tab r r' : List xr_En} (hr : ∀ e ∈ r, e ∈ tab) (h : xr_suf tab r r') : ∀ e ∈ r', e ∈ tab := by
  rcases h with rfl | ⟨t, rfl⟩
  · exact hr
  · exact fun e he => List.mem_of_mem_drop he
end XRC3
end
section
section XRG
set_option maxHeartbeats 4000000 in
theorem xr_pure_suf {df : xr_D} {fx : xr_F} {nL : Nat} {tab r r' : List xr_En} {pc len : Nat} {aux : List Nat} {lv l' : xr_L} {st st' : List Value} {i : Instr} (h : xr_pure df fx nL tab r pc len aux lv st i = some (r', l', st')) : xr_suf tab r r' := by
  cases i <;> simp only [xr_pure, xr_ld, xr_sto, xr_stl, xr_ar, xr_dv, xr_un, xr_br, xr_lo, xr_sw, xr_lk, Bool.cond_eq_ite, reduceCtorEq] at h <;> repeat' (first | (exact Or.inl (xr_seq_suf h)) | (exact xr_to_suf h) | (cases h; done) | split at h)
theorem xr_rd_suf {scr : Option (List Value)} {tab r r' : List xr_En} {pc len : Nat} {aux : List Nat} {lv l' : xr_L} {st st' : List Value} {w : List xr_C} {i : Instr} (h : xr_rd scr r pc len aux lv st w i = some (r', l', st')) : xr_suf tab r r' := by
  cases i <;> simp only [xr_rd, xr_rda, Bool.cond_eq_ite, reduceCtorEq] at h <;> repeat' (first | (exact Or.inl (xr_seq_suf h)) | (cases h; done) | split at h)
theorem xr_wt_suf {df : xr_D} {tab r r' : List xr_En} {pc len : Nat} {aux : List Nat} {lv l' : xr_L} {st st' : List Value} {w w' : List xr_C} {i : Instr} (h : xr_wt df r pc len aux lv st w i = some (r', l', st', w')) : xr_suf tab r r' := by
  cases i <;> simp only [xr_wt, xr_wta, Bool.cond_eq_ite, reduceCtorEq] at h <;> repeat' (first | (exact Or.inl (xr_seq_suf (xr_wr_ok h).1)) | (cases h; done) | split at h)
theorem xr_al_suf {b : Bool} {tab r r' : List xr_En} {pc len : Nat} {aux : List Nat} {lv l' : xr_L} {st st' : List Value} {w w' : List xr_C} {dc ds : Nat} {i : Instr} (h : xr_al b r pc len aux lv st w i = some (r', l', st', w', dc, ds)) : xr_suf tab r r' := by
  cases b with
  | false => simp [xr_al] at h
  | true => cases i <;> simp only [xr_al, Bool.cond_eq_ite, reduceCtorEq, if_true] at h <;> repeat' (first | (exact Or.inl (xr_seq_suf (xr_wu_ok h).1)) | (cases h; done) | split at h)
set_option maxHeartbeats 4000000 in
theorem xr_nt_suf {b : Bool} {tab r r' : List xr_En} {pc len : Nat} {aux : List Nat} {lv l' : xr_L} {st st' : List Value} {w w' : List xr_C} {dc ds : Nat} {i : Instr} (h : xr_nt b r pc len aux lv st w i = some (r', l', st', w', dc, ds)) : xr_suf tab r r' := by
  cases i <;> simp only [xr_nt, Bool.cond_eq_ite, reduceCtorEq] at h <;> repeat' (first | (exact Or.inl (xr_seq_suf (xr_wu_ok h).1)) | (cases h; done) | split at h)
end XRG
end
section
section XRL
variable {p : Program} {l : Launch} {e : Env} {R : Room} {s : State} {m : MethodId} {args : Array Value} {below : List Frame} {meth : Method} {c : Code} {Q : State → Prop}
variable {ep : Nat → Int32} {ba : Nat} {sg : Nat → Nat} {cy : Nat → ClassId} {D : va_G} {mt : List xr_M} {d : Nat}
theorem xr_al_chn {M : xr_M} {b : Bool} {r : List xr_En} {pc pc' len : Nat} {aux : List Nat} {lv : xr_L} {st : List Value} {w : List xr_C} {i : Instr} {q : xr_U} (h : xr_al b r pc len aux lv st w i = some q) (hn : xr_nc M pc' i aux = true) : xr_chn M.1.cls i aux = true := by
  cases i <;> first | exact hn | skip
  unfold xr_nc at hn
  simp only at hn
  split at hn
  · unfold xr_al at h
    cases b with
    | false => cases h
    | true =>
      simp only [cond_true] at h
      rw [show Nat.ble 99 12 = false from rfl] at h
      cases h
  · exact hn
theorem xr_ctn_ok {ct t : Nat} (h : xr_ctn ct = some t) : Cond.classLink "NoiseFieldsLaw" ct (xr_Ex t) ∈ xr_tb ∧ Cond.castable (xr_Ex t) (xr_Ex t) ∈ xr_ob := by
  unfold xr_ctn at h
  split at h
  · cases h; exact ⟨xr_has_ok (h := 790) (by decide +kernel), xr_hasO_ok (h := 810) (by decide +kernel)⟩
  · cases h; exact ⟨xr_has_ok (h := 1212) (by decide +kernel), xr_hasO_ok (h := 1227) (by decide +kernel)⟩
  · cases h
theorem xr_cov_ok {a b pc h ct : Nat} (q : xr_cov a b pc = true) : covers ⟨a, b, h, ct⟩ pc = true := by
  simp only [xr_cov, Bool.and_eq_true] at q
  simp only [covers, Bool.and_eq_true, decide_eq_true_eq]
  exact ⟨Nat.le_of_ble_eq_true q.1, Nat.le_of_ble_eq_true q.2⟩
/-- a handler's three instructions -/
theorem xr_hc_ok {M : xr_M} {h : Nat × Nat × Nat × Nat} {k : Nat} {H : Heap} {locs : List Loc} {ce sl : Nat} {ls : Array Slot} {lv : List (Nat × Value)} {q : Addr} (hk : k = 1 ∨ k = 2) (hc : xr_hc M h k = true) (hx : p.tables.exec = Jvm.exec) (hb : c.code = M.2.1) (hl : lv_has ls M.2.2.1 lv)
    (kk : ∀ (pc : Nat) (ls' : Array Slot), decode M.2.1 pc = .ok (.ireturn, 1) → W p l e R s m args below meth c H locs ce sl Q (F0 m pc ls' [.int (Int32.ofNat k)])) : W p l e R s m args below meth c H locs ce sl Q (F0 m h.2.2.1 ls [.ref q]) := by
  simp only [xr_hc, Bool.and_eq_true] at hc
  obtain ⟨-, -, hc⟩ := hc
  have hki : Int32.ofInt (k : Int) = Int32.ofNat k := by rcases hk with rfl | rfl <;> decide
  split at hc
  · rename_i z hz
    simp only [Bool.and_eq_true, decide_eq_true_eq] at hc
    refine lv_astore_n hx hb hz rfl hl (Nat.le_of_ble_eq_true hc.1) rfl (fun ls' hl' => ?_)
    exact lv_iconst hx hb hc.2.1 hki (kk _ _ hc.2.2)
  · rename_i z hz
    simp only [Bool.and_eq_true, decide_eq_true_eq] at hc
    refine lv_astore hx hb hz hl (Nat.le_of_ble_eq_true hc.1) rfl (fun ls' hl' => ?_)
    exact lv_iconst hx hb hc.2.1 hki (kk _ _ hc.2.2)
  · cases hc
set_option maxHeartbeats 4000000 in
theorem xr_catch_ok {M : xr_M} {pc t : Nat} {h : Nat × Nat} {H : Heap} {locs : List Loc} {ce sl : Nat} {ls : Array Slot} {lv : List (Nat × Value)} {rest : List Value} {q : Addr} {cl : Cell} (hcs : xr_hcs M = true) (hTab : c.exceptionTable.toList = tableOf M.2.2.2.2.1) (hh : xr_hdl M.2.2.2.2.1 pc t = some h) (hx : p.tables.exec = Jvm.exec) (hb : c.code = M.2.1) (hown : s.vm.findClass M.1.cls = some m.cls) (hts : ∀ w ∈ xr_tb, w.before args s = true) (hX : xr_X ba sg s) (hl : lv_has ls M.2.2.1 lv) (hcell : H[q]? = some cl) (hv : cl.vm = .none) (hcl : s.vm.findClass (xr_Ex t) = some cl.cls)
    (kk : M.2.2.2.1 = some .int → ∀ (pc : Nat) (ls' : Array Slot), decode M.2.1 pc = .ok (.ireturn, 1) → W p l e R s m args below meth c H locs ce sl Q (F0 m pc ls' [.int (Int32.ofNat h.2)])) : vx_W p l e R s m args below meth c H locs ce sl Q (F0 m pc ls rest) q := by
  unfold xr_hdl at hh
  split at hh
  · rename_i a b hp ct heq
    simp only [xr_hcs, heq, Bool.and_eq_true, decide_eq_true_eq] at hcs
    obtain ⟨ho, hr, hc⟩ := hcs
    cases hg : (xr_cov a b pc && decide (xr_ctn ct = some t)) with
    | false => rw [hg] at hh; cases hh
    | true =>
      rw [hg] at hh
      cases hh
      simp only [Bool.and_eq_true, decide_eq_true_eq] at hg
      obtain ⟨w1, w2⟩ := xr_ctn_ok hg.2
      have hct : ct ≠ 0 := by
        intro z
        rw [z] at hg
        simp [xr_ctn] at hg
      rw [heq] at hTab
      refine vx_catch (name := xr_Ex t) hown [] ⟨a, b, hp, ct⟩ [] hTab (fun z hz => by cases hz) (xr_cov_ok hg.1) hct ?_ (va_Nw.use rfl (hX.2.1 _ w2)) hcell hv hcl (xr_hc_ok (h := (a, b, hp, ct)) (Or.inl rfl) hc hx hb hl (kk hr))
      rw [ho]
      exact hts _ w1
  · rename_i a b hp ct a' b' hp' ct' heq
    simp only [xr_hcs, heq, Bool.and_eq_true, decide_eq_true_eq] at hcs
    obtain ⟨ho, hr, hc, hc'⟩ := hcs
    cases hg : (xr_cov a b pc && (xr_cov a' b' pc && (decide (xr_ctn ct = some 1) && decide (xr_ctn ct' = some 0)))) with
    | false => rw [hg] at hh; cases hh
    | true =>
      rw [hg] at hh
      simp only [Bool.and_eq_true, decide_eq_true_eq] at hg
      obtain ⟨g1, g2, g3, g4⟩ := hg
      obtain ⟨w1, w2⟩ := xr_ctn_ok g3
      obtain ⟨w3, w4⟩ := xr_ctn_ok g4
      have hct : ct ≠ 0 := by
        intro z
        rw [z] at g3
        simp [xr_ctn] at g3
      have hct' : ct' ≠ 0 := by
        intro z
        rw [z] at g4
        simp [xr_ctn] at g4
      rw [heq] at hTab
      simp only [cond_true] at hh
      split at hh
      · cases hh
        refine vx_catch (name := xr_Ex 1) hown [] ⟨a, b, hp, ct⟩ [⟨a', b', hp', ct'⟩] hTab (fun z hz => by cases hz) (xr_cov_ok g1) hct ?_ (va_Nw.use rfl (hX.2.1 _ w2)) hcell hv hcl (xr_hc_ok (h := (a, b, hp, ct)) (Or.inl rfl) hc hx hb hl (kk hr))
        rw [ho]
        exact hts _ w1
      · cases hh
        refine vx_catch (name := xr_Ex 0) hown [⟨a, b, hp, ct⟩] ⟨a', b', hp', ct'⟩ [] hTab (fun z hz => ?_) (xr_cov_ok g2) hct' ?_ (va_Nw.use rfl (hX.2.1 _ w4)) hcell hv hcl (xr_hc_ok (h := (a', b', hp', ct')) (Or.inr rfl) hc' hx hb hl (kk hr))
        · rcases List.mem_cons.mp hz with rfl | hz
          · refine Or.inr ⟨hct, xr_Ex 1, ?_, hX.2.2.2.2.2.2.2⟩
            rw [ho]
            exact hts _ w1
          · cases hz
        · rw [ho]
          exact hts _ w3
      · cases hh
  · cases hh
set_option maxHeartbeats 4000000 in
theorem xr_lp_ok {K : List xr_En → xr_L → List Value → List xr_C → Bool → Nat → Nat → Option xr_Out} {df : xr_D} {fx : xr_F} {scr : Option (List Value)} {callf : Nat → List Value → List xr_C → Bool → Option xr_Out} {M : xr_M} {out : xr_Out} (hD : xr_okD ep ba sg df) (hF : xr_okF ep ba sg fx) (hcall : ∀ u as w b o, callf u as w b = some o → xr_Con l D ep ba sg cy mt d u as w b o)
    (hMt : ∀ x ∈ M.2.2.2.2.2.2, xr_chk mt M x = true) (hcs : xr_hcs M = true) (hx : p.tables.exec = Jvm.exec) (hb : c.code = M.2.1) (hml : c.maxLocals = M.2.2.1) (hown : s.vm.findClass M.1.cls = some m.cls) (hname : meth.name = M.1.name) (hts : ∀ w ∈ xr_tb, w.before args s = true) (hK : va_K D vwCl (xr_ty cy) s) (hX : xr_X ba sg s) (hba : ba ≤ s.heap.size) (hsc : xr_Sc ep ba sg s scr) (hTab : c.exceptionTable.toList = tableOf M.2.2.2.2.1) (hRf : d + 1 ≤ R.frames) (hRl : 150 * (d + 1) ≤ R.locals) (hRc : out.2.2.2.1 ≤ R.cells) (hRs : out.2.2.2.2 ≤ R.slots)
    (hEnd : ∀ (i : Instr) (pc : Nat) (st : List Value) (rv : Option Value) (w : List xr_C) (b : Bool) (ce sl : Nat) (H : Heap) (locs : List Loc) (ls : Array Slot), out = (.inl rv, w, b, ce, sl) → xr_rt M.2.2.2.1 i st = some rv → decode M.2.1 pc = .ok (i, 1) → xr_I D ep ba sg cy s w b ce H locs → W p l e R s m args below meth c H locs ce sl Q (F0 m pc ls (xr_sv ep ba sg st)))
    (hThr : ∀ (t pc : Nat) (st : List Value) (w : List xr_C) (b : Bool) (ce sl : Nat) (H : Heap) (locs : List Loc) (ls : Array Slot), out = (.inr t, w, false, ce + 1, sl + 6) → xr_site M pc t = true → xr_cs st ≤ 8 → 5 ≤ d → ls.size = M.2.2.1 → xr_I D ep ba sg cy s w b ce H locs → W p l e R s m args below meth c H locs ce sl Q (F0 m pc ls (xr_sv ep ba sg st)))
    (hPas : ∀ (t pc : Nat) (rest : List Value) (w : List xr_C) (ce sl : Nat) (H : Heap) (locs : List Loc) (ls : Array Slot) (q : Addr) (cl : Cell), out = (.inr t, w, false, ce, sl) → M.2.2.2.2.1 = [] → xr_I D ep ba sg cy s w false ce H locs → H[q]? = some cl → cl.vm = .none → s.vm.findClass (xr_Ex t) = some cl.cls → vx_W p l e R s m args below meth c H locs ce sl Q (F0 m pc ls rest) q) :
    (∀ (rem : List xr_En) (lv : xr_L) (st : List Value) (w : List xr_C) (b : Bool) (ce sl : Nat), K rem lv st w b ce sl = some out → (∀ x ∈ rem, x ∈ M.2.2.2.2.2.2) →
      ((out.2.2.1 = true → b = true) ∧ ce ≤ out.2.2.2.1 ∧ sl ≤ out.2.2.2.2) ∧ ∀ (H : Heap) (locs : List Loc) (ls : Array Slot), xr_I D ep ba sg cy s w b ce H locs → lv_has ls M.2.2.1 (xr_lv ep ba sg lv) → W p l e R s m args below meth c H locs ce sl Q (F0 m (xr_pc rem) ls (xr_sv ep ba sg st))) →
    ∀ (n : Nat) (rem : List xr_En) (lv : xr_L) (st : List Value) (w : List xr_C) (b : Bool) (ce sl : Nat), xr_lp K df fx scr mt d callf M n rem lv st w b ce sl = some out → (∀ x ∈ rem, x ∈ M.2.2.2.2.2.2) →
      ((out.2.2.1 = true → b = true) ∧ ce ≤ out.2.2.2.1 ∧ sl ≤ out.2.2.2.2) ∧ ∀ (H : Heap) (locs : List Loc) (ls : Array Slot), xr_I D ep ba sg cy s w b ce H locs → lv_has ls M.2.2.1 (xr_lv ep ba sg lv) → W p l e R s m args below meth c H locs ce sl Q (F0 m (xr_pc rem) ls (xr_sv ep ba sg st)) := by
  intro hKK n
  induction n with
  | zero => intro rem lv st w b ce sl h hmem; exact hKK rem lv st w b ce sl h hmem
  | succ n ih =>
    intro rem lv st w b ce sl h hmem
    have h : xr_st df fx scr mt d callf M (xr_lp K df fx scr mt d callf M n) rem lv st w b ce sl = some out := h
    cases rem with
    | nil => cases h
    | cons x r =>
      have hck := hMt x (hmem x List.mem_cons_self)
      have hmr : ∀ y ∈ r, y ∈ M.2.2.2.2.2.2 := fun y hy => hmem y (List.mem_cons_of_mem _ hy)
      simp only [xr_chk, Bool.and_eq_true, decide_eq_true_eq] at hck
      obtain ⟨hdec, hfc, hnc, hct, hcm, hcc⟩ := hck
      unfold xr_st at h
      simp only at h
      have pur : ∀ q, xr_pure df fx M.2.2.1 M.2.2.2.2.2.2 r x.1 x.2.2.1 x.2.2.2.1 lv st x.2.1 = some q → xr_lp K df fx scr mt d callf M n q.1 q.2.1 q.2.2 w b ce sl = some out → ((out.2.2.1 = true → b = true) ∧ ce ≤ out.2.2.2.1 ∧ sl ≤ out.2.2.2.2) ∧ ∀ (H : Heap) (locs : List Loc) (ls : Array Slot), xr_I D ep ba sg cy s w b ce H locs → lv_has ls M.2.2.1 (xr_lv ep ba sg lv) → W p l e R s m args below meth c H locs ce sl Q (F0 m (xr_pc (x :: r)) ls (xr_sv ep ba sg st)) := by
        intro q h3 h
        obtain ⟨r', l', st'⟩ := q
        have IH := ih r' l' st' w b ce sl h (xr_suf_mem hmr (xr_pure_suf h3))
        exact ⟨IH.1, fun H locs ls hI hl => xr_pure_ok hD hF h3 hx hb hdec hl (fun ls' hl' => IH.2 H locs ls' hI hl')⟩
      split at h
      · unfold xr_g3 at h
        split at h
        · rename_i q h3; exact pur q (xr_pA_le h3) h
        · cases h
      · unfold xr_g3 at h
        split at h
        · rename_i q h3; exact pur q (xr_pB_le h3) h
        · cases h
      · unfold xr_g3 at h
        split at h
        · rename_i q h3; exact pur q (xr_pC_le h3) h
        · cases h
      · unfold xr_g3 at h
        split at h
        · rename_i q h3; exact pur q (xr_pD_le h3) h
        · cases h
      · unfold xr_g3 at h
        split at h
        · rename_i q h3; exact pur q (xr_pE_le h3) h
        · cases h
      · unfold xr_g3 at h
        split at h
        · rename_i q h4
          obtain ⟨r', l', st'⟩ := q
          have IH := ih r' l' st' w b ce sl h (xr_suf_mem hmr (xr_rd_suf h4))
          exact ⟨IH.1, fun H locs ls hI hl => xr_rd_ok h4 hx hb hdec hown hts hK hI hsc (fun idx he => by rw [he] at hfc; exact hfc) hl (fun ls' hl' => IH.2 H locs ls' hI hl')⟩
        · cases h
      · unfold xr_g4 at h
        split at h
        · rename_i q h5
          obtain ⟨r', l', st', w'⟩ := q
          have IH := ih r' l' st' w' b ce sl h (xr_suf_mem hmr (xr_wt_suf h5))
          exact ⟨IH.1, fun H locs ls hI hl => xr_wt_ok hD h5 hx hb hdec hown hts hK hI (fun idx he => by rw [he] at hfc; simp only [xr_fc, Bool.and_eq_true] at hfc; rw [hname]; exact hfc) hl (fun H' locs' ls' hI' hl' => IH.2 H' locs' ls' hI' hl')⟩
        · cases h
      · unfold xr_gc at h
        cases h8 : xr_ca mt x.2.2.2.1 st w x.2.1 with
        | none => rw [h8] at h; cases h
        | some a =>
          rw [h8] at h
          simp only at h
          cases h9 : callf a.1 a.2.1 w b with
          | none => rw [h9] at h; cases h
          | some o =>
            rw [h9] at h
            have hcon := hcall _ _ _ _ _ h9
            obtain ⟨o1, w', b', dc, ds⟩ := o
            simp only at h
            cases o1 with
            | inl rv =>
              simp only at h
              cases h10 : xr_seq r x.1 x.2.2.1 3 lv (rv.toList ++ a.2.2) with
              | none => rw [h10] at h; cases h
              | some q =>
                rw [h10] at h
                obtain ⟨r', l', st'⟩ := q
                obtain ⟨e3, hpc, rfl, rfl, rfl⟩ := xr_seq_ok h10
                have IH := ih r lv (rv.toList ++ a.2.2) w' b' (ce + dc) (sl + ds) h hmr
                rw [e3] at hdec
                refine ⟨⟨fun z => hcon.1 (IH.1.1 z), by omega, by omega⟩, fun H locs ls hI hl => xr_ca_ret h8 hcc hcon hx hb hml hown hts hK hX hdec hRf hRl ⟨by omega, by omega⟩ hI hl.1 (fun H' locs' hI' => ?_)⟩
                have := IH.2 H' locs' ls hI' hl
                rw [hpc] at this
                exact this
            | inr t =>
              simp only at h
              cases hg : (xr_isV x.2.1 && Nat.beq x.2.2.1 3) with
              | false => rw [hg] at h; cases h
              | true =>
                rw [hg] at h
                simp only [cond_true] at h
                simp only [Bool.and_eq_true] at hg
                have e3 := Nat.eq_of_beq_eq_true hg.2
                rw [e3] at hdec
                cases hh : M.2.2.2.2.1 with
                | nil =>
                  rw [hh] at h
                  simp only [Option.some.injEq] at h
                  have q1 : out.2.2.2.1 = ce + dc := by rw [← h]
                  have q2 : out.2.2.2.2 = sl + ds := by rw [← h]
                  refine ⟨⟨fun z => (by rw [← h] at z; cases z), by omega, by omega⟩, fun H locs ls hI hl => xr_ca_thr hg.1 h8 hcc hcon hx hb hml hown hts hK hX hdec hRf hRl ⟨by omega, by omega⟩ hI hl.1 (fun H' locs' q cl hI' hq hv hcl => hPas t x.1 _ w' (ce + dc) (sl + ds) H' locs' ls q cl h.symm hh hI' hq hv hcl)⟩
                | cons h1' ht =>
                  rw [hh] at h
                  simp only at h
                  rw [← hh] at h
                  cases h11 : xr_hdl M.2.2.2.2.1 x.1 t with
                  | none => rw [h11] at h; cases h
                  | some k =>
                    rw [h11] at h
                    simp only [Option.some.injEq] at h
                    have q1 : out.2.2.2.1 = ce + dc := by rw [← h]
                    have q2 : out.2.2.2.2 = sl + ds := by rw [← h]
                    refine ⟨⟨fun z => (by rw [← h] at z; cases z), by omega, by omega⟩, fun H locs ls hI hl => xr_ca_thr hg.1 h8 hcc hcon hx hb hml hown hts hK hX hdec hRf hRl ⟨by omega, by omega⟩ hI hl.1 (fun H' locs' q cl hI' hq hv hcl => xr_catch_ok hcs hTab h11 hx hb hown hts hX hl hq hv hcl (fun hr pc' ls' hd' => ?_))⟩
                    exact hEnd .ireturn pc' [.int (Int32.ofNat k.2)] (some (.int (Int32.ofNat k.2))) w' false (ce + dc) (sl + ds) H' locs' ls' h.symm (by rw [hr]; rfl) hd' hI'
      · unfold xr_ge at h
        cases h1 : xr_rt M.2.2.2.1 x.2.1 st with
        | none => rw [h1] at h; cases h
        | some rv =>
          rw [h1] at h
          simp only at h
          cases hlen : Nat.beq x.2.2.1 1 with
          | false => rw [hlen] at h; cases h
          | true =>
            rw [hlen] at h
            simp only [cond_true, Option.some.injEq] at h
            have hlen := Nat.eq_of_beq_eq_true hlen
            rw [hlen] at hdec
            refine ⟨?_, fun H locs ls hI hl => hEnd x.2.1 x.1 st rv w b ce sl H locs ls h.symm h1 hdec hI⟩
            rw [← h]
            exact ⟨id, Nat.le_refl _, Nat.le_refl _⟩
      · unfold xr_g3 at h
        split at h
        · rename_i q h3; exact pur q h3 h
        · cases h
      · unfold xr_g6 at h
        split at h
        · rename_i q h6
          have hch := xr_al_chn h6 hnc
          obtain ⟨r', l', st', w', dc, ds⟩ := q
          have IH := ih r' l' st' w' b (ce + dc) (sl + ds) h (xr_suf_mem hmr (xr_al_suf h6))
          refine ⟨⟨IH.1.1, by omega, by omega⟩, fun H locs ls hI hl => xr_al_ok h6 hx hb hdec hown hts hK hI hX.2.2.1 hch ⟨by omega, by omega⟩ hl (fun H' locs' ls' hI' hl' => IH.2 H' locs' ls' hI' hl')⟩
        · cases h
      · unfold xr_g6 at h
        split at h
        · rename_i q h7
          obtain ⟨r', l', st', w', dc, ds⟩ := q
          have IH := ih r' l' st' w' b (ce + dc) (sl + ds) h (xr_suf_mem hmr (xr_nt_suf h7))
          refine ⟨⟨IH.1.1, by omega, by omega⟩, fun H locs ls hI hl => xr_nt_ok h7 hx hb hml hdec hown hts hX.2.1 hK hI hba hX.1 hct hcm ⟨by omega, by omega⟩ (by omega) (by omega) hl (fun H' locs' ls' hI' hl' => IH.2 H' locs' ls' hI' hl')⟩
        · cases h
      · unfold xr_gt at h
        cases h2 : xr_thr d x.2.1 x.2.2.2.1 st with
        | none => rw [h2] at h; cases h
        | some t =>
          rw [h2] at h
          simp only [Option.some.injEq] at h
          refine ⟨?_, fun H locs ls hI hl => ?_⟩
          · rw [← h]
            exact ⟨fun z => absurd (show false = true from z) (by decide), Nat.le_succ _, Nat.le_add_right _ _⟩
          · unfold xr_thr at h2
            split at h2
            · rename_i idx hi
              split at h2
              · rename_i t' u ha
                cases hg : (Nat.ble 5 d && Nat.ble (xr_cs st) 8) with
                | false => rw [hg] at h2; cases h2
                | true =>
                  rw [hg] at h2
                  cases h2
                  simp only [Bool.and_eq_true] at hg
                  refine hThr t x.1 st w b ce sl H locs ls h.symm ?_ (Nat.le_of_ble_eq_true hg.2) (Nat.le_of_ble_eq_true hg.1) hl.1 hI
                  rw [hi, ha] at hnc
                  exact hnc
              · cases h2
            · cases h2
end XRL
end
section
/-! a method's contract out of its run -/
abbrev xr_nm : List String := ["java/lang/RuntimeException", "java/lang/Exception"]
def xr_both (w : Cond) : Bool := decide (w ∈ lw_tbl) && (goodWord w || xr_owk w)
theorem xr_both_ok {L : List Cond} (h : L.all xr_both = true) {args : Array Value} {s : State} (hts : ∀ w ∈ xr_tb, w.before args s = true) (hto : ∀ w ∈ xr_ob, va_Nw w s) : ∀ w ∈ L, w.before args s = true := by
  intro w hw
  have h1 := List.all_eq_true.mp h w hw
  simp only [xr_both, Bool.and_eq_true, Bool.or_eq_true, decide_eq_true_eq] at h1
  rcases h1.2 with h2 | h2
  · exact hts w (List.mem_filter.mpr ⟨h1.1, h2⟩)
  · have hn := hto w (List.mem_filter.mpr ⟨h1.1, h2⟩)
    cases w <;> first | exact va_Nw.use rfl hn | (simp [xr_owk] at h2)
theorem xr_at0 : (vx_atS "NoiseFields" 406 "java/lang/IllegalArgumentException" xr_nm).all xr_both = true := by decide +kernel
theorem xr_at1 : (xr_atX "NoiseFields" 399 "java/util/NoSuchElementException" 13 prog_32_method_4_code xr_nm).all xr_both = true := by decide +kernel
theorem xr_go0 : ∀ w ∈ Cond.classLink "NoiseFields" 402 "java/lang/IllegalArgumentException" :: Cond.initialized "java/lang/IllegalArgumentException" :: vx_atS "NoiseFields" 406 "java/lang/IllegalArgumentException" xr_nm, vx_ot w = true := by decide +kernel
theorem xr_go1 : ∀ w ∈ Cond.classLink "NoiseFields" 395 "java/util/NoSuchElementException" :: Cond.initialized "java/util/NoSuchElementException" :: xr_atX "NoiseFields" 399 "java/util/NoSuchElementException" 13 prog_32_method_4_code xr_nm, vx_ot w = true := by decide +kernel
theorem xr_d0 : decode cX11_refuseWrong 10 = .ok (.new 402, 3) ∧ decode cX11_refuseWrong 13 = .ok (.dup, 1) ∧ decode cX11_refuseWrong 14 = .ok (.ldc_w 404, 3) ∧ decode cX11_refuseWrong 17 = .ok (.invokespecial 406, 3) ∧ decode cX11_refuseWrong 20 = .ok (.athrow, 1) := by decide +kernel
theorem xr_d1 : decode cX11_refuseMissing 10 = .ok (.new 395, 3) ∧ decode cX11_refuseMissing 13 = .ok (.dup, 1) ∧ decode cX11_refuseMissing 14 = .ok (.ldc_w 397, 3) ∧ decode cX11_refuseMissing 17 = .ok (.invokespecial 399, 3) ∧ decode cX11_refuseMissing 20 = .ok (.athrow, 1) := by decide +kernel
theorem xr_ii : Cond.initialized "java/lang/IllegalArgumentException" ∈ xr_tb ∧ Cond.initialized "java/util/NoSuchElementException" ∈ xr_tb ∧ Cond.classLink "NoiseFields" 402 "java/lang/IllegalArgumentException" ∈ xr_tb ∧ Cond.classLink "NoiseFields" 395 "java/util/NoSuchElementException" ∈ xr_tb := ⟨xr_has_ok (h := 138) (by decide +kernel), xr_has_ok (h := 144) (by decide +kernel), xr_has_ok (h := 808) (by decide +kernel), xr_has_ok (h := 1225) (by decide +kernel)⟩
section XRM
variable {p : Program} {l : Launch} {e : Env} {R : Room} {s : State} {m : MethodId} {args : Array Value} {below : List Frame} {meth : Method} {c : Code} {H : Heap} {locs : List Loc} {ce sl : Nat}
variable {ep : Nat → Int32} {ba : Nat} {sg : Nat → Nat} {cy : Nat → ClassId} {D : va_G} {mt : List xr_M} {d : Nat} {ls : Array Slot}
theorem xr_Fr_of {t : State} (hS : va_S (fun q => ba ≤ q) s.heap H locs) (hz : H.size ≤ t.heap.size) (hq : ∀ q : Nat, q < H.size → t.heap[q]? = H[q]?) : xr_Fr ba s t := ⟨Nat.le_trans hS.1 hz, fun q h1 h2 => (hq q (Nat.lt_of_lt_of_le h1 hS.1)).trans (hS.2.1 q h1 h2)⟩
theorem xr_end_ok {M : xr_M} {i : Instr} {pc : Nat} {st : List Value} {rv : Option Value} {w : List xr_C} {b : Bool} (h : xr_rt M.2.2.2.1 i st = some rv) (hx : p.tables.exec = Jvm.exec) (hb : c.code = M.2.1) (hr : meth.sig.returnType = M.2.2.2.1) (hlocks : meth.locks = false) (hd : decode M.2.1 pc = .ok (i, 1)) (hI : xr_I D ep ba sg cy s w b ce H locs) : W p l e R s m args below meth c H locs ce sl (MQ below (xr_Qc D ep ba sg cy rv w b ce) args s ce sl (fun q => ba ≤ q)) (F0 m pc ls (xr_sv ep ba sg st)) := by
  have hq : ∀ (v : Option Value) (t : State), v = rv.map (xr_v ep ba sg) → t.heap = H → xr_Qc D ep ba sg cy rv w b ce args s (.returned v) t := by
    intro v t hv ht
    refine ⟨by rw [hv], by rw [ht]; exact hI.1, by rw [ht]; exact hI.2.2.1, hI.2.2.2, xr_Fr_of hI.2.1 (by rw [ht]; exact Nat.le_refl _) (fun q _ => by rw [ht])⟩
  have hf : ∀ q ∈ locs, (fun q => ba ≤ q) q.base := hI.2.1.2.2
  unfold xr_rt at h
  split at h
  · split at h
    · rename_i hret
      cases h
      rw [hret] at hr
      exact W.vret hx hb hr (fun t ht _ => hq none t rfl ht) hf hd
    · cases h
  · split at h
    · rename_i v hret
      cases hi : xr_isI v with
      | false => rw [hi] at h; cases h
      | true =>
        rw [hi] at h
        cases h
        obtain ⟨x, ex⟩ := xr_isI_ok (ep := ep) (ba := ba) (sg := sg) hi
        rw [hret] at hr
        simp only [xr_sv, List.map_cons, List.map_nil, ex]
        exact W.iret hx hb hr (fun t ht _ => hq _ t (by rw [← ex]; rfl) ht) hf hd
    · rename_i x hret
      cases hi : (decide (x = 0) || decide (x = 1)) with
      | false => rw [hi] at h; cases h
      | true =>
        rw [hi] at h
        cases h
        rw [hret] at hr
        simp only [Bool.or_eq_true, decide_eq_true_eq] at hi
        refine W.zret hx hb hr ?_ (fun t ht _ => hq _ t rfl ht) hf hd
        rcases hi with rfl | rfl <;> decide
    · rename_i x hret
      cases hi : decide (x = 0) with
      | false => rw [hi] at h; cases h
      | true =>
        rw [hi] at h
        cases h
        rw [hret] at hr
        simp only [decide_eq_true_eq] at hi
        refine W.zret hx hb hr ?_ (fun t ht _ => hq _ t rfl ht) hf hd
        subst hi
        decide
    · cases h
  · split at h
    · rename_i v hret
      cases hi : xr_isL v with
      | false => rw [hi] at h; cases h
      | true =>
        rw [hi] at h
        cases h
        obtain ⟨x, ex⟩ := xr_isL_ok (ep := ep) (ba := ba) (sg := sg) hi
        rw [hret] at hr
        simp only [xr_sv, List.map_cons, List.map_nil, ex]
        exact W.lret hx hb hr (fun t ht _ => hq _ t (by rw [← ex]; rfl) ht) hf hd
    · cases h
  · split at h
    · rename_i t0 v hret
      cases hi : xr_isR v with
      | false => rw [hi] at h; cases h
      | true =>
        rw [hi] at h
        cases h
        rw [hret] at hr
        refine W.aret (v := xr_v ep ba sg v) hx hb hr (Or.inr ⟨_, rfl⟩) ?_ (fun t ht _ => hq _ t rfl ht) hf hd
        cases v <;> first | exact Or.inl rfl | exact Or.inr ⟨_, rfl⟩ | cases hi
    · rename_i t0 v hret
      cases hi : xr_isR v with
      | false => rw [hi] at h; cases h
      | true =>
        rw [hi] at h
        cases h
        rw [hret] at hr
        refine W.aret (v := xr_v ep ba sg v) hx hb hr (Or.inl ⟨_, rfl⟩) ?_ (fun t ht _ => hq _ t rfl ht) hf hd
        cases v <;> first | exact Or.inl rfl | exact Or.inr ⟨_, rfl⟩ | cases hi
    · cases h
  · cases h
theorem xr_XC_of {t : State} {k : Nat} {w : List xr_C} {b : Bool} (hI : xr_I D ep ba sg cy s w b ce H locs) (hz : H.size ≤ t.heap.size) (hq : ∀ q : Nat, q < H.size → t.heap[q]? = H[q]?) : xr_XC D ep ba sg cy k w (xr_Ex k) s t :=
  ⟨rfl, hI.1.kept (fun j x hx => hq _ ((hI.1 j x hx).lt)), Nat.le_trans hI.2.2.1 hz, xr_Fr_of hI.2.1 hz hq⟩
set_option maxHeartbeats 4000000 in
theorem xr_thr_ok {M : xr_M} {t pc : Nat} {st : List Value} {w : List xr_C} {b : Bool} {Qc : Array Value → State → Outcome → State → Prop} (hst : l.stackTraces = false) (hs : xr_site M pc t = true) (hcs : xr_cs st ≤ 8) (hd5 : 5 ≤ d) (hx : p.tables.exec = Jvm.exec) (hb : c.code = M.2.1) (hml : c.maxLocals = M.2.2.1) (hown : s.vm.findClass M.1.cls = some m.cls) (hlocks : meth.locks = false) (hts : ∀ w ∈ xr_tb, w.before args s = true) (hX : xr_X ba sg s) (hTab : c.exceptionTable.toList = tableOf M.2.2.2.2.1) (hRf : d + 1 ≤ R.frames) (hRl : 150 * (d + 1) ≤ R.locals) (hRc : ce + 1 ≤ R.cells) (hRs : sl + 6 ≤ R.slots) (hsz : ls.size = M.2.2.1) (hI : xr_I D ep ba sg cy s w b ce H locs) :
    W p l e R s m args below meth c H locs ce sl (vx_MQ below Qc (xr_XC D ep ba sg cy t w) args s (ce + 1) (sl + 6) (fun q => ba ≤ q)) (F0 m pc ls (xr_sv ep ba sg st)) := by
  obtain ⟨w1, w2, w3, w4⟩ := xr_ii
  unfold xr_site at hs
  split at hs
  · simp only [Bool.and_eq_true, decide_eq_true_eq] at hs
    obtain ⟨e1, e2, e3, e4⟩ := hs
    have e3 := Nat.eq_of_beq_eq_true e3
    subst e3
    rw [e2] at hb
    have hown : s.vm.findClass "NoiseFields" = some m.cls := by rw [e1] at hown; exact hown
    obtain ⟨d0, d3, d4, d7, d10⟩ := xr_d0
    refine vx_throwSW (names := xr_nm) (ik := 402) (is := 404) (ic := 406) (sa := sg 2) (A := fun q => ba ≤ q) hx hb hst hown (by decide +kernel) (by decide +kernel) (hts _ w3) (hts _ w1) hX.2.2.2.1 (xr_both_ok xr_at0 hts hX.2.1) xr_go0 hX.2.2.2.2.2.1 hX.2.2.2.2.2.2.1 hI.2.1 (hsz.trans hml.symm) d0 d3 d4 d7 d10 ?_ ?_ ?_ hRc hRs hlocks (fun t _ hz hq => xr_XC_of (k := 0) hI hz hq) hI.2.1.2.2 (Nat.le_refl _) (Nat.le_refl _)
    · rw [hTab, e4]; intro x hx; cases hx
    · show 2 + 3 < R.frames; omega
    · rw [xr_cs_v]; show _ + (13 * 3 + 43) ≤ R.locals; omega
  · simp only [Bool.and_eq_true, decide_eq_true_eq] at hs
    obtain ⟨e1, e2, e3, e4⟩ := hs
    have e3 := Nat.eq_of_beq_eq_true e3
    subst e3
    rw [e2] at hb
    have hown : s.vm.findClass "NoiseFields" = some m.cls := by rw [e1] at hown; exact hown
    obtain ⟨d0, d3, d4, d7, d10⟩ := xr_d1
    refine xr_throwX (ix := 13) (rx := prog_32_method_4_code) (x0 := by decide +kernel) (x1 := by decide +kernel) (x2 := by decide +kernel) (x5 := by decide +kernel) (names := xr_nm) (ik := 395) (is := 397) (ic := 399) (sa := sg 3) (A := fun q => ba ≤ q) hx hb hst hown (by decide +kernel) (by decide +kernel) (hts _ w4) (hts _ w2) hX.2.2.2.2.1 (xr_both_ok xr_at1 hts hX.2.1) xr_go1 hX.2.2.2.2.2.1 hX.2.2.2.2.2.2.1 hI.2.1 (hsz.trans hml.symm) d0 d3 d4 d7 d10 ?_ ?_ ?_ hRc hRs hlocks (fun t _ hz hq => xr_XC_of (k := 1) hI hz hq) hI.2.1.2.2 (Nat.le_refl _) (Nat.le_refl _)
    · rw [hTab, e4]; intro x hx; cases hx
    · show 2 + 3 < R.frames; omega
    · rw [xr_cs_v]; show _ + (13 * 3 + 43) ≤ R.locals; omega
  · cases hs
theorem xr_pas_ok {M : xr_M} {t pc : Nat} {rest : List Value} {w : List xr_C} {q : Addr} {cl : Cell} {Qc : Array Value → State → Outcome → State → Prop} (hh : M.2.2.2.2.1 = []) (hTab : c.exceptionTable.toList = tableOf M.2.2.2.2.1) (hlocks : meth.locks = false) (hI : xr_I D ep ba sg cy s w false ce H locs) (hcell : H[q]? = some cl) (hv : cl.vm = .none) (hcl : s.vm.findClass (xr_Ex t) = some cl.cls) : vx_W p l e R s m args below meth c H locs ce sl (vx_MQ below Qc (xr_XC D ep ba sg cy t w) args s ce sl (fun q => ba ≤ q)) (F0 m pc ls rest) q :=
  vx_out (by rw [hTab, hh]; intro x hx; cases hx) hlocks hcell hv hcl (fun t9 ht _ => xr_XC_of hI (by rw [ht]; exact Nat.le_refl _) (fun q _ => by rw [ht])) hI.2.1.2.2 (Nat.le_refl _) (Nat.le_refl _)
end XRM
end
section
section XRO
variable {ep : Nat → Int32} {ba : Nat} {sg : Nat → Nat} {cy : Nat → ClassId} {D : va_G} {mt : List xr_M} {l : Launch}
theorem xr_lp_b {df : xr_D} {fx : xr_F} {scr : Option (List Value)} {d : Nat} {callf : Nat → List Value → List xr_C → Bool → Option xr_Out} {M : xr_M} {out : xr_Out} (hcall : ∀ u as w b o, callf u as w b = some o → (o.2.2.1 = true → b = true)) :
    ∀ (n : Nat) (rem : List xr_En) (lv : xr_L) (st : List Value) (w : List xr_C) (b : Bool) (ce sl : Nat), xr_lp xr_K0 df fx scr mt d callf M n rem lv st w b ce sl = some out → (out.2.2.1 = true → b = true) := by
  intro n
  induction n with
  | zero => intro rem lv st w b ce sl h; cases h
  | succ n ih =>
    intro rem lv st w b ce sl h
    have h : xr_st df fx scr mt d callf M (xr_lp xr_K0 df fx scr mt d callf M n) rem lv st w b ce sl = some out := h
    unfold xr_st at h
    have g3 : ∀ o, xr_g3 (xr_lp xr_K0 df fx scr mt d callf M n) w b ce sl o = some out → (out.2.2.1 = true → b = true) := by
      intro o h
      unfold xr_g3 at h
      split at h
      · exact ih _ _ _ _ _ _ _ h
      · cases h
    have g6 : ∀ o, xr_g6 (xr_lp xr_K0 df fx scr mt d callf M n) b ce sl o = some out → (out.2.2.1 = true → b = true) := by
      intro o h
      unfold xr_g6 at h
      split at h
      · exact ih _ _ _ _ _ _ _ h
      · cases h
    split at h
    · cases h
    · split at h
      · exact g3 _ h
      · exact g3 _ h
      · exact g3 _ h
      · exact g3 _ h
      · exact g3 _ h
      · exact g3 _ h
      · unfold xr_g4 at h
        split at h
        · exact ih _ _ _ _ _ _ _ h
        · cases h
      · unfold xr_gc at h
        split at h
        · cases h
        · split at h
          · cases h
          · rename_i o ho
            split at h
            · split at h
              · exact fun z => hcall _ _ _ _ _ ho (ih _ _ _ _ _ _ _ h z)
              · cases h
            · simp only [Bool.cond_eq_ite] at h
              split at h
              · split at h
                · cases h; intro z; cases z
                · split at h
                  · cases h; intro z; cases z
                  · cases h
              · cases h
      · unfold xr_ge at h
        split at h
        · simp only [Bool.cond_eq_ite] at h
          split at h
          · cases h; exact id
          · cases h
        · cases h
      · exact g3 _ h
      · exact g6 _ h
      · exact g6 _ h
      · unfold xr_gt at h
        split at h
        · cases h; intro z; cases z
        · cases h
theorem xr_args (as : List Value) : ∀ k : Nat, lv_args k (xr_sv ep ba sg as) = xr_lv ep ba sg (lv_args k as) := by
  induction as with
  | nil => intro k; rfl
  | cons v t ih =>
    intro k
    show (k, xr_v ep ba sg v) :: lv_args (if (xr_v ep ba sg v).category = 2 then k + 2 else k + 1) (xr_sv ep ba sg t) = (k, xr_v ep ba sg v) :: xr_lv ep ba sg (lv_args (if v.category = 2 then k + 2 else k + 1) t)
    rw [xr_cat, ih]
theorem xr_sll (as : List Value) : (lg_sl (xr_sv ep ba sg as)).length = (lg_sl as).length := by
  induction as with
  | nil => rfl
  | cons v t ih =>
    simp only [lg_sl, xr_sv, List.map_cons, List.flatMap_cons, List.length_append] at ih ⊢
    rw [ih, xr_cat]
    by_cases h : v.category = 2 <;> simp [h]
theorem xr_ofWH {y : MethodName} {ws ws' : List Cond} {rm : Room} {Pc : Array Value → State → Prop} {Qc : Array Value → State → Outcome → State → Prop} {mc ms : Nat} {free : Addr → Prop} {cc : ByteArray} {maxL : Nat} {ret : Option FieldType} {hh : List (Nat × Nat × Nat × Nat)}
    (hy : plainName y.cls = true) (hw : ws = Cond.codeWith y cc maxL ret hh :: ws')
    (body : ∀ p e s m args below meth c s₁, BodyLoose p l y (headSpec ws rm) cc maxL ret e s m args below meth c s₁ → c.maxLocals = maxL → Pc args s →
      W p l e (headSpec ws rm).room s m args below meth c s.heap [] 0 0 (MQ below Qc args s mc ms free) (entryFrame m args maxL)) : Met l y ws rm Pc Qc mc ms free := by
  refine MetFree.of_bodyS (code := cc) (maxLocals := maxL) (ret := ret) hy ?_ ?_
  · intro args s m h hn
    obtain ⟨m9, meth, c, hn9, h1, h2, h3, h4, -, h5, h6, -⟩ := Cond.codeWith_spec (atoms_spec (ws := ws) h _ (by rw [hw]; exact List.mem_cons_self))
    cases hn.symm.trans hn9
    exact ⟨meth, c, h1, h2, h3, h4, h5, h6⟩
  · intro p e s m args below meth c s₁ B hml hP _
    have hh0 : s₁.heap = s.heap := by rw [B.state]; rfl
    obtain ⟨t, a1, o, b1, b2, b3⟩ := body p e s m args below meth c s₁ B hml hP s₁ hh0 (Stand.of_body B)
    exact ⟨t, o, a1, b1, b2, ⟨b3.1, b3.2⟩⟩
theorem xr_tabE {p : Program} {y : MethodName} {ws ws' : List Cond} {rm : Room} {cc : ByteArray} {maxL : Nat} {ret : Option FieldType} {e : Env} {s s₁ : State} {m : MethodId} {args : Array Value} {below : List Frame} {meth : Method} {c : Code} (hw : ws = Cond.code y cc maxL ret :: ws') (B : BodyLoose p l y (headSpec ws rm) cc maxL ret e s m args below meth c s₁) : c.exceptionTable.toList = tableOf [] := by
  obtain ⟨meth9, c9, h1, h2, -, -, -, -, h7, -⟩ := Cond.code_spec B.named (atoms_spec (ws := ws) B.pre _ (by rw [hw]; exact List.mem_cons_self))
  cases Option.some.inj (h1.symm.trans B.method)
  cases Option.some.inj (h2.symm.trans (Stand.of_body B).code)
  rw [Array.isEmpty_iff.mp h7]
  rfl
/-- what a method's body finds at its entry -/
theorem xr_entry {df : xr_D} {fx : xr_F} {M : xr_M} {d n : Nat} {callf : Nat → List Value → List xr_C → Bool → Option xr_Out} {as : List Value} {w : List xr_C} {b : Bool} {out : xr_Out} {p : Program} {e : Env} {R : Room} {s : State} {m : MethodId} {args : Array Value} {below : List Frame} {meth : Method} {c : Code} {Q : State → Prop} (hD : xr_okD ep ba sg df) (hF : xr_okF ep ba sg fx) (hok : xr_Mok mt M = true) (hrun : xr_lp xr_K0 df fx none mt d callf M n M.2.2.2.2.2.2 (lv_args 0 as) [] w b 0 0 = some out) (hsl : (lg_sl as).length ≤ M.2.2.1) (hcall : ∀ u as w b o, callf u as w b = some o → xr_Con l D ep ba sg cy mt d u as w b o)
    (hx : p.tables.exec = Jvm.exec) (hb : c.code = M.2.1) (hml : c.maxLocals = M.2.2.1) (hown : s.vm.findClass M.1.cls = some m.cls) (hname : meth.name = M.1.name) (hts : ∀ w ∈ xr_tb, w.before args s = true) (hTab : c.exceptionTable.toList = tableOf M.2.2.2.2.1) (hRf : d + 1 ≤ R.frames) (hRl : 150 * (d + 1) ≤ R.locals) (hRc : out.2.2.2.1 ≤ R.cells) (hRs : out.2.2.2.2 ≤ R.slots) (hPc : xr_Pc D ep ba sg cy as w b args s)
    (hEnd : ∀ (i : Instr) (pc : Nat) (st : List Value) (rv : Option Value) (w : List xr_C) (b : Bool) (ce sl : Nat) (H : Heap) (locs : List Loc) (ls : Array Slot), out = (.inl rv, w, b, ce, sl) → xr_rt M.2.2.2.1 i st = some rv → decode M.2.1 pc = .ok (i, 1) → xr_I D ep ba sg cy s w b ce H locs → W p l e R s m args below meth c H locs ce sl Q (F0 m pc ls (xr_sv ep ba sg st)))
    (hThr : ∀ (t pc : Nat) (st : List Value) (w : List xr_C) (b : Bool) (ce sl : Nat) (H : Heap) (locs : List Loc) (ls : Array Slot), out = (.inr t, w, false, ce + 1, sl + 6) → xr_site M pc t = true → xr_cs st ≤ 8 → 5 ≤ d → ls.size = M.2.2.1 → xr_I D ep ba sg cy s w b ce H locs → W p l e R s m args below meth c H locs ce sl Q (F0 m pc ls (xr_sv ep ba sg st)))
    (hPas : ∀ (t pc : Nat) (rest : List Value) (w : List xr_C) (ce sl : Nat) (H : Heap) (locs : List Loc) (ls : Array Slot) (q : Addr) (cl : Cell), out = (.inr t, w, false, ce, sl) → M.2.2.2.2.1 = [] → xr_I D ep ba sg cy s w false ce H locs → H[q]? = some cl → cl.vm = .none → s.vm.findClass (xr_Ex t) = some cl.cls → vx_W p l e R s m args below meth c H locs ce sl Q (F0 m pc ls rest) q) :
    W p l e R s m args below meth c s.heap [] 0 0 Q (entryFrame m args M.2.2.1) := by
  obtain ⟨ha, hX, hK, hP, hge, hsz⟩ := hPc
  simp only [xr_Mok, Bool.and_eq_true, decide_eq_true_eq] at hok
  obtain ⟨-, -, hpc0, hcs, hall⟩ := hok
  have hMt : ∀ x ∈ M.2.2.2.2.2.2, xr_chk mt M x = true := List.all_eq_true.mp hall
  have hba : ba ≤ s.heap.size := by omega
  have hI : xr_I D ep ba sg cy s w b 0 s.heap [] := ⟨hP, va_S.rf, hge, fun h => by have := hsz h; omega⟩
  have key := (xr_lp_ok (Q := Q) hD hF hcall hMt hcs hx hb hml hown hname hts hK hX hba (fun xs h => by cases h) hTab hRf hRl hRc hRs hEnd hThr hPas (fun _ _ _ _ _ _ _ h => by cases h) n _ _ _ _ _ _ _ hrun (fun _ h => h)).2
  have hl := lv_entry (xr_sv ep ba sg as) (n := M.2.2.1) (by rw [xr_sll]; exact hsl)
  rw [xr_args] at hl
  have k := key s.heap [] _ hI hl
  rw [hpc0] at k
  rw [ha, lg_entry_eq]
  rw [ha] at k
  exact k
set_option maxHeartbeats 4000000 in
theorem xr_R_ok {df : xr_D} {fx : xr_F} {sm : Nat → Nat → List Value → List xr_C → Bool → Option xr_Out} (hsm : ∀ d u as w b o, sm d u as w b = some o → xr_Con l D ep ba sg cy mt d u as w b o) (hst : l.stackTraces = false) (hD : xr_okD ep ba sg df) (hF : xr_okF ep ba sg fx) (hmt : ∀ M ∈ mt, xr_Mok mt M = true) (n : Nat) : ∀ (d u : Nat) (as : List Value) (w : List xr_C) (b : Bool) (o : xr_Out), xr_R df fx sm mt n d u as w b = some o → xr_Con l D ep ba sg cy mt d u as w b o := by
  intro d
  induction d with
  | zero => intro u as w b o h; cases h
  | succ d ih =>
    intro u as w b o h
    have h : (match sm (d + 1) u as w b with
      | some o => some o
      | none => match xr_nth mt u with
      | some M => bif Nat.ble (lg_sl as).length M.2.2.1 then xr_lp xr_K0 df fx none mt d (xr_R df fx sm mt n d) M n M.2.2.2.2.2.2 (lv_args 0 as) [] w b 0 0 else none
      | none => none) = some o := h
    cases hm9 : sm (d + 1) u as w b with
    | some o9 =>
      rw [hm9] at h
      cases h
      exact hsm _ _ _ _ _ _ hm9
    | none =>
    rw [hm9] at h
    simp only [xr_nth_eq] at h
    cases hM : mt[u]? with
    | none => rw [hM] at h; cases h
    | some M =>
      rw [hM] at h
      simp only at h
      cases hs : Nat.ble (lg_sl as).length M.2.2.1 with
      | false => rw [hs] at h; cases h
      | true =>
        rw [hs] at h
        simp only [cond_true] at h
        have hsl := Nat.le_of_ble_eq_true hs
        have hok := hmt M (List.mem_of_getElem? hM)
        have hpl : plainName M.1.cls = true := by
          simp only [xr_Mok, Bool.and_eq_true] at hok
          exact hok.1
        refine ⟨xr_lp_b (fun u as w b o ho => (ih u as w b o ho).1) _ _ _ _ _ _ _ _ h, fun M' hM' => ?_⟩
        cases Option.some.inj (hM.symm.trans hM')
        obtain ⟨o1, w', b', dc, ds⟩ := o
        cases o1 with
        | inl rv =>
          show Met l M.1 (xr_ws M) (xr_rm (d + 1) dc ds) (xr_Pc D ep ba sg cy as w b) (xr_Qc D ep ba sg cy rv w' b' dc) dc ds (fun q => ba ≤ q)
          have body : ∀ (p : Program) (e : Env) (s : State) (m : MethodId) (args : Array Value) (below : List Frame) (meth : Method) (c : Code) (s₁ : State), BodyLoose p l M.1 (headSpec (xr_ws M) (xr_rm (d + 1) dc ds)) M.2.1 M.2.2.1 M.2.2.2.1 e s m args below meth c s₁ → c.maxLocals = M.2.2.1 → c.exceptionTable.toList = tableOf M.2.2.2.2.1 → xr_Pc D ep ba sg cy as w b args s →
              W p l e (headSpec (xr_ws M) (xr_rm (d + 1) dc ds)).room s m args below meth c s.heap [] 0 0 (MQ below (xr_Qc D ep ba sg cy rv w' b' dc) args s dc ds (fun q => ba ≤ q)) (entryFrame m args M.2.2.1) := by
            intro p e s m args below meth c s₁ B hml hTab hPc
            have hts : ∀ w ∈ xr_tb, w.before args s = true := fun w hw => atoms_spec (ws := xr_ws M) B.pre w (List.mem_cons_of_mem _ hw)
            refine xr_entry hD hF hok h hsl ih B.exec B.bytes hml (findClass_of_methodNamed B.named) (name_of_methodNamed B.named B.method).1 hts hTab (Nat.le_refl _) (Nat.le_refl _) (Nat.le_refl _) (Nat.le_refl _) hPc ?_ ?_ ?_
            · intro i pc st rv2 w2 b2 ce sl H locs ls ho hrt hd hI
              cases ho
              exact xr_end_ok hrt B.exec B.bytes B.returns B.notSynchronized hd hI
            · intro t pc st w2 b2 ce sl H locs ls ho; cases ho
            · intro t pc rest w2 ce sl H locs ls q cl ho; cases ho
          cases hh : M.2.2.2.2.1 with
          | nil =>
            have hw : xr_ws M = Cond.code M.1 M.2.1 M.2.2.1 M.2.2.2.1 :: xr_tb := by unfold xr_ws; rw [xr_hw_nil hh]
            exact Met.ofW hpl hw (fun p e s m args below meth c s₁ B hml hPc => body p e s m args below meth c s₁ B hml (by rw [hh]; exact xr_tabE hw B) hPc)
          | cons h1 ht =>
            have hw : xr_ws M = Cond.codeWith M.1 M.2.1 M.2.2.1 M.2.2.2.1 (h1 :: ht) :: xr_tb := by unfold xr_ws xr_hw; rw [hh]
            exact xr_ofWH hpl hw (fun p e s m args below meth c s₁ B hml hPc => body p e s m args below meth c s₁ B hml (by rw [hh]; exact vx_table (x := M.1) B (atoms_spec (ws := xr_ws M) B.pre _ (by rw [hw]; exact List.mem_cons_self))) hPc)
        | inr t =>
          show vx_Met l M.1 (xr_ws M) (xr_rm (d + 1) dc ds) (xr_Pc D ep ba sg cy as w b) (fun _ _ _ _ => False) (xr_XC D ep ba sg cy t w') dc ds (fun q => ba ≤ q)
          have body : ∀ (p : Program) (e : Env) (s : State) (m : MethodId) (args : Array Value) (below : List Frame) (meth : Method) (c : Code) (s₁ : State), BodyLoose p l M.1 (headSpec (xr_ws M) (xr_rm (d + 1) dc ds)) M.2.1 M.2.2.1 M.2.2.2.1 e s m args below meth c s₁ → c.maxLocals = M.2.2.1 → c.exceptionTable.toList = tableOf M.2.2.2.2.1 → xr_Pc D ep ba sg cy as w b args s →
              W p l e (headSpec (xr_ws M) (xr_rm (d + 1) dc ds)).room s m args below meth c s.heap [] 0 0 (vx_MQ below (fun _ _ _ _ => False) (xr_XC D ep ba sg cy t w') args s dc ds (fun q => ba ≤ q)) (entryFrame m args M.2.2.1) := by
            intro p e s m args below meth c s₁ B hml hTab hPc
            have hts : ∀ w ∈ xr_tb, w.before args s = true := fun w hw => atoms_spec (ws := xr_ws M) B.pre w (List.mem_cons_of_mem _ hw)
            have hown : s.vm.findClass M.1.cls = some m.cls := findClass_of_methodNamed B.named
            refine xr_entry hD hF hok h hsl ih B.exec B.bytes hml hown (name_of_methodNamed B.named B.method).1 hts hTab (Nat.le_refl _) (Nat.le_refl _) (Nat.le_refl _) (Nat.le_refl _) hPc ?_ ?_ ?_
            · intro i pc st rv2 w2 b2 ce sl H locs ls ho; cases ho
            · intro t2 pc st w2 b2 ce sl H locs ls ho hsite hcs h5 hsz hI
              cases ho
              exact xr_thr_ok hst hsite hcs h5 B.exec B.bytes hml hown B.notSynchronized hts hPc.2.1 hTab (Nat.le_refl _) (Nat.le_refl _) (Nat.le_refl _) (Nat.le_refl _) hsz hI
            · intro t2 pc rest w2 ce sl H locs ls q cl ho hh hI hq hv hcl
              cases ho
              exact xr_pas_ok hh hTab B.notSynchronized hI hq hv hcl
          cases hh : M.2.2.2.2.1 with
          | nil =>
            have hw : xr_ws M = Cond.code M.1 M.2.1 M.2.2.1 M.2.2.2.1 :: xr_tb := by unfold xr_ws; rw [xr_hw_nil hh]
            exact vx_ofW hpl hw (fun p e s m args below meth c s₁ B hml _ hPc => body p e s m args below meth c s₁ B hml (by rw [hh]; exact xr_tabE hw B) hPc)
          | cons h1 ht =>
            have hw : xr_ws M = Cond.codeWith M.1 M.2.1 M.2.2.1 M.2.2.2.1 (h1 :: ht) :: xr_tb := by unfold xr_ws xr_hw; rw [hh]
            exact vx_ofWH hpl hw (fun p e s m args below meth c s₁ B hml hPc => body p e s m args below meth c s₁ B hml (by rw [hh]; exact vx_table (x := M.1) B (atoms_spec (ws := xr_ws M) B.pre _ (by rw [hw]; exact List.mem_cons_self))) hPc)
end XRO
end
section
/-! THE CLAIM OUT OF ONE WALK OF THE LAW'S BODY. Your part is whole_start (and what it stands on); all else here is the same for every law, but numbers. -/
def R_law : String := "NoiseFieldsLaw"
def lw_P (b : Addr) (xs : List Int32) (args : Array Value) (s : State) : Prop := args = #[.ref b] ∧ s.IntsAt b xs ∧ xs.length ≤ 7 ∧ (Jvm.Cond.and given_1 narrow_1).before args s = true
def lw_Q (_ : Array Value) (s : State) (o : Outcome) (t : State) : Prop := o = .returned (some (.int 1)) ∧ Framed s o t [] 600002 7302231
def lw_Z (below : List Frame) (a : Array Value) (s : State) : State → Prop := fun t => ∃ o, t.status = .running ∧ Ended t below o ∧ lw_Q a s o t
/-- the law's own end, with 1 on the stack, nothing written that was there before, its room as the claim has it -/
theorem lw_ret {p : Program} {l : Launch} {e : Env} {s : State} {m : MethodId} {below : List Frame} {meth : Method} {c : Code} {b : Nat} (hx : p.tables.exec = Jvm.exec) (hb : c.code = code) (hr : meth.sig.returnType = ret) (hlocks : meth.locks = false) {pc : Nat} {H : Heap} {ls : Array Slot} (hdg : decode code pc = .ok (.ireturn, 1)) : W p l e room_1 s m #[Value.ref b] below meth c H [] 600002 7302231 (lw_Z below #[Value.ref b] s) (F0 m pc ls [.int 1]) := by
  intro T hT X
  obtain ⟨fs, hret, hrun, hended, hW, hframe⟩ := X.leave (v := some (.int 1)) (hlocks := hlocks) (fun h => by rw [hr] at h; cases h)
  have hmeth' : T.vm.method? m = some meth := X.method'
  refine ⟨T.setFrames fs, ?_, .returned (some (.int 1)), hrun, hended, rfl, ⟨_, rfl⟩, hW, hframe⟩
  jvm_step X.here [X.here.top, hx, hb, hdg, hmeth', hr, ret, narrow_b1]
  (try refine ⟨rfl, ?_⟩); (try refine ⟨rfl, ?_⟩)
  first | (intro acts; rw [hret _ acts rfl rfl rfl]) | rw [hret _ _ rfl rfl rfl]
  exact Steps.refl _
/-- what holds at the law's entry: the machine, the code, the tables' words (any of lw_tbl by 'hts w (by decide +kernel)'), the script of L ints xs at the cell b, what the Statement gives of the start (any of its parts by flat_of_before) -/
def lw_At (p : Program) (s : State) (m : MethodId) (meth : Method) (c : Code) (b L : Nat) (xs : Nat → Int32) : Prop :=
  p.tables.exec = Jvm.exec ∧ c.code = code ∧ meth.sig.returnType = ret ∧ c.maxLocals = 8 ∧ s.vm.findClass R_law = some m.cls ∧ (∀ w ∈ lw_tbl, w.before #[Value.ref b] s = true) ∧ va_X b L xs s s.heap ∧ b < s.heap.size ∧ meth.locks = false ∧ (Jvm.Cond.and given_1 narrow_1).before #[Value.ref b] s = true
end
section
/-! what holds at the law's entry, in the symbolic machine's words -/
set_option maxHeartbeats 4000000 in
set_option maxRecDepth 100000 in
theorem xr_world {p : Program} {s : State} {m : MethodId} {meth : Method} {c : Code} {b L : Nat} {xs : Nat → Int32} (C0 : lw_At p s m meth c b L xs) : ∃ (D : va_G) (cy : Nat → ClassId) (sg : Nat → Nat), va_K D vwCl (xr_ty cy) s ∧ xr_X s.heap.size sg s ∧ sg 0 = b := by
  obtain ⟨hx, hb, hr, hml, hown, hts, hX, hbl, hlocks, hgv⟩ := C0
  have hs := flat_of_before _ hgv
  have hgt : ∀ w ∈ xr_tb, w.before #[Value.ref b] s = true := fun w hw => hts w (List.mem_filter.mp hw).1
  have hA : ∀ a : Nat, a < s.heap.size → ¬ (fun q => s.heap.size ≤ q) a := fun a h => Nat.not_le.mpr h
  obtain ⟨c0, iS0, hKn0⟩ := u_known (C := RX0) (T := TX0) (N := 5) (n := 5) hgt xr_in0 (hts (.instantiable RX0 5) (List.mem_of_getElem? (i := 464) (by decide +kernel)))
  obtain ⟨c1, iS1, hKn1⟩ := u_known (C := RX1) (T := TX1) (N := 6) (n := 6) hgt xr_in1 (hts (.instantiable RX1 6) (List.mem_of_getElem? (i := 370) (by decide +kernel)))
  obtain ⟨c2, iS2, hKn2⟩ := u_known (C := RX2) (T := TX2) (N := 6) (n := 6) hgt xr_in2 (hts (.instantiable RX2 6) (List.mem_of_getElem? (i := 343) (by decide +kernel)))
  obtain ⟨c3, iS3, hKn3⟩ := u_known (C := RX3) (T := TX3) (N := 16) (n := 16) hgt xr_in3 (hts (.instantiable RX3 16) (List.mem_of_getElem? (i := 489) (by decide +kernel)))
  obtain ⟨c4, iS4, hKn4⟩ := u_known (C := RX4) (T := TX4) (N := 18) (n := 18) hgt xr_in4 (hts (.instantiable RX4 18) (List.mem_of_getElem? (i := 399) (by decide +kernel)))
  obtain ⟨c5, iS5, hKn5⟩ := u_known (C := RX5) (T := TX5) (N := 5) (n := 5) hgt xr_in5 (hts (.instantiable RX5 5) (List.mem_of_getElem? (i := 739) (by decide +kernel)))
  obtain ⟨c6, iS6, hKn6⟩ := u_known (C := RX6) (T := TX6) (N := 6) (n := 6) hgt xr_in6 (hts (.instantiable RX6 6) (List.mem_of_getElem? (i := 200) (by decide +kernel)))
  obtain ⟨c7, iS7, hKn7⟩ := u_known (C := RX7) (T := TX7) (N := 15) (n := 15) hgt xr_in7 (hts (.instantiable RX7 15) (List.mem_of_getElem? (i := 287) (by decide +kernel)))
  obtain ⟨c8, iS8, hKn8⟩ := u_known (C := RX8) (T := TX8) (N := 9) (n := 9) hgt xr_in8 (hts (.instantiable RX8 9) (List.mem_of_getElem? (i := 155) (by decide +kernel)))
  obtain ⟨c9, iS9, hKn9⟩ := u_known (C := RX9) (T := TX9) (N := 8) (n := 8) hgt xr_in9 (hts (.instantiable RX9 8) (List.mem_of_getElem? (i := 253) (by decide +kernel)))
  obtain ⟨c10, iS10, hKn10⟩ := u_known (C := RX10) (T := TX10) (N := 4) (n := 4) hgt xr_in10 (hts (.instantiable RX10 4) (List.mem_of_getElem? (i := 226) (by decide +kernel)))
  obtain ⟨c11, iS11, hKn11⟩ := u_known (C := RX11) (T := TX11) (N := 15) (n := 15) hgt xr_in11 (hts (.instantiable RX11 15) (List.mem_of_getElem? (i := 147) (by decide +kernel)))
  obtain ⟨c12, iS12, hKn12⟩ := u_known (C := RX12) (T := TX12) (N := 49) (n := 49) hgt xr_in12 (hts (.instantiable RX12 49) (List.mem_of_getElem? (i := 1607) (by decide +kernel)))
  obtain ⟨cI, kI, pI, fI, gI, hI⟩ := Cond.arrayClass_spec (show (Cond.arrayClass .int).holds #[Value.ref b] s none s [] = true from hts (.arrayClass .int) (List.mem_of_getElem? (i := 224) (by decide +kernel)))
  obtain ⟨cB, kB, pB, fB, gB, hB⟩ := Cond.arrayClass_spec (show (Cond.arrayClass .byte).holds #[Value.ref b] s none s [] = true from hts (.arrayClass .byte) (List.mem_of_getElem? (i := 198) (by decide +kernel)))
  obtain ⟨cJ, kJ, pJ, fJ, gJ, hJ⟩ := Cond.arrayClass_spec (show (Cond.arrayClass .long).holds #[Value.ref b] s none s [] = true from hts (.arrayClass .long) (List.mem_of_getElem? (i := 2175) (by decide +kernel)))
  have hov : (Cond.arrayOver (.array .int)).before #[Value.ref b] s = true := hts (.arrayOver (.array .int)) (List.mem_of_getElem? (i := 1613) (by decide +kernel))
  obtain ⟨pO, cO, kO, fC, gO, hO, fO⟩ := Cond.arrayOver_specA (show (Cond.arrayOver (.array .int)).holds #[Value.ref b] s none s [] = true from hov)
  obtain ⟨tU, htU, hTU⟩ := va_Tof (N := 7) (tm := .static "NoiseFields$Law" "USUAL" "[I") (f := fun j => .int (xr_usn j)) (A := fun q => s.heap.size ≤ q) (by decide) (hs (.arrayOf (.static "NoiseFields$Law" "USUAL" "[I") .int) (by decide +kernel)) (va_eqt (hs (.eq (.length (.static "NoiseFields$Law" "USUAL" "[I")) (.int 7)) (by decide +kernel))) (fun j hj => by
    rcases (show j = 0 ∨ j = 1 ∨ j = 2 ∨ j = 3 ∨ j = 4 ∨ j = 5 ∨ j = 6 by omega) with rfl | rfl | rfl | rfl | rfl | rfl | rfl
    · exact va_eqt (hs (.eq (.elem (.static "NoiseFields$Law" "USUAL" "[I") (.int 0)) (.int 1000)) (by decide +kernel))
    · exact va_eqt (hs (.eq (.elem (.static "NoiseFields$Law" "USUAL" "[I") (.int 1)) (.int 1001)) (by decide +kernel))
    · exact va_eqt (hs (.eq (.elem (.static "NoiseFields$Law" "USUAL" "[I") (.int 2)) (.int 2000)) (by decide +kernel))
    · exact va_eqt (hs (.eq (.elem (.static "NoiseFields$Law" "USUAL" "[I") (.int 3)) (.int 1005)) (by decide +kernel))
    · exact va_eqt (hs (.eq (.elem (.static "NoiseFields$Law" "USUAL" "[I") (.int 4)) (.int 4)) (by decide +kernel))
    · exact va_eqt (hs (.eq (.elem (.static "NoiseFields$Law" "USUAL" "[I") (.int 5)) (.int 2003)) (by decide +kernel))
    · exact va_eqt (hs (.eq (.elem (.static "NoiseFields$Law" "USUAL" "[I") (.int 6)) (.int 2001)) (by decide +kernel))) hA
  have hZ : va_Z "NoiseFields$Law" "USUAL" "[I" (.ref tU) (fun q => s.heap.size ≤ q) s s.heap := va_Zof (hts (.laysStatic "NoiseFields$Law" "USUAL" "[I") (List.mem_of_getElem? (i := 597) (by decide +kernel))) (hts (.initialized "NoiseFields$Law") (List.mem_of_getElem? (i := 122) (by decide +kernel))) htU hA
  obtain ⟨a2, z1, z2, z3, e2, -⟩ := Cond.exactly_spec (show (Cond.exactly (.string "NoiseFields" 404) "java/lang/String").holds #[Value.ref b] s none s [] = true from hs (.exactly (.string "NoiseFields" 404) "java/lang/String") (by decide +kernel))
  obtain ⟨a3, z4, z5, z6, e3, -⟩ := Cond.exactly_spec (show (Cond.exactly (.string "NoiseFields" 397) "java/lang/String").holds #[Value.ref b] s none s [] = true from hs (.exactly (.string "NoiseFields" 397) "java/lang/String") (by decide +kernel))
  have r2 := vk_R.of (hts (.stringRef "NoiseFields" 404 "an argument is outside what the document allows") (List.mem_of_getElem? (i := 848) (by decide +kernel))) e2
  have r3 := vk_R.of (hts (.stringRef "NoiseFields" 397 "no such field, sound or order") (List.mem_of_getElem? (i := 1234) (by decide +kernel))) e3
  have hini : (Cond.initialized Bundle.tN).before #[Value.ref b] s = true := hts (.initialized "java/lang/Throwable") (List.mem_of_getElem? (i := 135) (by decide +kernel))
  have q1 : vx_Zq Bundle.tN "UNASSIGNED_STACK" Bundle.steD (fun q => s.heap.size ≤ q) s s.heap := vx_Zqof (hts (.laysStatic "java/lang/Throwable" "UNASSIGNED_STACK" "[Ljava/lang/StackTraceElement;") (List.mem_of_getElem? (i := 835) (by decide +kernel))) hini (hs (.isRef (.static "java/lang/Throwable" "UNASSIGNED_STACK" "[Ljava/lang/StackTraceElement;")) (by decide +kernel)) hA
  have q2 : vx_Zq Bundle.tN "SUPPRESSED_SENTINEL" Bundle.listD (fun q => s.heap.size ≤ q) s s.heap := vx_Zqof (hts (.laysStatic "java/lang/Throwable" "SUPPRESSED_SENTINEL" "Ljava/util/List;") (List.mem_of_getElem? (i := 837) (by decide +kernel))) hini (hs (.isRef (.static "java/lang/Throwable" "SUPPRESSED_SENTINEL" "Ljava/util/List;")) (by decide +kernel)) hA
  have q3 : va_Nc "java/lang/IllegalArgumentException" "java/util/NoSuchElementException" s := va_Nc.of (hs (.not (.castable "java/lang/IllegalArgumentException" "java/util/NoSuchElementException")) (by decide +kernel))
  refine ⟨(fun k => match k with
    | 0 => c0
    | 1 => c1
    | 2 => c2
    | 3 => c3
    | 4 => c4
    | 5 => c5
    | 6 => c6
    | 7 => c7
    | 8 => c8
    | 9 => c9
    | 10 => c10
    | 11 => c11
    | _ => c12, fun k => match k with
    | 0 => iS0
    | 1 => iS1
    | 2 => iS2
    | 3 => iS3
    | 4 => iS4
    | 5 => iS5
    | 6 => iS6
    | 7 => iS7
    | 8 => iS8
    | 9 => iS9
    | 10 => iS10
    | 11 => iS11
    | _ => iS12), (fun k => match k with
    | 0 => cI
    | 1 => cB
    | 2 => cJ
    | _ => cO), (fun k => match k with
    | 0 => b
    | 1 => tU
    | 2 => a2
    | _ => a3), ⟨?_, ?_⟩, ⟨⟨hZ, hTU⟩, ?_, hov, r2, r3, q1, q2, q3⟩, rfl⟩
  · intro k q hq
    match k, hq with
    | 0, hq => cases hq; exact hKn0
    | 1, hq => cases hq; exact hKn1
    | 2, hq => cases hq; exact hKn2
    | 3, hq => cases hq; exact hKn3
    | 4, hq => cases hq; exact hKn4
    | 5, hq => cases hq; exact hKn5
    | 6, hq => cases hq; exact hKn6
    | 7, hq => cases hq; exact hKn7
    | 8, hq => cases hq; exact hKn8
    | 9, hq => cases hq; exact hKn9
    | 10, hq => cases hq; exact hKn10
    | 11, hq => cases hq; exact hKn11
    | 12, hq => cases hq; exact hKn12
    | k + 13, hq => simp [vwCl] at hq
  · intro k q hq
    match k, hq with
    | 0, hq => cases hq; exact ⟨fun n z => ⟨fun k h => (by cases h), kI, gI, pI, hI⟩, fI⟩
    | 1, hq => cases hq; exact ⟨fun n z => ⟨fun k h => (by cases h), kB, gB, pB, hB⟩, fB⟩
    | 2, hq => cases hq; exact ⟨fun n z => ⟨fun k h => (by cases h), kJ, gJ, pJ, hJ⟩, fJ⟩
    | 3, hq => cases hq; exact ⟨fun n z => ⟨fun k h => (by cases h), kO, gO, pO, hO⟩, fO⟩
    | k + 4, hq => simp at hq
  · intro w hw
    have h1 := (List.mem_filter.mp hw).2
    have h2 := hts w (List.mem_filter.mp hw).1
    cases w <;> first | exact va_Nw.of rfl h2 | (simp [xr_owk] at h1)
def xr_one (o : Option xr_Out) : Bool := match o with
  | some (.inl (some (.int x)), _, _, ce, sl) => decide (x = 1) && (Nat.ble ce 600002 && Nat.ble sl 7302231)
  | _ => false
set_option maxHeartbeats 4000000 in
/-- the law comes to its end with true, where its run in the symbolic machine says so -/
theorem xr_bridge {p : Program} {l : Launch} {e : Env} {s : State} {m : MethodId} {below : List Frame} {meth : Method} {c : Code} {b L : Nat} {xs : Nat → Int32} (hst : l.stackTraces = false) (hnm : meth.name = "law") (hTab : c.exceptionTable.toList = tableOf []) (C0 : lw_At p s m meth c b L xs) {D : va_G} {cy : Nat → ClassId} {sg : Nat → Nat} (hK : va_K D vwCl (xr_ty cy) s) (hX : xr_X s.heap.size sg s) (hsg : sg 0 = b) {mt : List xr_M} {ML : xr_M} (hmt : ∀ M ∈ mt, xr_Mok mt M = true) (hML : xr_Mok mt ML = true) (hl1 : ML.1 = yL_law_) (hl2 : ML.2.1 = code) (hl3 : ML.2.2.1 = 8) (hl4 : ML.2.2.2.1 = some .boolean) (hl5 : ML.2.2.2.2.1 = [])
    {ep : Nat → Int32} {df : xr_D} {fx : xr_F} {sm : Nat → Nat → List Value → List xr_C → Bool → Option xr_Out} {scr : List Value} {n : Nat} (hD : xr_okD ep s.heap.size sg df) (hF : xr_okF ep s.heap.size sg fx) (hsm : ∀ d u as w b o, sm d u as w b = some o → xr_Con l D ep s.heap.size sg cy mt d u as w b o) (hlen : scr.length = L) (hscr : ∀ (j : Nat) (v : Value), scr[j]? = some v → xr_v ep s.heap.size sg v = .int (xs j))
    (hrun : xr_one (xr_lp xr_K0 df fx (some scr) mt 20 (xr_R df fx sm mt n 20) ML n ML.2.2.2.2.2.2 [(0, .float 0)] [] [] true 0 0) = true) : W p l e room_1 s m #[Value.ref b] below meth c s.heap [] 0 0 (lw_Z below #[Value.ref b] s) (entryFrame m ([Value.ref b] : List Value).toArray 8) := by
  obtain ⟨hx, hb, hr, hml, hown, hts, hXs, hbl, hlocks, hgv⟩ := id C0
  have hgt : ∀ w ∈ xr_tb, w.before #[Value.ref b] s = true := fun w hw => hts w (List.mem_filter.mp hw).1
  generalize hout : xr_lp xr_K0 df fx (some scr) mt 20 (xr_R df fx sm mt n 20) ML n ML.2.2.2.2.2.2 [(0, .float 0)] [] [] true 0 0 = o at hrun
  unfold xr_one at hrun
  split at hrun
  · rename_i x9 w9 b9 ce9 sl9
    simp only [Bool.and_eq_true, decide_eq_true_eq] at hrun
    obtain ⟨rfl, hc9, hs9⟩ := hrun
    have hc9 : ce9 ≤ 600002 := Nat.le_of_ble_eq_true hc9
    have hs9 : sl9 ≤ 7302231 := Nat.le_of_ble_eq_true hs9
    simp only [xr_Mok, Bool.and_eq_true, decide_eq_true_eq] at hML
    obtain ⟨-, -, hpc0, hcs, hall⟩ := hML
    have hMt : ∀ x ∈ ML.2.2.2.2.2.2, xr_chk mt ML x = true := List.all_eq_true.mp hall
    have hsc : xr_Sc ep s.heap.size sg s (some scr) := by
      intro xs' h'
      cases h'
      rw [hsg]
      refine ⟨?_, hbl, hbl⟩
      obtain ⟨cell, h1, h2, h3, h4, h5⟩ := hXs
      refine ⟨cell, h1, h2, h3, h4.trans hlen.symm, fun j hj => ?_⟩
      rw [h5 j (by omega)]
      show some (Value.int (xs j)) = some (Value.int (xr_i (xr_v ep s.heap.size sg (scr.getD j (.int 0)))))
      rw [List.getD_eq_getElem?_getD, List.getElem?_eq_getElem hj]
      have h6 := hscr j scr[j] (List.getElem?_eq_getElem hj)
      simp only [Option.getD_some]
      rw [h6]
      rfl
    have hI : xr_I D ep s.heap.size sg cy s [] true 0 s.heap [] := ⟨fun k q h => by simp [xr_w] at h, va_S.rf, Nat.le_refl _, fun _ => rfl⟩
    have key := (xr_lp_ok (Q := lw_Z below #[Value.ref b] s) (R := room_1) (args := #[Value.ref b]) (e := e) (below := below) (l := l) hD hF (fun u as w b o ho => xr_R_ok hsm hst hD hF hmt n 20 u as w b o ho) hMt hcs hx (hb.trans hl2.symm) (hml.trans hl3.symm) (by rw [hl1]; exact hown) (by rw [hl1]; exact hnm) hgt hK hX (Nat.le_refl _) hsc (by rw [hl5]; exact hTab) (by decide) (by decide) hc9 hs9 ?_ ?_ ?_ (fun _ _ _ _ _ _ _ h => by cases h) n _ _ _ _ _ _ _ hout (fun _ h => h)).2
    · have hl := lv_entry ([.ref b]) (n := 8) (Nat.le_of_ble_eq_true rfl)
      have k := key s.heap [] _ hI (by
        rw [hl3]
        have e9 : xr_lv ep s.heap.size sg [(0, .float 0)] = [(0, .ref b)] := by
          show [(0, Value.ref (sg 0))] = _
          rw [hsg]
        rw [e9]
        exact hl)
      rw [hpc0] at k
      rw [lg_entry_eq]
      exact k
    · intro i pc st rv w b' ce sl H locs ls ho hrt hd hI'
      cases ho
      rw [hl4] at hrt
      rw [hl2] at hd
      have hst' : i = .ireturn ∧ st = [.int 1] := by
        unfold xr_rt at hrt
        split at hrt
        · split at hrt
          · rename_i hq; cases hq
          · cases hrt
        · split at hrt
          · rename_i hq; cases hq
          · rename_i y hq
            simp only [Bool.cond_eq_ite] at hrt
            split at hrt
            · cases hrt; exact ⟨rfl, rfl⟩
            · cases hrt
          · rename_i hq; cases hq
          · cases hrt
        · split at hrt
          · rename_i hq; cases hq
          · cases hrt
        · split at hrt
          · rename_i hq; cases hq
          · rename_i hq; cases hq
          · cases hrt
        · cases hrt
      obtain ⟨rfl, rfl⟩ := hst'
      refine va_forget (fun q hq => hI'.2.1.2.2 q hq) ?_
      refine W.widen (k := 600002) (n := 7302231) hc9 hs9 ?_
      exact lw_ret hx hb hr hlocks hd
    · intro t pc st w b' ce sl H locs ls ho; cases ho
    · intro t pc rest w ce sl H locs ls q cl ho; cases ho
  · cases hrun
end
section
/-! a run cut in two: states held against literals -/
def xr_qv (a b : Value) : Bool := match a, b with
  | .int x, .int y => Nat.beq (xr_u x) (xr_u y)
  | .ref x, .ref y => Nat.beq x y
  | .null, .null => true
  | .retAddr x, .retAddr y => Nat.beq x y
  | x, y => decide (x = y)
theorem xr_u_inj {x y : Int32} (h : Nat.beq (xr_u x) (xr_u y) = true) : x = y := by
  have h1 : x.toUInt32.toNat = y.toUInt32.toNat := Nat.eq_of_beq_eq_true h
  have h2 : x.toBitVec = y.toBitVec := BitVec.eq_of_toNat_eq h1
  exact Int32.toBitVec_inj.mp h2
theorem xr_qv_ok {a b : Value} (h : xr_qv a b = true) : a = b := by
  unfold xr_qv at h
  split at h
  · rw [xr_u_inj h]
  · rw [Nat.eq_of_beq_eq_true h]
  · rfl
  · rw [Nat.eq_of_beq_eq_true h]
  · exact of_decide_eq_true h
def xr_qs : List Value → List Value → Bool
  | [], [] => true
  | a :: s, b :: t => xr_qv a b && xr_qs s t
  | _, _ => false
theorem xr_qs_ok : ∀ {a b : List Value}, xr_qs a b = true → a = b
  | [], [], _ => rfl
  | a :: s, b :: t, h => by
    simp only [xr_qs, Bool.and_eq_true] at h
    rw [xr_qv_ok h.1, xr_qs_ok h.2]
  | [], _ :: _, h => by cases h
  | _ :: _, [], h => by cases h
def xr_ql : xr_L → xr_L → Bool
  | [], [] => true
  | a :: s, b :: t => Nat.beq a.1 b.1 && (xr_qv a.2 b.2 && xr_ql s t)
  | _, _ => false
theorem xr_ql_ok : ∀ {a b : xr_L}, xr_ql a b = true → a = b
  | [], [], _ => rfl
  | a :: s, b :: t, h => by
    simp only [xr_ql, Bool.and_eq_true] at h
    rw [Prod.ext (Nat.eq_of_beq_eq_true h.1) (xr_qv_ok h.2.1), xr_ql_ok h.2.2]
  | [], _ :: _, h => by cases h
  | _ :: _, [], h => by cases h
def xr_qc (a b : xr_C) : Bool := match a, b with
  | .inl x, .inl y => Nat.beq x.1 y.1 && xr_qs x.2 y.2
  | .inr x, .inr y => Nat.beq x.1 y.1 && (Nat.beq x.2.1 y.2.1 && xr_ql x.2.2 y.2.2)
  | _, _ => false
theorem xr_qc_ok {a b : xr_C} (h : xr_qc a b = true) : a = b := by
  unfold xr_qc at h
  split at h
  · simp only [Bool.and_eq_true] at h
    rw [Prod.ext (Nat.eq_of_beq_eq_true h.1) (xr_qs_ok h.2)]
  · simp only [Bool.and_eq_true] at h
    rw [Prod.ext (Nat.eq_of_beq_eq_true h.1) (Prod.ext (Nat.eq_of_beq_eq_true h.2.1) (xr_ql_ok h.2.2))]
  · cases h
def xr_qw : List xr_C → List xr_C → Bool
  | [], [] => true
  | a :: s, b :: t => xr_qc a b && xr_qw s t
  | _, _ => false
theorem xr_qw_ok : ∀ {a b : List xr_C}, xr_qw a b = true → a = b
  | [], [], _ => rfl
  | a :: s, b :: t, h => by
    simp only [xr_qw, Bool.and_eq_true] at h
    rw [xr_qc_ok h.1, xr_qw_ok h.2]
  | [], _ :: _, h => by cases h
  | _ :: _, [], h => by cases h
abbrev xr_mark (b : Bool) (ce sl : Nat) : xr_Out := (.inr 777, [], b, ce, sl)
def xr_isM (o : Option xr_Out) (b : Bool) (ce sl : Nat) : Bool := match o with
  | some (.inr t, [], b', ce', sl') => Nat.beq t 777 && (decide (b' = b) && (Nat.beq ce' ce && Nat.beq sl' sl))
  | _ => false
theorem xr_isM_ok {o : Option xr_Out} {b : Bool} {ce sl : Nat} (h : xr_isM o b ce sl = true) : o = some (xr_mark b ce sl) := by
  unfold xr_isM at h
  split at h
  · simp only [Bool.and_eq_true, decide_eq_true_eq] at h
    rw [Nat.eq_of_beq_eq_true h.1, h.2.1, Nat.eq_of_beq_eq_true h.2.2.1, Nat.eq_of_beq_eq_true h.2.2.2]
  · cases h
def xr_Kc (pc0 : Nat) (l0 : xr_L) (st0 : List Value) (w0 : List xr_C) (b0 : Bool) (ce0 sl0 : Nat) : xr_Ih := fun rem l st w b ce sl =>
  bif Nat.beq (xr_pc rem) pc0 && (xr_ql l l0 && (xr_qs st st0 && (decide (b = b0) && (Nat.beq ce ce0 && (Nat.beq sl sl0 && xr_qw w w0))))) then some (xr_mark b0 ce0 sl0) else none
theorem xr_Kc_ok {pc0 : Nat} {l0 : xr_L} {st0 : List Value} {w0 : List xr_C} {b0 : Bool} {ce0 sl0 : Nat} {rem : List xr_En} {l : xr_L} {st : List Value} {w : List xr_C} {b : Bool} {ce sl : Nat} {o : xr_Out} (h : xr_Kc pc0 l0 st0 w0 b0 ce0 sl0 rem l st w b ce sl = some o) : xr_pc rem = pc0 ∧ l = l0 ∧ st = st0 ∧ b = b0 ∧ ce = ce0 ∧ sl = sl0 ∧ w = w0 := by
  unfold xr_Kc at h
  simp only [Bool.cond_eq_ite] at h
  split at h
  · rename_i q
    simp only [Bool.and_eq_true, decide_eq_true_eq] at q
    exact ⟨Nat.eq_of_beq_eq_true q.1, xr_ql_ok q.2.1, xr_qs_ok q.2.2.1, q.2.2.2.1, Nat.eq_of_beq_eq_true q.2.2.2.2.1, Nat.eq_of_beq_eq_true q.2.2.2.2.2.1, xr_qw_ok q.2.2.2.2.2.2⟩
  · cases h
set_option maxHeartbeats 4000000 in
/-- the law comes to its end with true, where its run in the symbolic machine says so from a place behind its entry on -/
theorem xr_bridge2 {p : Program} {l : Launch} {e : Env} {s : State} {m : MethodId} {below : List Frame} {meth : Method} {c : Code} {b L : Nat} {xs : Nat → Int32} (hst : l.stackTraces = false) (hnm : meth.name = "law") (hTab : c.exceptionTable.toList = tableOf []) (C0 : lw_At p s m meth c b L xs) {D : va_G} {cy : Nat → ClassId} {sg : Nat → Nat} (hK : va_K D vwCl (xr_ty cy) s) (hX : xr_X s.heap.size sg s) (hsg : sg 0 = b) {mt : List xr_M} {ML : xr_M} (hmt : ∀ M ∈ mt, xr_Mok mt M = true) (hML : xr_Mok mt ML = true) (hl1 : ML.1 = yL_law_) (hl2 : ML.2.1 = code) (hl3 : ML.2.2.1 = 8) (hl4 : ML.2.2.2.1 = some .boolean) (hl5 : ML.2.2.2.2.1 = [])
    {l0 : xr_L} {w0 : List xr_C} {ce0 sl0 n0 nR k0 : Nat} (hpre : xr_lp (xr_Kc (xr_pc (ML.2.2.2.2.2.2.drop k0)) l0 [] w0 true ce0 sl0) [] [] none mt 20 (xr_R [] [] (fun _ _ _ _ _ => none) mt nR 20) ML n0 ML.2.2.2.2.2.2 [(0, .float 0)] [] [] true 0 0 = some (xr_mark true ce0 sl0)) (hce0 : ce0 ≤ 600002) (hsl0 : sl0 ≤ 7302231)
    {ep : Nat → Int32} {df : xr_D} {fx : xr_F} {callf : Nat → List Value → List xr_C → Bool → Option xr_Out} {scr : List Value} {n : Nat} (hD : xr_okD ep s.heap.size sg df) (hF : xr_okF ep s.heap.size sg fx) (hcall : ∀ u as w b o, callf u as w b = some o → xr_Con l D ep s.heap.size sg cy mt 20 u as w b o) (hlen : scr.length = L) (hscr : ∀ (j : Nat) (v : Value), scr[j]? = some v → xr_v ep s.heap.size sg v = .int (xs j))
    (hrun : xr_one (xr_lp xr_K0 df fx (some scr) mt 20 callf ML n (ML.2.2.2.2.2.2.drop k0) l0 [] w0 true ce0 sl0) = true) : W p l e room_1 s m #[Value.ref b] below meth c s.heap [] 0 0 (lw_Z below #[Value.ref b] s) (entryFrame m ([Value.ref b] : List Value).toArray 8) := by
  obtain ⟨hx, hb, hr, hml, hown, hts, hXs, hbl, hlocks, hgv⟩ := id C0
  have hgt : ∀ w ∈ xr_tb, w.before #[Value.ref b] s = true := fun w hw => hts w (List.mem_filter.mp hw).1
  generalize hout : xr_lp xr_K0 df fx (some scr) mt 20 callf ML n (ML.2.2.2.2.2.2.drop k0) l0 [] w0 true ce0 sl0 = o at hrun
  unfold xr_one at hrun
  split at hrun
  · rename_i x9 w9 b9 ce9 sl9
    simp only [Bool.and_eq_true, decide_eq_true_eq] at hrun
    obtain ⟨rfl, hc9, hs9⟩ := hrun
    have hc9 : ce9 ≤ 600002 := Nat.le_of_ble_eq_true hc9
    have hs9 : sl9 ≤ 7302231 := Nat.le_of_ble_eq_true hs9
    simp only [xr_Mok, Bool.and_eq_true, decide_eq_true_eq] at hML
    obtain ⟨-, -, hpc0, hcs, hall⟩ := hML
    have hMt : ∀ x ∈ ML.2.2.2.2.2.2, xr_chk mt ML x = true := List.all_eq_true.mp hall
    have hsc : xr_Sc ep s.heap.size sg s (some scr) := by
      intro xs' h'
      cases h'
      rw [hsg]
      refine ⟨?_, hbl, hbl⟩
      obtain ⟨cell, h1, h2, h3, h4, h5⟩ := hXs
      refine ⟨cell, h1, h2, h3, h4.trans hlen.symm, fun j hj => ?_⟩
      rw [h5 j (by omega)]
      show some (Value.int (xs j)) = some (Value.int (xr_i (xr_v ep s.heap.size sg (scr.getD j (.int 0)))))
      rw [List.getD_eq_getElem?_getD, List.getElem?_eq_getElem hj]
      have h6 := hscr j scr[j] (List.getElem?_eq_getElem hj)
      simp only [Option.getD_some]
      rw [h6]
      rfl
    have hI : xr_I D ep s.heap.size sg cy s [] true 0 s.heap [] := ⟨fun k q h => by simp [xr_w] at h, va_S.rf, Nat.le_refl _, fun _ => rfl⟩
    have key := (xr_lp_ok (Q := lw_Z below #[Value.ref b] s) (R := room_1) (args := #[Value.ref b]) (e := e) (below := below) (l := l) hD hF hcall hMt hcs hx (hb.trans hl2.symm) (hml.trans hl3.symm) (by rw [hl1]; exact hown) (by rw [hl1]; exact hnm) hgt hK hX (Nat.le_refl _) hsc (by rw [hl5]; exact hTab) (by decide) (by decide) hc9 hs9 ?_ ?_ ?_ (fun _ _ _ _ _ _ _ h => by cases h) n _ _ _ _ _ _ _ hout (fun _ h => List.mem_of_mem_drop h)).2
    · have key0 := (xr_lp_ok (Q := lw_Z below #[Value.ref b] s) (R := room_1) (args := #[Value.ref b]) (e := e) (below := below) (l := l) (out := xr_mark true ce0 sl0) (df := []) (fx := []) (scr := none) (ep := ep) (fun d h => by cases h) (fun d h => by cases h) (fun u as w b o ho => xr_R_ok (fun d u as w b o h => by cases h) hst (fun d h => by cases h) (fun d h => by cases h) hmt nR 20 u as w b o ho) hMt hcs hx (hb.trans hl2.symm) (hml.trans hl3.symm) (by rw [hl1]; exact hown) (by rw [hl1]; exact hnm) hgt hK hX (Nat.le_refl _) (fun xs h => by cases h) (by rw [hl5]; exact hTab) (by decide) (by decide) hce0 hsl0 (fun _ _ _ _ _ _ _ _ _ _ _ h => by cases h) (fun t pc st w b ce sl H locs ls h hs => by
        have h1 : 777 = t := by injection h with h1 h2; injection h1
        subst h1
        simp [xr_site] at hs) (fun t pc rest w ce sl H locs ls q cl h => by
        have h1 : true = false := by injection h with h1 h2; injection h2 with h3 h4; injection h4
        cases h1) ?_ n0 _ _ _ _ _ _ _ hpre (fun _ h => h)).2
      · have hl := lv_entry ([.ref b]) (n := 8) (Nat.le_of_ble_eq_true rfl)
        have k := key0 s.heap [] _ hI (by
          rw [hl3]
          have e9 : xr_lv ep s.heap.size sg [(0, .float 0)] = [(0, .ref b)] := by
            show [(0, Value.ref (sg 0))] = _
            rw [hsg]
          rw [e9]
          exact hl)
        rw [hpc0] at k
        rw [lg_entry_eq]
        exact k
      · intro rem lv st w b' ce sl h hmem
        obtain ⟨h1, rfl, rfl, rfl, rfl, rfl, rfl⟩ := xr_Kc_ok h
        refine ⟨⟨fun _ => rfl, Nat.le_refl _, Nat.le_refl _⟩, fun H locs ls hI' hl' => ?_⟩
        rw [h1]
        exact key H locs ls hI' hl'
    · intro i pc st rv w b' ce sl H locs ls ho hrt hd hI'
      cases ho
      rw [hl4] at hrt
      rw [hl2] at hd
      have hst' : i = .ireturn ∧ st = [.int 1] := by
        unfold xr_rt at hrt
        split at hrt
        · split at hrt
          · rename_i hq; cases hq
          · cases hrt
        · split at hrt
          · rename_i hq; cases hq
          · rename_i y hq
            simp only [Bool.cond_eq_ite] at hrt
            split at hrt
            · cases hrt; exact ⟨rfl, rfl⟩
            · cases hrt
          · rename_i hq; cases hq
          · cases hrt
        · split at hrt
          · rename_i hq; cases hq
          · cases hrt
        · split at hrt
          · rename_i hq; cases hq
          · rename_i hq; cases hq
          · cases hrt
        · cases hrt
      obtain ⟨rfl, rfl⟩ := hst'
      refine va_forget (fun q hq => hI'.2.1.2.2 q hq) ?_
      refine W.widen (k := 600002) (n := 7302231) hc9 hs9 ?_
      exact lw_ret hx hb hr hlocks hd
    · intro t pc st w b' ce sl H locs ls ho; cases ho
    · intro t pc rest w ce sl H locs ls q cl ho; cases ho
  · cases hrun
end
section
/-! the methods that a first call on a new object reaches, printed by wip/p1/gen.py -/
def xm_0 : xr_M := (yX11_init, cX11_init, 1, none, [], 0, [(0, .aload_n 0, 1, [], 0), (1, .invokespecial 1, 3, [2, 151, 152, 153], 11), (4, .aload_n 0, 1, [], 0), (5, .new 7, 3, [8, 154, 155, 121], 10), (8, .dup, 1, [], 9), (9, .invokespecial 9, 3, [6, 81, 156, 157, 121, 158], 7), (12, .putfield 10, 3, [11, 0, 607], 6), (15, .aload_n 0, 1, [], 0), (16, .new 16, 3, [6, 199, 200, 122], 10), (19, .dup, 1, [], 9), (20, .invokespecial 18, 3, [6, 64, 201, 202, 122, 203], 7), (23, .putfield 19, 3, [11, 1, 608], 6), (26, .aload_n 0, 1, [], 0), (27, .new 23, 3, [10, 225, 226, 123], 10), (30, .dup, 1, [], 9), (31, .aload_n 0, 1, [], 0), (32, .getfield 19, 3, [11, 1, 608], 5), (35, .invokespecial 25, 3, [5, 94, 227, 228, 123, 229], 7), (38, .putfield 28, 3, [11, 2, 609], 6), (41, .aload_n 0, 1, [], 0), (42, .new 23, 3, [10, 225, 226, 123], 10), (45, .dup, 1, [], 9), (46, .aload_n 0, 1, [], 0), (47, .getfield 19, 3, [11, 1, 608], 5), (50, .invokespecial 25, 3, [5, 94, 227, 228, 123, 229], 7), (53, .putfield 32, 3, [11, 3, 610], 6), (56, .aload_n 0, 1, [], 0), (57, .new 35, 3, [9, 252, 253, 124], 10), (60, .dup, 1, [], 9), (61, .aload_n 0, 1, [], 0), (62, .getfield 28, 3, [11, 2, 609], 5), (65, .invokespecial 37, 3, [5, 90, 254, 255, 124, 256], 7), (68, .putfield 40, 3, [11, 4, 611], 6), (71, .aload_n 0, 1, [], 0), (72, .new 44, 3, [7, 286, 287, 125], 10), (75, .dup, 1, [], 9), (76, .aload_n 0, 1, [], 0), (77, .getfield 28, 3, [11, 2, 609], 5), (80, .aload_n 0, 1, [], 0), (81, .getfield 19, 3, [11, 1, 608], 5), (84, .invokespecial 46, 3, [5, 75, 288, 289, 125, 290], 7), (87, .putfield 49, 3, [11, 5, 612], 6), (90, .aload_n 0, 1, [], 0), (91, .new 53, 3, [2, 342, 343, 126], 10), (94, .dup, 1, [], 9), (95, .invokespecial 55, 3, [6, 50, 344, 345, 126, 346], 7), (98, .putfield 56, 3, [11, 6, 613], 6), (101, .aload_n 0, 1, [], 0), (102, .new 60, 3, [1, 369, 370, 127], 10), (105, .dup, 1, [], 9), (106, .invokespecial 62, 3, [6, 48, 371, 372, 127, 373], 7), (109, .putfield 63, 3, [11, 7, 614], 6), (112, .aload_n 0, 1, [], 0), (113, .new 67, 3, [4, 398, 399, 128], 10), (116, .dup, 1, [], 9), (117, .aload_n 0, 1, [], 0), (118, .getfield 63, 3, [11, 7, 614], 5), (121, .invokespecial 69, 3, [5, 57, 400, 401, 128, 402], 7), (124, .putfield 72, 3, [11, 8, 615], 6), (127, .aload_n 0, 1, [], 0), (128, .new 76, 3, [0, 463, 464, 129], 10), (131, .dup, 1, [], 9), (132, .aload_n 0, 1, [], 0), (133, .getfield 32, 3, [11, 3, 610], 5), (136, .invokespecial 78, 3, [5, 45, 465, 466, 129, 467], 7), (139, .putfield 79, 3, [11, 9, 616], 6), (142, .aload_n 0, 1, [], 0), (143, .new 83, 3, [3, 488, 489, 130], 10), (146, .dup, 1, [], 9), (147, .invokespecial 85, 3, [6, 54, 490, 491, 130, 492], 7), (150, .invokevirtual 86, 3, [3, 3, 11, 578, 580, 0, 120, 581], 7), (153, .return_, 1, [], 8)])
def xm_1 : xr_M := (yX11_against, cX11_against, 3, (some .int), [], 2, [(0, .aload_n 0, 1, [], 0), (1, .iload_n 1, 1, [], 0), (2, .invokevirtual 211, 3, [3, 23, 11, 1217, 1219, 30, 120, 1220], 7), (5, .aload_n 0, 1, [], 0), (6, .iload_n 2, 1, [], 0), (7, .iconst 0, 1, [], 2), (8, .iconst 1, 1, [], 2), (9, .invokevirtual 195, 3, [3, 22, 11, 800, 802, 6, 120, 803], 7), (12, .aload_n 0, 1, [], 0), (13, .getfield 49, 3, [11, 5, 612], 5), (16, .iload_n 1, 1, [], 0), (17, .invokevirtual 337, 3, [], 7), (20, .iload_n 2, 1, [], 0), (21, .ifCond .ne 13, 3, [18], 4), (24, .aload_n 0, 1, [], 0), (25, .getfield 49, 3, [11, 5, 612], 5), (28, .getfield 295, 3, [7, 2, 297], 5), (31, .goto 10, 3, [21], 4), (34, .aload_n 0, 1, [], 0), (35, .getfield 49, 3, [11, 5, 612], 5), (38, .getfield 298, 3, [7, 3, 299], 5), (41, .ireturn, 1, [], 8)])
def xm_2 : xr_M := (yX11_ahead, cX11_ahead, 2, (some .int), [], 1, [(0, .aload_n 0, 1, [], 0), (1, .iload_n 1, 1, [], 0), (2, .iconst 0, 1, [], 2), (3, .iconst 3, 1, [], 2), (4, .invokevirtual 195, 3, [3, 22, 11, 800, 802, 6, 120, 803], 7), (7, .aload_n 0, 1, [], 0), (8, .getfield 32, 3, [11, 3, 610], 5), (11, .aload_n 0, 1, [], 0), (12, .getfield 28, 3, [11, 2, 609], 5), (15, .getfield 150, 3, [10, 0, 233], 5), (18, .invokevirtual 188, 3, [3, 104, 10, 669, 670, 671, 123, 672], 7), (21, .aload_n 0, 1, [], 0), (22, .getfield 32, 3, [11, 3, 610], 5), (25, .invokevirtual 267, 3, [3, 97, 10, 1301, 1115, 1116, 123, 1117], 7), (28, .iload_n 1, 1, [], 0), (29, .tableswitch 87 0 2 #[27, 47, 69], 27, [48, 16, 26, 38], 9), (56, .aload_n 0, 1, [], 0), (57, .getfield 32, 3, [11, 3, 610], 5), (60, .bipush 30, 2, [], 2), (62, .invokevirtual 204, 3, [3, 103, 10, 1208, 1157, 1158, 123, 1159], 7), (65, .aload_n 0, 1, [], 0), (66, .getfield 28, 3, [11, 2, 609], 5), (69, .bipush 30, 2, [], 2), (71, .invokevirtual 204, 3, [3, 103, 10, 1208, 1157, 1158, 123, 1159], 7), (74, .isub, 1, [], 3), (75, .ireturn, 1, [], 8), (76, .aload_n 0, 1, [], 0), (77, .getfield 32, 3, [11, 3, 610], 5), (80, .getfield 150, 3, [10, 0, 233], 5), (83, .bipush 71, 2, [], 2), (85, .iaload, 1, [], 5), (86, .aload_n 0, 1, [], 0), (87, .getfield 28, 3, [11, 2, 609], 5), (90, .getfield 150, 3, [10, 0, 233], 5), (93, .bipush 71, 2, [], 2), (95, .iaload, 1, [], 5), (96, .isub, 1, [], 3), (97, .ireturn, 1, [], 8), (98, .aload_n 0, 1, [], 0), (99, .getfield 32, 3, [11, 3, 610], 5), (102, .iconst 2, 1, [], 2), (103, .invokevirtual 270, 3, [3, 98, 10, 1302, 1303, 1304, 123, 1305], 7), (106, .aload_n 0, 1, [], 0), (107, .getfield 28, 3, [11, 2, 609], 5), (110, .iconst 2, 1, [], 2), (111, .invokevirtual 270, 3, [3, 98, 10, 1302, 1303, 1304, 123, 1305], 7), (114, .isub, 1, [], 3), (115, .ireturn, 1, [], 8), (116, .aload_n 0, 1, [], 0), (117, .getfield 32, 3, [11, 3, 610], 5), (120, .bipush 48, 2, [], 2), (122, .invokevirtual 204, 3, [3, 103, 10, 1208, 1157, 1158, 123, 1159], 7), (125, .aload_n 0, 1, [], 0), (126, .getfield 28, 3, [11, 2, 609], 5), (129, .bipush 48, 2, [], 2), (131, .invokevirtual 204, 3, [3, 103, 10, 1208, 1157, 1158, 123, 1159], 7), (134, .isub, 1, [], 3), (135, .ireturn, 1, [], 8)])
def xm_3 : xr_M := (yX11_beginFarm, cX11_beginFarm, 2, none, [], 1, [(0, .aload_n 0, 1, [], 0), (1, .getfield 28, 3, [11, 2, 609], 5), (4, .aload_n 1, 1, [], 0), (5, .invokevirtual 90, 3, [3, 96, 10, 582, 583, 584, 123, 585], 7), (8, .aload_n 0, 1, [], 0), (9, .getfield 32, 3, [11, 3, 610], 5), (12, .aload_n 1, 1, [], 0), (13, .invokevirtual 90, 3, [3, 96, 10, 582, 583, 584, 123, 585], 7), (16, .aload_n 0, 1, [], 0), (17, .getfield 19, 3, [11, 1, 608], 5), (20, .invokevirtual 93, 3, [3, 66, 6, 592, 593, 594, 122, 595], 7), (23, .aload_n 0, 1, [], 0), (24, .getfield 56, 3, [11, 6, 613], 5), (27, .aload_n 1, 1, [], 0), (28, .invokevirtual 96, 3, [3, 51, 2, 599, 600, 601, 126, 602], 7), (31, .aload_n 0, 1, [], 0), (32, .getfield 63, 3, [11, 7, 614], 5), (35, .iconst 0, 1, [], 2), (36, .putfield 97, 3, [1, 0, 375], 6), (39, .aload_n 0, 1, [], 0), (40, .getfield 72, 3, [11, 8, 615], 5), (43, .aload_n 1, 1, [], 0), (44, .invokevirtual 101, 3, [3, 58, 4, 603, 604, 605, 128, 606], 7), (47, .aload_n 0, 1, [], 0), (48, .aconst_null, 1, [], 9), (49, .putfield 102, 3, [11, 10, 617], 6), (52, .aload_n 0, 1, [], 0), (53, .aconst_null, 1, [], 9), (54, .putfield 106, 3, [11, 11, 618], 6), (57, .aload_n 0, 1, [], 0), (58, .iconst 0, 1, [], 2), (59, .putfield 109, 3, [11, 12, 619], 6), (62, .return_, 1, [], 8)])
def xm_4 : xr_M := (yX11_best, cX11_best, 2, (some .int), [], 1, [(0, .aload_n 0, 1, [], 0), (1, .iload_n 1, 1, [], 0), (2, .iconst 0, 1, [], 2), (3, .iconst 1, 1, [], 2), (4, .invokevirtual 195, 3, [3, 22, 11, 800, 802, 6, 120, 803], 7), (7, .aload_n 0, 1, [], 0), (8, .getfield 49, 3, [11, 5, 612], 5), (11, .invokevirtual 273, 3, [3, 78, 7, 1313, 1314, 1315, 125, 1316], 7), (14, .iload_n 1, 1, [], 0), (15, .ifCond .ne 13, 3, [14], 4), (18, .aload_n 0, 1, [], 0), (19, .getfield 49, 3, [11, 5, 612], 5), (22, .getfield 276, 3, [7, 0, 293], 5), (25, .goto 10, 3, [17], 4), (28, .aload_n 0, 1, [], 0), (29, .getfield 49, 3, [11, 5, 612], 5), (32, .getfield 279, 3, [7, 1, 295], 5), (35, .ireturn, 1, [], 8)])
def xm_5 : xr_M := (yX11_blight, cX11_blight, 5, (some .int), [], 4, [(0, .aload_n 0, 1, [], 0), (1, .iload_n 2, 1, [], 0), (2, .iconst 0, 1, [], 2), (3, .bipush 16, 2, [], 2), (5, .invokevirtual 195, 3, [3, 22, 11, 800, 802, 6, 120, 803], 7), (8, .aload_n 0, 1, [], 0), (9, .iload_n 3, 1, [], 0), (10, .iconst 1, 1, [], 2), (11, .bipush 20, 2, [], 2), (13, .invokevirtual 195, 3, [3, 22, 11, 800, 802, 6, 120, 803], 7), (16, .aload_n 0, 1, [], 0), (17, .iload 4, 2, [], 0), (19, .iconst 0, 1, [], 2), (20, .iconst 2, 1, [], 2), (21, .invokevirtual 195, 3, [3, 22, 11, 800, 802, 6, 120, 803], 7), (24, .aload_n 0, 1, [], 0), (25, .getfield 79, 3, [11, 9, 616], 5), (28, .aload_n 0, 1, [], 0), (29, .getfield 28, 3, [11, 2, 609], 5), (32, .getfield 150, 3, [10, 0, 233], 5), (35, .iload_n 3, 1, [], 0), (36, .invokevirtual 343, 3, [3, 46, 0, 1573, 1574, 1575, 129, 1576], 7), (39, .aload_n 0, 1, [], 0), (40, .getfield 79, 3, [11, 9, 616], 5), (43, .iload_n 1, 1, [], 0), (44, .iload_n 2, 1, [], 0), (45, .iload_n 3, 1, [], 0), (46, .invokevirtual 347, 3, [3, 47, 0, 1581, 1582, 1583, 129, 1584], 7), (49, .iload 4, 2, [], 0), (51, .lookupswitch 41 #[(0, 25), (1, 33)], 25, [38, 30, 34], 9), (76, .aload_n 0, 1, [], 0), (77, .getfield 79, 3, [11, 9, 616], 5), (80, .getfield 350, 3, [0, 0, 470], 5), (83, .ireturn, 1, [], 8), (84, .aload_n 0, 1, [], 0), (85, .getfield 79, 3, [11, 9, 616], 5), (88, .getfield 353, 3, [0, 1, 472], 5), (91, .ireturn, 1, [], 8), (92, .aload_n 0, 1, [], 0), (93, .getfield 79, 3, [11, 9, 616], 5), (96, .getfield 354, 3, [0, 2, 474], 5), (99, .ireturn, 1, [], 8)])
def xm_6 : xr_M := (yX11_book, cX11_book, 2, (some .int), [], 1, [(0, .aload_n 0, 1, [], 0), (1, .iload_n 1, 1, [], 0), (2, .bipush 100, 2, [], 2), (4, .invokevirtual 119, 3, [3, 24, 11, 795, 797, 5, 120, 798], 7), (7, .aload_n 0, 1, [], 0), (8, .getfield 10, 3, [11, 0, 607], 5), (11, .iload_n 1, 1, [], 0), (12, .invokevirtual 123, 3, [3, 85, 8, 874, 875, 876, 121, 877], 7), (15, .aload_n 0, 1, [], 0), (16, .getfield 63, 3, [11, 7, 614], 5), (19, .aload_n 0, 1, [], 0), (20, .getfield 10, 3, [11, 0, 607], 5), (23, .aload_n 0, 1, [], 0), (24, .getfield 28, 3, [11, 2, 609], 5), (27, .getfield 175, 3, [10, 2, 241], 5), (30, .getfield 137, 3, [3, 0, 499], 5), (33, .invokevirtual 179, 3, [3, 49, 1, 1183, 1184, 1185, 127, 1186], 7), (36, .aload_n 0, 1, [], 0), (37, .getfield 10, 3, [11, 0, 607], 5), (40, .invokevirtual 130, 3, [3, 82, 8, 982, 983, 984, 121, 985], 7), (43, .ifCond .eq 14, 3, [27], 4), (46, .aload_n 0, 1, [], 0), (47, .getfield 10, 3, [11, 0, 607], 5), (50, .getfield 134, 3, [8, 2, 165], 5), (53, .bipush 10, 2, [], 2), (55, .isub, 1, [], 3), (56, .ireturn, 1, [], 8), (57, .aload_n 0, 1, [], 0), (58, .getfield 72, 3, [11, 8, 615], 5), (61, .aload_n 0, 1, [], 0), (62, .getfield 28, 3, [11, 2, 609], 5), (65, .getfield 175, 3, [10, 2, 241], 5), (68, .invokevirtual 101, 3, [3, 58, 4, 603, 604, 605, 128, 606], 7), (71, .aload_n 0, 1, [], 0), (72, .getfield 63, 3, [11, 7, 614], 5), (75, .getfield 97, 3, [1, 0, 375], 5), (78, .ireturn, 1, [], 8)])
def xm_7 : xr_M := (yX11_count, cX11_count, 2, (some .int), [], 1, [(0, .iload_n 1, 1, [], 0), (1, .tableswitch 45 0 2 #[27, 32, 40], 27, [12, 2, 5, 9], 9), (28, .aload_n 0, 1, [], 0), (29, .invokevirtual 365, 3, [3, 18, 11, 720, 722, 4, 120, 723], 7), (32, .ireturn, 1, [], 8), (33, .aload_n 0, 1, [], 0), (34, .getfield 10, 3, [11, 0, 607], 5), (37, .getfield 112, 3, [8, 1, 163], 5), (40, .ireturn, 1, [], 8), (41, .aload_n 0, 1, [], 0), (42, .invokevirtual 143, 3, [3, 42, 11, 673, 675, 1, 120, 676], 7), (45, .ireturn, 1, [], 8), (46, .iconst (-1), 1, [], 2), (47, .ireturn, 1, [], 8)])
def xm_8 : xr_M := (yX11_crossing, cX11_crossing, 3, (some .int), [], 2, [(0, .aload_n 0, 1, [], 0), (1, .iload_n 1, 1, [], 0), (2, .iconst 0, 1, [], 2), (3, .bipush 63, 2, [], 2), (5, .invokevirtual 195, 3, [3, 22, 11, 800, 802, 6, 120, 803], 7), (8, .aload_n 0, 1, [], 0), (9, .iload_n 2, 1, [], 0), (10, .iconst 0, 1, [], 2), (11, .bipush 63, 2, [], 2), (13, .invokevirtual 195, 3, [3, 22, 11, 800, 802, 6, 120, 803], 7), (16, .aload_n 0, 1, [], 0), (17, .getfield 28, 3, [11, 2, 609], 5), (20, .getfield 175, 3, [10, 2, 241], 5), (23, .iload_n 1, 1, [], 0), (24, .iload_n 2, 1, [], 0), (25, .invokevirtual 301, 3, [3, 55, 3, 1424, 713, 714, 130, 715], 7), (28, .ireturn, 1, [], 8)])
def xm_9 : xr_M := (yX11_drowned, cX11_drowned, 4, (some .int), [], 0, [(0, .iconst 0, 1, [], 2), (1, .istore_n 1, 1, [], 1), (2, .iconst 0, 1, [], 2), (3, .istore_n 2, 1, [], 1), (4, .iload_n 2, 1, [], 0), (5, .aload_n 0, 1, [], 0), (6, .getfield 28, 3, [11, 2, 609], 5), (9, .getfield 175, 3, [10, 2, 241], 5), (12, .getfield 137, 3, [3, 0, 499], 5), (15, .if_icmp .ge 52, 3, [37], 4), (18, .aload_n 0, 1, [], 0), (19, .getfield 28, 3, [11, 2, 609], 5), (22, .getfield 175, 3, [10, 2, 241], 5), (25, .aload_n 0, 1, [], 0), (26, .getfield 28, 3, [11, 2, 609], 5), (29, .iload_n 2, 1, [], 0), (30, .invokevirtual 261, 3, [], 7), (33, .invokevirtual 264, 3, [], 7), (36, .istore_n 3, 1, [], 1), (37, .iload_n 3, 1, [], 0), (38, .ifCond .le 23, 3, [35], 4), (41, .aload_n 0, 1, [], 0), (42, .getfield 28, 3, [11, 2, 609], 5), (45, .iload_n 2, 1, [], 0), (46, .invokevirtual 214, 3, [], 7), (49, .iconst 2, 1, [], 2), (50, .iload_n 3, 1, [], 0), (51, .imul, 1, [], 3), (52, .if_icmp .le 9, 3, [35], 4), (55, .iload_n 1, 1, [], 0), (56, .iconst 1, 1, [], 2), (57, .iload_n 2, 1, [], 0), (58, .ishl, 1, [], 9), (59, .ior, 1, [], 9), (60, .istore_n 1, 1, [], 1), (61, .iinc 2 1, 3, [], 1), (64, .goto (-60), 3, [4], 4), (67, .iload_n 1, 1, [], 0), (68, .ireturn, 1, [], 8)])
def xm_10 : xr_M := (yX11_ear, cX11_ear, 2, (some .int), [], 1, [(0, .aload_n 0, 1, [], 0), (1, .iload_n 1, 1, [], 0), (2, .iconst 0, 1, [], 2), (3, .iconst 1, 1, [], 2), (4, .invokevirtual 195, 3, [3, 22, 11, 800, 802, 6, 120, 803], 7), (7, .aload_n 0, 1, [], 0), (8, .getfield 72, 3, [11, 8, 615], 5), (11, .invokevirtual 328, 3, [3, 60, 4, 1521, 1522, 1523, 128, 1524], 7), (14, .iload_n 1, 1, [], 0), (15, .ifCond .ne 13, 3, [14], 4), (18, .aload_n 0, 1, [], 0), (19, .getfield 72, 3, [11, 8, 615], 5), (22, .getfield 331, 3, [4, 2, 409], 5), (25, .goto 10, 3, [17], 4), (28, .aload_n 0, 1, [], 0), (29, .getfield 72, 3, [11, 8, 615], 5), (32, .getfield 334, 3, [4, 3, 411], 5), (35, .ireturn, 1, [], 8)])
def xm_11 : xr_M := (yX11_farm, cX11_farm, 3, (some .int), [], 1, [(0, .aload_n 0, 1, [], 0), (1, .iload_n 1, 1, [], 0), (2, .sipush 600, 3, [], 2), (5, .invokevirtual 119, 3, [3, 24, 11, 795, 797, 5, 120, 798], 7), (8, .aload_n 0, 1, [], 0), (9, .getfield 10, 3, [11, 0, 607], 5), (12, .iload_n 1, 1, [], 0), (13, .invokevirtual 123, 3, [3, 85, 8, 874, 875, 876, 121, 877], 7), (16, .new 83, 3, [3, 488, 489, 130], 10), (19, .dup, 1, [], 9), (20, .invokespecial 85, 3, [6, 54, 490, 491, 130, 492], 7), (23, .astore_n 2, 1, [], 9), (24, .aload_n 2, 1, [], 0), (25, .aload_n 0, 1, [], 0), (26, .getfield 10, 3, [11, 0, 607], 5), (29, .invokevirtual 126, 3, [3, 56, 3, 878, 879, 880, 130, 881], 7), (32, .aload_n 0, 1, [], 0), (33, .getfield 10, 3, [11, 0, 607], 5), (36, .invokevirtual 130, 3, [3, 82, 8, 982, 983, 984, 121, 985], 7), (39, .ifCond .eq 14, 3, [26], 4), (42, .aload_n 0, 1, [], 0), (43, .getfield 10, 3, [11, 0, 607], 5), (46, .getfield 134, 3, [8, 2, 165], 5), (49, .bipush 10, 2, [], 2), (51, .isub, 1, [], 3), (52, .ireturn, 1, [], 8), (53, .aload_n 0, 1, [], 0), (54, .aload_n 2, 1, [], 0), (55, .invokevirtual 86, 3, [3, 3, 11, 578, 580, 0, 120, 581], 7), (58, .aload_n 2, 1, [], 0), (59, .getfield 137, 3, [3, 0, 499], 5), (62, .ireturn, 1, [], 8)])
def xm_12 : xr_M := (yX11_fault, cX11_fault, 1, (some .int), [], 0, [(0, .aload_n 0, 1, [], 0), (1, .getfield 10, 3, [11, 0, 607], 5), (4, .getfield 182, 3, [8, 3, 167], 5), (7, .ireturn, 1, [], 8)])
def xm_13 : xr_M := (yX11_feed, cX11_feed, 6, (some .int), [], 5, [(0, .aload_n 0, 1, [], 0), (1, .getfield 10, 3, [11, 0, 607], 5), (4, .getfield 112, 3, [8, 1, 163], 5), (7, .bipush 20, 2, [], 2), (9, .iadd, 1, [], 3), (10, .sipush 600, 3, [], 2), (13, .if_icmp .le 5, 3, [9], 4), (16, .iconst (-1), 1, [], 2), (17, .ireturn, 1, [], 8), (18, .aload_n 0, 1, [], 0), (19, .getfield 10, 3, [11, 0, 607], 5), (22, .iload_n 1, 1, [], 0), (23, .invokevirtual 115, 3, [3, 86, 8, 657, 658, 659, 121, 660], 7), (26, .aload_n 0, 1, [], 0), (27, .getfield 10, 3, [11, 0, 607], 5), (30, .iload_n 2, 1, [], 0), (31, .invokevirtual 115, 3, [3, 86, 8, 657, 658, 659, 121, 660], 7), (34, .aload_n 0, 1, [], 0), (35, .getfield 10, 3, [11, 0, 607], 5), (38, .iload_n 3, 1, [], 0), (39, .invokevirtual 115, 3, [3, 86, 8, 657, 658, 659, 121, 660], 7), (42, .aload_n 0, 1, [], 0), (43, .getfield 10, 3, [11, 0, 607], 5), (46, .iload 4, 2, [], 0), (48, .invokevirtual 115, 3, [3, 86, 8, 657, 658, 659, 121, 660], 7), (51, .aload_n 0, 1, [], 0), (52, .getfield 10, 3, [11, 0, 607], 5), (55, .iload 5, 2, [], 0), (57, .invokevirtual 115, 3, [3, 86, 8, 657, 658, 659, 121, 660], 7), (60, .aload_n 0, 1, [], 0), (61, .getfield 10, 3, [11, 0, 607], 5), (64, .getfield 112, 3, [8, 1, 163], 5), (67, .ireturn, 1, [], 8)])
def xm_14 : xr_M := (yX11_field, cX11_field, 3, (some .int), [], 2, [(0, .aload_n 0, 1, [], 0), (1, .iload_n 1, 1, [], 0), (2, .invokevirtual 211, 3, [3, 23, 11, 1217, 1219, 30, 120, 1220], 7), (5, .aload_n 0, 1, [], 0), (6, .iload_n 2, 1, [], 0), (7, .iconst 0, 1, [], 2), (8, .iconst 4, 1, [], 2), (9, .invokevirtual 195, 3, [3, 22, 11, 800, 802, 6, 120, 803], 7), (12, .iload_n 2, 1, [], 0), (13, .tableswitch 82 0 3 #[31, 43, 56, 69], 31, [42, 10, 18, 26, 34], 9), (44, .aload_n 0, 1, [], 0), (45, .getfield 28, 3, [11, 2, 609], 5), (48, .getfield 150, 3, [10, 0, 233], 5), (51, .iconst 0, 1, [], 2), (52, .iload_n 1, 1, [], 0), (53, .iadd, 1, [], 3), (54, .iaload, 1, [], 5), (55, .ireturn, 1, [], 8), (56, .aload_n 0, 1, [], 0), (57, .getfield 28, 3, [11, 2, 609], 5), (60, .getfield 150, 3, [10, 0, 233], 5), (63, .bipush 6, 2, [], 2), (65, .iload_n 1, 1, [], 0), (66, .iadd, 1, [], 3), (67, .iaload, 1, [], 5), (68, .ireturn, 1, [], 8), (69, .aload_n 0, 1, [], 0), (70, .getfield 28, 3, [11, 2, 609], 5), (73, .getfield 150, 3, [10, 0, 233], 5), (76, .bipush 12, 2, [], 2), (78, .iload_n 1, 1, [], 0), (79, .iadd, 1, [], 3), (80, .iaload, 1, [], 5), (81, .ireturn, 1, [], 8), (82, .aload_n 0, 1, [], 0), (83, .getfield 28, 3, [11, 2, 609], 5), (86, .getfield 150, 3, [10, 0, 233], 5), (89, .bipush 18, 2, [], 2), (91, .iload_n 1, 1, [], 0), (92, .iadd, 1, [], 3), (93, .iaload, 1, [], 5), (94, .ireturn, 1, [], 8), (95, .aload_n 0, 1, [], 0), (96, .getfield 28, 3, [11, 2, 609], 5), (99, .iload_n 1, 1, [], 0), (100, .invokevirtual 214, 3, [], 7), (103, .ireturn, 1, [], 8)])
def xm_15 : xr_M := (yX11_generation, cX11_generation, 2, (some .int), [], 1, [(0, .aload_n 0, 1, [], 0), (1, .iload_n 1, 1, [], 0), (2, .iconst 0, 1, [], 2), (3, .bipush 63, 2, [], 2), (5, .invokevirtual 195, 3, [3, 22, 11, 800, 802, 6, 120, 803], 7), (8, .aload_n 0, 1, [], 0), (9, .getfield 56, 3, [11, 6, 613], 5), (12, .invokevirtual 305, 3, [3, 52, 2, 699, 700, 701, 126, 702], 7), (15, .aload_n 0, 1, [], 0), (16, .getfield 56, 3, [11, 6, 613], 5), (19, .getfield 308, 3, [2, 0, 349], 5), (22, .iload_n 1, 1, [], 0), (23, .iaload, 1, [], 5), (24, .ireturn, 1, [], 8)])
def xm_16 : xr_M := (yX11_heard, cX11_heard, 2, (some .int), [], 1, [(0, .aload_n 0, 1, [], 0), (1, .iload_n 1, 1, [], 0), (2, .iconst 0, 1, [], 2), (3, .iconst 1, 1, [], 2), (4, .invokevirtual 195, 3, [3, 22, 11, 800, 802, 6, 120, 803], 7), (7, .aload_n 0, 1, [], 0), (8, .getfield 72, 3, [11, 8, 615], 5), (11, .invokevirtual 318, 3, [3, 62, 4, 1450, 1451, 1452, 128, 1453], 7), (14, .iload_n 1, 1, [], 0), (15, .ifCond .ne 13, 3, [14], 4), (18, .aload_n 0, 1, [], 0), (19, .getfield 72, 3, [11, 8, 615], 5), (22, .getfield 321, 3, [4, 0, 405], 5), (25, .goto 10, 3, [17], 4), (28, .aload_n 0, 1, [], 0), (29, .getfield 72, 3, [11, 8, 615], 5), (32, .getfield 324, 3, [4, 1, 407], 5), (35, .ireturn, 1, [], 8)])
def xm_17 : xr_M := (yX11_image, cX11_image, 2, (some .int), [], 0, [(0, .aload_n 0, 1, [], 0), (1, .invokevirtual 365, 3, [3, 18, 11, 720, 722, 4, 120, 723], 7), (4, .iconst 3, 1, [], 2), (5, .if_icmp .lt 5, 3, [6], 4), (8, .iconst (-1), 1, [], 2), (9, .ireturn, 1, [], 8), (10, .aload_n 0, 1, [], 0), (11, .getfield 10, 3, [11, 0, 607], 5), (14, .getfield 368, 3, [8, 0, 161], 5), (17, .aload_n 0, 1, [], 0), (18, .getfield 10, 3, [11, 0, 607], 5), (21, .getfield 112, 3, [8, 1, 163], 5), (24, .invokestatic 372, 3, [4, 204, 724, 725, 131, 726], 7), (27, .astore_n 1, 1, [], 9), (28, .aload_n 0, 1, [], 0), (29, .new 148, 3, [5, 738, 739, 143], 10), (32, .dup, 1, [], 9), (33, .aload_n 0, 1, [], 0), (34, .getfield 28, 3, [11, 2, 609], 5), (37, .getfield 150, 3, [10, 0, 233], 5), (40, .invokevirtual 154, 3, [1, 740, 741, 729, 730, 742, 743], 11), (43, .checkcast 155, 3, [744], 11), (46, .aload_n 0, 1, [], 0), (47, .getfield 106, 3, [11, 11, 618], 5), (50, .aload_n 0, 1, [], 0), (51, .getfield 102, 3, [11, 10, 617], 5), (54, .aload_n 1, 1, [], 0), (55, .invokespecial 159, 3, [5, 63, 745, 746, 143, 747], 7), (58, .putfield 106, 3, [11, 11, 618], 6), (61, .aload_n 0, 1, [], 0), (62, .invokevirtual 365, 3, [3, 18, 11, 720, 722, 4, 120, 723], 7), (65, .ireturn, 1, [], 8)])
def xm_18 : xr_M := (yX11_imagesKept, cX11_imagesKept, 1, (some .int), [], 0, [(0, .aload_n 0, 1, [], 0), (1, .getfield 106, 3, [11, 11, 618], 5), (4, .ifnonnull 7, 3, [5], 9), (7, .iconst 0, 1, [], 2), (8, .goto 10, 3, [8], 4), (11, .aload_n 0, 1, [], 0), (12, .getfield 106, 3, [11, 11, 618], 5), (15, .getfield 392, 3, [5, 2, 754], 5), (18, .ireturn, 1, [], 8)])
def xm_19 : xr_M := (yX11_keeps, cX11_keeps, 5, (some .int), [], 2, [(0, .aload_n 0, 1, [], 0), (1, .iload_n 1, 1, [], 0), (2, .invokevirtual 217, 3, [3, 25, 11, 1248, 1250, 32, 120, 1251], 7), (5, .aload_n 0, 1, [], 0), (6, .iload_n 2, 1, [], 0), (7, .iconst 0, 1, [], 2), (8, .bipush 40, 2, [], 2), (10, .invokevirtual 195, 3, [3, 22, 11, 800, 802, 6, 120, 803], 7), (13, .aload_n 0, 1, [], 0), (14, .getfield 28, 3, [11, 2, 609], 5), (17, .getfield 150, 3, [10, 0, 233], 5), (20, .bipush 24, 2, [], 2), (22, .iload_n 1, 1, [], 0), (23, .iadd, 1, [], 3), (24, .iaload, 1, [], 5), (25, .istore_n 3, 1, [], 1), (26, .iconst 0, 1, [], 2), (27, .istore 4, 2, [], 1), (29, .iload 4, 2, [], 0), (31, .iload_n 2, 1, [], 0), (32, .if_icmp .ge 23, 3, [31], 4), (35, .iload_n 3, 1, [], 0), (36, .aload_n 0, 1, [], 0), (37, .getfield 28, 3, [11, 2, 609], 5), (40, .getfield 175, 3, [10, 2, 241], 5), (43, .iload_n 3, 1, [], 0), (44, .invokevirtual 340, 3, [], 7), (47, .isub, 1, [], 3), (48, .istore_n 3, 1, [], 1), (49, .iinc 4 1, 3, [], 1), (52, .goto (-23), 3, [18], 4), (55, .iload_n 3, 1, [], 0), (56, .ireturn, 1, [], 8)])
def xm_20 : xr_M := (yX11_law, cX11_law, 2, (some .int), [], 1, [(0, .aload_n 0, 1, [], 0), (1, .iload_n 1, 1, [], 0), (2, .sipush 150, 3, [], 2), (5, .invokevirtual 119, 3, [3, 24, 11, 795, 797, 5, 120, 798], 7), (8, .aload_n 0, 1, [], 0), (9, .getfield 10, 3, [11, 0, 607], 5), (12, .iload_n 1, 1, [], 0), (13, .invokevirtual 123, 3, [3, 85, 8, 874, 875, 876, 121, 877], 7), (16, .aload_n 0, 1, [], 0), (17, .getfield 19, 3, [11, 1, 608], 5), (20, .aload_n 0, 1, [], 0), (21, .getfield 10, 3, [11, 0, 607], 5), (24, .invokevirtual 140, 3, [3, 73, 6, 993, 994, 995, 122, 996], 7), (27, .aload_n 0, 1, [], 0), (28, .getfield 10, 3, [11, 0, 607], 5), (31, .invokevirtual 130, 3, [3, 82, 8, 982, 983, 984, 121, 985], 7), (34, .ifCond .eq 16, 3, [23], 4), (37, .aload_n 0, 1, [], 0), (38, .getfield 10, 3, [11, 0, 607], 5), (41, .getfield 134, 3, [8, 2, 165], 5), (44, .bipush 10, 2, [], 2), (46, .isub, 1, [], 3), (47, .goto 4, 3, [24], 4), (50, .iconst 1, 1, [], 2), (51, .ireturn, 1, [], 8)])
def xm_21 : xr_M := (yX11_loud, cX11_loud, 2, (some .int), [], 1, [(0, .aload_n 0, 1, [], 0), (1, .iload_n 1, 1, [], 0), (2, .invokevirtual 211, 3, [3, 23, 11, 1217, 1219, 30, 120, 1220], 7), (5, .aload_n 0, 1, [], 0), (6, .getfield 28, 3, [11, 2, 609], 5), (9, .iload_n 1, 1, [], 0), (10, .invokevirtual 258, 3, [], 7), (13, .ireturn, 1, [], 8)])
def xm_22 : xr_M := (yX11_needBetween, cX11_needBetween, 4, none, [], 3, [(0, .iload_n 1, 1, [], 0), (1, .iload_n 2, 1, [], 0), (2, .if_icmp .lt 8, 3, [6], 4), (5, .iload_n 1, 1, [], 0), (6, .iload_n 3, 1, [], 0), (7, .if_icmp .le 7, 3, [8], 4), (10, .aload_n 0, 1, [], 0), (11, .invokevirtual 289, 3, [3, 28, 11, 804, 806, 7, 120, 807], 7), (14, .return_, 1, [], 8)])
def xm_23 : xr_M := (yX11_needField, cX11_needField, 2, none, [], 1, [(0, .iload_n 1, 1, [], 0), (1, .ifCond .lt 17, 3, [8], 4), (4, .iload_n 1, 1, [], 0), (5, .aload_n 0, 1, [], 0), (6, .getfield 28, 3, [11, 2, 609], 5), (9, .getfield 175, 3, [10, 2, 241], 5), (12, .getfield 137, 3, [3, 0, 499], 5), (15, .if_icmp .lt 7, 3, [10], 4), (18, .aload_n 0, 1, [], 0), (19, .invokevirtual 229, 3, [3, 27, 11, 1221, 1223, 31, 120, 1224], 7), (22, .return_, 1, [], 8)])
def xm_24 : xr_M := (yX11_needLength, cX11_needLength, 3, none, [], 2, [(0, .aload_n 0, 1, [], 0), (1, .iload_n 1, 1, [], 0), (2, .iconst 0, 1, [], 2), (3, .iload_n 2, 1, [], 0), (4, .aload_n 0, 1, [], 0), (5, .getfield 10, 3, [11, 0, 607], 5), (8, .getfield 112, 3, [8, 1, 163], 5), (11, .invokestatic 357, 3, [20, 799, 735, 134, 736], 11), (14, .invokevirtual 195, 3, [3, 22, 11, 800, 802, 6, 120, 803], 7), (17, .return_, 1, [], 8)])
def xm_25 : xr_M := (yX11_needSound, cX11_needSound, 2, none, [], 1, [(0, .iload_n 1, 1, [], 0), (1, .ifCond .lt 17, 3, [8], 4), (4, .iload_n 1, 1, [], 0), (5, .aload_n 0, 1, [], 0), (6, .getfield 28, 3, [11, 2, 609], 5), (9, .getfield 175, 3, [10, 2, 241], 5), (12, .getfield 198, 3, [3, 1, 507], 5), (15, .if_icmp .lt 7, 3, [10], 4), (18, .aload_n 0, 1, [], 0), (19, .invokevirtual 229, 3, [3, 27, 11, 1221, 1223, 31, 120, 1224], 7), (22, .return_, 1, [], 8)])
def xm_26 : xr_M := (yX11_order, cX11_order, 3, (some .int), [], 2, [(0, .iload_n 1, 1, [], 0), (1, .ifCond .lt 17, 3, [8], 4), (4, .iload_n 1, 1, [], 0), (5, .aload_n 0, 1, [], 0), (6, .getfield 28, 3, [11, 2, 609], 5), (9, .getfield 175, 3, [10, 2, 241], 5), (12, .getfield 201, 3, [3, 2, 510], 5), (15, .if_icmp .lt 7, 3, [10], 4), (18, .aload_n 0, 1, [], 0), (19, .invokevirtual 229, 3, [3, 27, 11, 1221, 1223, 31, 120, 1224], 7), (22, .aload_n 0, 1, [], 0), (23, .iload_n 2, 1, [], 0), (24, .iconst 0, 1, [], 2), (25, .iconst 4, 1, [], 2), (26, .invokevirtual 195, 3, [3, 22, 11, 800, 802, 6, 120, 803], 7), (29, .iload_n 2, 1, [], 0), (30, .tableswitch 82 0 3 #[30, 43, 56, 69], 30, [45, 17, 24, 31, 38], 9), (60, .aload_n 0, 1, [], 0), (61, .getfield 28, 3, [11, 2, 609], 5), (64, .getfield 175, 3, [10, 2, 241], 5), (67, .getfield 232, 3, [3, 12, 534], 5), (70, .iload_n 1, 1, [], 0), (71, .iaload, 1, [], 5), (72, .ireturn, 1, [], 8), (73, .aload_n 0, 1, [], 0), (74, .getfield 28, 3, [11, 2, 609], 5), (77, .getfield 175, 3, [10, 2, 241], 5), (80, .getfield 235, 3, [3, 13, 537], 5), (83, .iload_n 1, 1, [], 0), (84, .iaload, 1, [], 5), (85, .ireturn, 1, [], 8), (86, .aload_n 0, 1, [], 0), (87, .getfield 28, 3, [11, 2, 609], 5), (90, .getfield 175, 3, [10, 2, 241], 5), (93, .getfield 238, 3, [3, 14, 540], 5), (96, .iload_n 1, 1, [], 0), (97, .iaload, 1, [], 5), (98, .ireturn, 1, [], 8), (99, .aload_n 0, 1, [], 0), (100, .getfield 28, 3, [11, 2, 609], 5), (103, .getfield 175, 3, [10, 2, 241], 5), (106, .getfield 241, 3, [3, 15, 543], 5), (109, .iload_n 1, 1, [], 0), (110, .iaload, 1, [], 5), (111, .ireturn, 1, [], 8), (112, .aload_n 0, 1, [], 0), (113, .getfield 28, 3, [11, 2, 609], 5), (116, .getfield 150, 3, [10, 0, 233], 5), (119, .bipush 60, 2, [], 2), (121, .iload_n 1, 1, [], 0), (122, .iadd, 1, [], 3), (123, .iaload, 1, [], 5), (124, .ireturn, 1, [], 8)])
def xm_27 : xr_M := (yX11_refuseMissing, cX11_refuseMissing, 1, none, [], 0, [(0, .aload_n 0, 1, [], 0), (1, .dup, 1, [], 9), (2, .getfield 386, 3, [11, 13, 620], 5), (5, .iconst 1, 1, [], 2), (6, .iadd, 1, [], 3), (7, .putfield 386, 3, [11, 13, 620], 6), (10, .new 395, 3, [99, 1], 12), (13, .dup, 1, [], 9), (14, .ldc_w 397, 3, [], 9), (17, .invokespecial 399, 3, [], 7), (20, .athrow, 1, [], 9)])
def xm_28 : xr_M := (yX11_refuseWrong, cX11_refuseWrong, 1, none, [], 0, [(0, .aload_n 0, 1, [], 0), (1, .dup, 1, [], 9), (2, .getfield 389, 3, [11, 14, 621], 5), (5, .iconst 1, 1, [], 2), (6, .iadd, 1, [], 3), (7, .putfield 389, 3, [11, 14, 621], 6), (10, .new 402, 3, [99, 0], 12), (13, .dup, 1, [], 9), (14, .ldc_w 404, 3, [], 9), (17, .invokespecial 406, 3, [], 7), (20, .athrow, 1, [], 9)])
def xm_29 : xr_M := (yX11_restore, cX11_restore, 1, (some .int), [], 0, [(0, .aload_n 0, 1, [], 0), (1, .getfield 106, 3, [11, 11, 618], 5), (4, .ifnonnull 5, 3, [5], 9), (7, .iconst (-1), 1, [], 2), (8, .ireturn, 1, [], 8), (9, .aload_n 0, 1, [], 0), (10, .getfield 28, 3, [11, 2, 609], 5), (13, .aload_n 0, 1, [], 0), (14, .getfield 106, 3, [11, 11, 618], 5), (17, .getfield 185, 3, [5, 0, 750], 5), (20, .invokevirtual 188, 3, [3, 104, 10, 669, 670, 671, 123, 672], 7), (23, .aload_n 0, 1, [], 0), (24, .aload_n 0, 1, [], 0), (25, .getfield 106, 3, [11, 11, 618], 5), (28, .getfield 378, 3, [5, 3, 756], 5), (31, .putfield 102, 3, [11, 10, 617], 6), (34, .aload_n 0, 1, [], 0), (35, .getfield 10, 3, [11, 0, 607], 5), (38, .aload_n 0, 1, [], 0), (39, .getfield 106, 3, [11, 11, 618], 5), (42, .getfield 379, 3, [5, 4, 758], 5), (45, .invokevirtual 382, 3, [], 7), (48, .aload_n 0, 1, [], 0), (49, .aload_n 0, 1, [], 0), (50, .getfield 106, 3, [11, 11, 618], 5), (53, .getfield 192, 3, [5, 1, 752], 5), (56, .putfield 106, 3, [11, 11, 618], 6), (59, .aload_n 0, 1, [], 0), (60, .iconst 0, 1, [], 2), (61, .putfield 109, 3, [11, 12, 619], 6), (64, .aload_n 0, 1, [], 0), (65, .invokevirtual 365, 3, [3, 18, 11, 720, 722, 4, 120, 723], 7), (68, .ireturn, 1, [], 8)])
def xm_30 : xr_M := (yX11_rows, cX11_rows, 2, (some .long), [], 1, [(0, .aload_n 0, 1, [], 0), (1, .iload_n 1, 1, [], 0), (2, .iconst 0, 1, [], 2), (3, .bipush 64, 2, [], 2), (5, .invokevirtual 195, 3, [3, 22, 11, 800, 802, 6, 120, 803], 7), (8, .aload_n 0, 1, [], 0), (9, .getfield 56, 3, [11, 6, 613], 5), (12, .invokevirtual 305, 3, [3, 52, 2, 699, 700, 701, 126, 702], 7), (15, .aload_n 0, 1, [], 0), (16, .getfield 56, 3, [11, 6, 613], 5), (19, .iload_n 1, 1, [], 0), (20, .invokevirtual 311, 3, [3, 53, 2, 1439, 1440, 1441, 126, 1442], 7), (23, .lreturn, 1, [], 8)])
def xm_31 : xr_M := (yX11_sets, cX11_sets, 3, (some .int), [], 2, [(0, .aload_n 0, 1, [], 0), (1, .iload_n 2, 1, [], 0), (2, .iconst 0, 1, [], 2), (3, .iconst 1, 1, [], 2), (4, .invokevirtual 195, 3, [3, 22, 11, 800, 802, 6, 120, 803], 7), (7, .aload_n 0, 1, [], 0), (8, .getfield 49, 3, [11, 5, 612], 5), (11, .iload_n 1, 1, [], 0), (12, .invokevirtual 285, 3, [3, 80, 7, 1401, 1402, 1403, 125, 1404], 7), (15, .ifCond .ne 7, 3, [12], 4), (18, .aload_n 0, 1, [], 0), (19, .invokevirtual 289, 3, [3, 28, 11, 804, 806, 7, 120, 807], 7), (22, .aload_n 0, 1, [], 0), (23, .getfield 49, 3, [11, 5, 612], 5), (26, .invokevirtual 292, 3, [3, 76, 7, 1405, 1406, 1407, 125, 1408], 7), (29, .iload_n 2, 1, [], 0), (30, .ifCond .ne 13, 3, [21], 4), (33, .aload_n 0, 1, [], 0), (34, .getfield 49, 3, [11, 5, 612], 5), (37, .getfield 295, 3, [7, 2, 297], 5), (40, .goto 10, 3, [24], 4), (43, .aload_n 0, 1, [], 0), (44, .getfield 49, 3, [11, 5, 612], 5), (47, .getfield 298, 3, [7, 3, 299], 5), (50, .ireturn, 1, [], 8)])
def xm_32 : xr_M := (yX11_sound, cX11_sound, 3, (some .int), [], 2, [(0, .aload_n 0, 1, [], 0), (1, .iload_n 1, 1, [], 0), (2, .invokevirtual 217, 3, [3, 25, 11, 1248, 1250, 32, 120, 1251], 7), (5, .aload_n 0, 1, [], 0), (6, .iload_n 2, 1, [], 0), (7, .iconst 0, 1, [], 2), (8, .bipush 8, 2, [], 2), (10, .invokevirtual 195, 3, [3, 22, 11, 800, 802, 6, 120, 803], 7), (13, .iload_n 2, 1, [], 0), (14, .tableswitch 65 0 2 #[26, 39, 52], 26, [31, 10, 17, 24], 9), (40, .aload_n 0, 1, [], 0), (41, .getfield 28, 3, [11, 2, 609], 5), (44, .getfield 175, 3, [10, 2, 241], 5), (47, .getfield 220, 3, [3, 9, 522], 5), (50, .iload_n 1, 1, [], 0), (51, .iaload, 1, [], 5), (52, .ireturn, 1, [], 8), (53, .aload_n 0, 1, [], 0), (54, .getfield 28, 3, [11, 2, 609], 5), (57, .getfield 175, 3, [10, 2, 241], 5), (60, .getfield 223, 3, [3, 10, 526], 5), (63, .iload_n 1, 1, [], 0), (64, .iaload, 1, [], 5), (65, .ireturn, 1, [], 8), (66, .aload_n 0, 1, [], 0), (67, .getfield 28, 3, [11, 2, 609], 5), (70, .getfield 175, 3, [10, 2, 241], 5), (73, .getfield 226, 3, [3, 11, 532], 5), (76, .iload_n 1, 1, [], 0), (77, .iaload, 1, [], 5), (78, .ireturn, 1, [], 8), (79, .aload_n 0, 1, [], 0), (80, .getfield 28, 3, [11, 2, 609], 5), (83, .getfield 150, 3, [10, 0, 233], 5), (86, .bipush 24, 2, [], 2), (88, .iload_n 2, 1, [], 0), (89, .iconst 3, 1, [], 2), (90, .isub, 1, [], 3), (91, .bipush 6, 2, [], 2), (93, .imul, 1, [], 3), (94, .iadd, 1, [], 3), (95, .iload_n 1, 1, [], 0), (96, .iadd, 1, [], 3), (97, .iaload, 1, [], 5), (98, .ireturn, 1, [], 8)])
def xm_33 : xr_M := (yX11_span, cX11_span, 10, (some .int), [], 5, [(0, .aload_n 0, 1, [], 0), (1, .iload_n 2, 1, [], 0), (2, .iconst 1, 1, [], 2), (3, .bipush 20, 2, [], 2), (5, .invokevirtual 195, 3, [3, 22, 11, 800, 802, 6, 120, 803], 7), (8, .aload_n 0, 1, [], 0), (9, .iload_n 3, 1, [], 0), (10, .iconst 0, 1, [], 2), (11, .bipush 16, 2, [], 2), (13, .invokevirtual 195, 3, [3, 22, 11, 800, 802, 6, 120, 803], 7), (16, .aload_n 0, 1, [], 0), (17, .iload 4, 2, [], 0), (19, .iconst 1, 1, [], 2), (20, .bipush 20, 2, [], 2), (22, .invokevirtual 195, 3, [3, 22, 11, 800, 802, 6, 120, 803], 7), (25, .aload_n 0, 1, [], 0), (26, .iload 5, 2, [], 0), (28, .iconst 0, 1, [], 2), (29, .iconst 2, 1, [], 2), (30, .invokevirtual 195, 3, [3, 22, 11, 800, 802, 6, 120, 803], 7), (33, .aload_n 0, 1, [], 0), (34, .getfield 79, 3, [11, 9, 616], 5), (37, .aload_n 0, 1, [], 0), (38, .getfield 28, 3, [11, 2, 609], 5), (41, .getfield 150, 3, [10, 0, 233], 5), (44, .iload 4, 2, [], 0), (46, .invokevirtual 343, 3, [3, 46, 0, 1573, 1574, 1575, 129, 1576], 7), (49, .iconst 0, 1, [], 2), (50, .istore 6, 2, [], 1), (52, .iconst 0, 1, [], 2), (53, .istore 7, 2, [], 1), (55, .iconst 0, 1, [], 2), (56, .istore 8, 2, [], 1), (58, .iconst 0, 1, [], 2), (59, .istore 9, 2, [], 1), (61, .iload 9, 2, [], 0), (63, .iload_n 2, 1, [], 0), (64, .if_icmp .ge 78, 3, [72], 4), (67, .aload_n 0, 1, [], 0), (68, .getfield 79, 3, [11, 9, 616], 5), (71, .iload_n 1, 1, [], 0), (72, .iload 9, 2, [], 0), (74, .iadd, 1, [], 3), (75, .iload_n 3, 1, [], 0), (76, .iload 4, 2, [], 0), (78, .invokevirtual 347, 3, [3, 47, 0, 1581, 1582, 1583, 129, 1584], 7), (81, .iload 9, 2, [], 0), (83, .ifCond .ne 13, 3, [52], 4), (86, .aload_n 0, 1, [], 0), (87, .getfield 79, 3, [11, 9, 616], 5), (90, .getfield 350, 3, [0, 0, 470], 5), (93, .goto 15, 3, [57], 4), (96, .iload 6, 2, [], 0), (98, .aload_n 0, 1, [], 0), (99, .getfield 79, 3, [11, 9, 616], 5), (102, .getfield 350, 3, [0, 0, 470], 5), (105, .invokestatic 357, 3, [20, 799, 735, 134, 736], 11), (108, .istore 6, 2, [], 1), (110, .iload 7, 2, [], 0), (112, .aload_n 0, 1, [], 0), (113, .getfield 79, 3, [11, 9, 616], 5), (116, .getfield 350, 3, [0, 0, 470], 5), (119, .invokestatic 362, 3, [21, 1598, 1096, 134, 1097], 11), (122, .istore 7, 2, [], 1), (124, .iload 8, 2, [], 0), (126, .aload_n 0, 1, [], 0), (127, .getfield 79, 3, [11, 9, 616], 5), (130, .getfield 350, 3, [0, 0, 470], 5), (133, .iadd, 1, [], 3), (134, .istore 8, 2, [], 1), (136, .iinc 9 1, 3, [], 1), (139, .goto (-78), 3, [35], 4), (142, .iload 5, 2, [], 0), (144, .ifCond .ne 8, 3, [76], 4), (147, .iload 6, 2, [], 0), (149, .goto 16, 3, [82], 4), (152, .iload 5, 2, [], 0), (154, .iconst 1, 1, [], 2), (155, .if_icmp .ne 8, 3, [81], 4), (158, .iload 7, 2, [], 0), (160, .goto 5, 3, [82], 4), (163, .iload 8, 2, [], 0), (165, .ireturn, 1, [], 8)])
def xm_34 : xr_M := (yX11_stable, cX11_stable, 1, (some .int), [], 0, [(0, .aload_n 0, 1, [], 0), (1, .getfield 56, 3, [11, 6, 613], 5), (4, .invokevirtual 305, 3, [3, 52, 2, 699, 700, 701, 126, 702], 7), (7, .aload_n 0, 1, [], 0), (8, .getfield 56, 3, [11, 6, 613], 5), (11, .getfield 315, 3, [2, 1, 351], 5), (14, .ireturn, 1, [], 8)])
def xm_35 : xr_M := (yX11_status, cX11_status, 2, (some .int), [], 1, [(0, .iload_n 1, 1, [], 0), (1, .ifCond .ne 10, 3, [5], 4), (4, .aload_n 0, 1, [], 0), (5, .getfield 386, 3, [11, 13, 620], 5), (8, .goto 16, 3, [12], 4), (11, .iload_n 1, 1, [], 0), (12, .iconst 1, 1, [], 2), (13, .if_icmp .ne 10, 3, [11], 4), (16, .aload_n 0, 1, [], 0), (17, .getfield 389, 3, [11, 14, 621], 5), (20, .goto 4, 3, [12], 4), (23, .iconst (-1), 1, [], 2), (24, .ireturn, 1, [], 8)])
def xm_36 : xr_M := (yX11_sums, cX11_sums, 2, (some .int), [], 1, [(0, .aload_n 0, 1, [], 0), (1, .iload_n 1, 1, [], 0), (2, .iconst 0, 1, [], 2), (3, .bipush 6, 2, [], 2), (5, .invokevirtual 195, 3, [3, 22, 11, 800, 802, 6, 120, 803], 7), (8, .iload_n 1, 1, [], 0), (9, .iconst 5, 1, [], 2), (10, .if_icmp .ne 12, 3, [13], 4), (13, .aload_n 0, 1, [], 0), (14, .getfield 28, 3, [11, 2, 609], 5), (17, .iconst 1, 1, [], 2), (18, .invokevirtual 270, 3, [3, 98, 10, 1302, 1303, 1304, 123, 1305], 7), (21, .ireturn, 1, [], 8), (22, .iload_n 1, 1, [], 0), (23, .bipush 6, 2, [], 2), (25, .if_icmp .ne 12, 3, [21], 4), (28, .aload_n 0, 1, [], 0), (29, .getfield 28, 3, [11, 2, 609], 5), (32, .iconst 2, 1, [], 2), (33, .invokevirtual 270, 3, [3, 98, 10, 1302, 1303, 1304, 123, 1305], 7), (36, .ireturn, 1, [], 8), (37, .aload_n 0, 1, [], 0), (38, .getfield 28, 3, [11, 2, 609], 5), (41, .bipush 30, 2, [], 2), (43, .iload_n 1, 1, [], 0), (44, .bipush 6, 2, [], 2), (46, .imul, 1, [], 3), (47, .iadd, 1, [], 3), (48, .invokevirtual 204, 3, [3, 103, 10, 1208, 1157, 1158, 123, 1159], 7), (51, .ireturn, 1, [], 8)])
def xm_37 : xr_M := (yX11_sure, cX11_sure, 2, (some .int), [], 1, [(0, .aload_n 0, 1, [], 0), (1, .iload_n 1, 1, [], 0), (2, .invokevirtual 211, 3, [3, 23, 11, 1217, 1219, 30, 120, 1220], 7), (5, .aload_n 0, 1, [], 0), (6, .getfield 72, 3, [11, 8, 615], 5), (9, .invokevirtual 318, 3, [3, 62, 4, 1450, 1451, 1452, 128, 1453], 7), (12, .aload_n 0, 1, [], 0), (13, .getfield 72, 3, [11, 8, 615], 5), (16, .iload_n 1, 1, [], 0), (17, .invokevirtual 325, 3, [], 7), (20, .ireturn, 1, [], 8)])
def xm_38 : xr_M := (yX11_told, cX11_told, 2, (some .int), [], 1, [(0, .aload_n 0, 1, [], 0), (1, .iload_n 1, 1, [], 0), (2, .iconst 0, 1, [], 2), (3, .bipush 8, 2, [], 2), (5, .invokevirtual 195, 3, [3, 22, 11, 800, 802, 6, 120, 803], 7), (8, .iload_n 1, 1, [], 0), (9, .tableswitch 125 0 7 #[47, 58, 69, 80, 91, 102, 112, 120], 47, [46, 7, 12, 17, 22, 28, 34, 39, 43], 9), (56, .aload_n 0, 1, [], 0), (57, .getfield 28, 3, [11, 2, 609], 5), (60, .getfield 175, 3, [10, 2, 241], 5), (63, .getfield 137, 3, [3, 0, 499], 5), (66, .ireturn, 1, [], 8), (67, .aload_n 0, 1, [], 0), (68, .getfield 28, 3, [11, 2, 609], 5), (71, .getfield 175, 3, [10, 2, 241], 5), (74, .getfield 198, 3, [3, 1, 507], 5), (77, .ireturn, 1, [], 8), (78, .aload_n 0, 1, [], 0), (79, .getfield 28, 3, [11, 2, 609], 5), (82, .getfield 175, 3, [10, 2, 241], 5), (85, .getfield 201, 3, [3, 2, 510], 5), (88, .ireturn, 1, [], 8), (89, .aload_n 0, 1, [], 0), (90, .getfield 28, 3, [11, 2, 609], 5), (93, .getfield 150, 3, [10, 0, 233], 5), (96, .bipush 70, 2, [], 2), (98, .iaload, 1, [], 5), (99, .ireturn, 1, [], 8), (100, .aload_n 0, 1, [], 0), (101, .getfield 28, 3, [11, 2, 609], 5), (104, .getfield 150, 3, [10, 0, 233], 5), (107, .bipush 71, 2, [], 2), (109, .iaload, 1, [], 5), (110, .ireturn, 1, [], 8), (111, .aload_n 0, 1, [], 0), (112, .getfield 28, 3, [11, 2, 609], 5), (115, .bipush 24, 2, [], 2), (117, .invokevirtual 204, 3, [3, 103, 10, 1208, 1157, 1158, 123, 1159], 7), (120, .ireturn, 1, [], 8), (121, .aload_n 0, 1, [], 0), (122, .getfield 63, 3, [11, 7, 614], 5), (125, .getfield 97, 3, [1, 0, 375], 5), (128, .ireturn, 1, [], 8), (129, .aload_n 0, 1, [], 0), (130, .getfield 109, 3, [11, 12, 619], 5), (133, .ireturn, 1, [], 8), (134, .aload_n 0, 1, [], 0), (135, .getfield 28, 3, [11, 2, 609], 5), (138, .getfield 175, 3, [10, 2, 241], 5), (141, .getfield 208, 3, [3, 3, 512], 5), (144, .ireturn, 1, [], 8)])
def xm_39 : xr_M := (yX11_turnsOf, cX11_turnsOf, 4, (some .int), [], 3, [(0, .aload_n 0, 1, [], 0), (1, .iload_n 1, 1, [], 0), (2, .invokevirtual 211, 3, [3, 23, 11, 1217, 1219, 30, 120, 1220], 7), (5, .aload_n 0, 1, [], 0), (6, .iload_n 2, 1, [], 0), (7, .iconst 1, 1, [], 2), (8, .iconst 5, 1, [], 2), (9, .invokevirtual 195, 3, [3, 22, 11, 800, 802, 6, 120, 803], 7), (12, .aload_n 0, 1, [], 0), (13, .iload_n 3, 1, [], 0), (14, .iconst 0, 1, [], 2), (15, .iconst 1, 1, [], 2), (16, .invokevirtual 195, 3, [3, 22, 11, 800, 802, 6, 120, 803], 7), (19, .aload_n 0, 1, [], 0), (20, .getfield 49, 3, [11, 5, 612], 5), (23, .iload_n 1, 1, [], 0), (24, .iload_n 2, 1, [], 0), (25, .invokevirtual 282, 3, [], 7), (28, .iload_n 3, 1, [], 0), (29, .ifCond .ne 13, 3, [24], 4), (32, .aload_n 0, 1, [], 0), (33, .getfield 49, 3, [11, 5, 612], 5), (36, .getfield 276, 3, [7, 0, 293], 5), (39, .goto 10, 3, [27], 4), (42, .aload_n 0, 1, [], 0), (43, .getfield 49, 3, [11, 5, 612], 5), (46, .getfield 279, 3, [7, 1, 295], 5), (49, .ireturn, 1, [], 8)])
def xm_40 : xr_M := (yX11_undo, cX11_undo, 1, (some .int), [], 0, [(0, .aload_n 0, 1, [], 0), (1, .getfield 102, 3, [11, 10, 617], 5), (4, .ifnonnull 5, 3, [5], 9), (7, .iconst (-1), 1, [], 2), (8, .ireturn, 1, [], 8), (9, .aload_n 0, 1, [], 0), (10, .getfield 28, 3, [11, 2, 609], 5), (13, .aload_n 0, 1, [], 0), (14, .getfield 102, 3, [11, 10, 617], 5), (17, .getfield 185, 3, [5, 0, 750], 5), (20, .invokevirtual 188, 3, [3, 104, 10, 669, 670, 671, 123, 672], 7), (23, .aload_n 0, 1, [], 0), (24, .aload_n 0, 1, [], 0), (25, .getfield 102, 3, [11, 10, 617], 5), (28, .getfield 192, 3, [5, 1, 752], 5), (31, .putfield 102, 3, [11, 10, 617], 6), (34, .aload_n 0, 1, [], 0), (35, .iconst 0, 1, [], 2), (36, .putfield 109, 3, [11, 12, 619], 6), (39, .aload_n 0, 1, [], 0), (40, .invokevirtual 143, 3, [3, 42, 11, 673, 675, 1, 120, 676], 7), (43, .ireturn, 1, [], 8)])
def xm_41 : xr_M := (yX11_work, cX11_work, 2, (some .int), [], 1, [(0, .aload_n 0, 1, [], 0), (1, .iload_n 1, 1, [], 0), (2, .sipush 200, 3, [], 2), (5, .invokevirtual 119, 3, [3, 24, 11, 795, 797, 5, 120, 798], 7), (8, .aload_n 0, 1, [], 0), (9, .invokevirtual 143, 3, [3, 42, 11, 673, 675, 1, 120, 676], 7), (12, .bipush 20, 2, [], 2), (14, .if_icmp .lt 14, 3, [14], 4), (17, .aload_n 0, 1, [], 0), (18, .getfield 10, 3, [11, 0, 607], 5), (21, .iconst 0, 1, [], 2), (22, .invokevirtual 123, 3, [3, 85, 8, 874, 875, 876, 121, 877], 7), (25, .bipush (-20), 2, [], 2), (27, .ireturn, 1, [], 8), (28, .aload_n 0, 1, [], 0), (29, .getfield 10, 3, [11, 0, 607], 5), (32, .iload_n 1, 1, [], 0), (33, .invokevirtual 123, 3, [3, 85, 8, 874, 875, 876, 121, 877], 7), (36, .aload_n 0, 1, [], 0), (37, .getfield 40, 3, [11, 4, 611], 5), (40, .aload_n 0, 1, [], 0), (41, .getfield 10, 3, [11, 0, 607], 5), (44, .invokevirtual 147, 3, [3, 92, 9, 1054, 1055, 1056, 124, 1057], 7), (47, .aload_n 0, 1, [], 0), (48, .getfield 10, 3, [11, 0, 607], 5), (51, .invokevirtual 130, 3, [3, 82, 8, 982, 983, 984, 121, 985], 7), (54, .ifCond .eq 14, 3, [33], 4), (57, .aload_n 0, 1, [], 0), (58, .getfield 10, 3, [11, 0, 607], 5), (61, .getfield 134, 3, [8, 2, 165], 5), (64, .bipush 10, 2, [], 2), (66, .isub, 1, [], 3), (67, .ireturn, 1, [], 8), (68, .aload_n 0, 1, [], 0), (69, .new 148, 3, [5, 738, 739, 143], 10), (72, .dup, 1, [], 9), (73, .aload_n 0, 1, [], 0), (74, .getfield 28, 3, [11, 2, 609], 5), (77, .getfield 150, 3, [10, 0, 233], 5), (80, .invokevirtual 154, 3, [1, 740, 741, 729, 730, 742, 743], 11), (83, .checkcast 155, 3, [744], 11), (86, .aload_n 0, 1, [], 0), (87, .getfield 102, 3, [11, 10, 617], 5), (90, .aconst_null, 1, [], 9), (91, .aconst_null, 1, [], 9), (92, .invokespecial 159, 3, [5, 63, 745, 746, 143, 747], 7), (95, .putfield 102, 3, [11, 10, 617], 6), (98, .aload_n 0, 1, [], 0), (99, .getfield 40, 3, [11, 4, 611], 5), (102, .iconst 0, 1, [], 2), (103, .aload_n 0, 1, [], 0), (104, .getfield 40, 3, [11, 4, 611], 5), (107, .getfield 162, 3, [9, 0, 259], 5), (110, .iconst 0, 1, [], 2), (111, .invokevirtual 165, 3, [3, 93, 9, 1086, 1087, 1088, 124, 1089], 7), (114, .aload_n 0, 1, [], 0), (115, .aload_n 0, 1, [], 0), (116, .getfield 40, 3, [11, 4, 611], 5), (119, .getfield 169, 3, [9, 2, 263], 5), (122, .putfield 109, 3, [11, 12, 619], 6), (125, .aload_n 0, 1, [], 0), (126, .getfield 40, 3, [11, 4, 611], 5), (129, .getfield 172, 3, [9, 1, 261], 5), (132, .ireturn, 1, [], 8)])
def xm_42 : xr_M := (yX11_worksKept, cX11_worksKept, 1, (some .int), [], 0, [(0, .aload_n 0, 1, [], 0), (1, .getfield 102, 3, [11, 10, 617], 5), (4, .ifnonnull 7, 3, [5], 9), (7, .iconst 0, 1, [], 2), (8, .goto 10, 3, [8], 4), (11, .aload_n 0, 1, [], 0), (12, .getfield 102, 3, [11, 10, 617], 5), (15, .getfield 392, 3, [5, 2, 754], 5), (18, .ireturn, 1, [], 8)])
def xm_43 : xr_M := (yX11_would, cX11_would, 7, (some .int), [], 6, [(0, .aload_n 0, 1, [], 0), (1, .iload_n 1, 1, [], 0), (2, .iconst 0, 1, [], 2), (3, .bipush 9, 2, [], 2), (5, .invokevirtual 195, 3, [3, 22, 11, 800, 802, 6, 120, 803], 7), (8, .aload_n 0, 1, [], 0), (9, .iload_n 2, 1, [], 0), (10, .iconst 0, 1, [], 2), (11, .bipush 9, 2, [], 2), (13, .invokevirtual 195, 3, [3, 22, 11, 800, 802, 6, 120, 803], 7), (16, .aload_n 0, 1, [], 0), (17, .iload_n 3, 1, [], 0), (18, .iconst 0, 1, [], 2), (19, .iconst 1, 1, [], 2), (20, .invokevirtual 195, 3, [3, 22, 11, 800, 802, 6, 120, 803], 7), (23, .aload_n 0, 1, [], 0), (24, .iload 4, 2, [], 0), (26, .iconst 1, 1, [], 2), (27, .bipush 9, 2, [], 2), (29, .invokevirtual 195, 3, [3, 22, 11, 800, 802, 6, 120, 803], 7), (32, .aload_n 0, 1, [], 0), (33, .iload 5, 2, [], 0), (35, .iconst 0, 1, [], 2), (36, .bipush 18, 2, [], 2), (38, .invokevirtual 195, 3, [3, 22, 11, 800, 802, 6, 120, 803], 7), (41, .aload_n 0, 1, [], 0), (42, .iload 6, 2, [], 0), (44, .iconst 0, 1, [], 2), (45, .iconst 1, 1, [], 2), (46, .invokevirtual 195, 3, [3, 22, 11, 800, 802, 6, 120, 803], 7), (49, .aload_n 0, 1, [], 0), (50, .getfield 19, 3, [11, 1, 608], 5), (53, .iconst 0, 1, [], 2), (54, .iload_n 1, 1, [], 0), (55, .iload_n 2, 1, [], 0), (56, .invokevirtual 248, 3, [3, 67, 6, 1274, 1128, 1129, 122, 1130], 7), (59, .aload_n 0, 1, [], 0), (60, .getfield 19, 3, [11, 1, 608], 5), (63, .iconst 0, 1, [], 2), (64, .iload 6, 2, [], 0), (66, .invokevirtual 251, 3, [3, 68, 6, 1275, 1136, 1137, 122, 1138], 7), (69, .aload_n 0, 1, [], 0), (70, .getfield 19, 3, [11, 1, 608], 5), (73, .iload 4, 2, [], 0), (75, .iconst 0, 1, [], 2), (76, .iload 5, 2, [], 0), (78, .iload_n 3, 1, [], 0), (79, .invokevirtual 254, 3, [3, 65, 6, 1276, 1140, 1141, 122, 1142], 7), (82, .ireturn, 1, [], 8)])
def xm_44 : xr_M := (yX11_yields, cX11_yields, 3, (some .int), [], 2, [(0, .aload_n 0, 1, [], 0), (1, .iload_n 1, 1, [], 0), (2, .invokevirtual 211, 3, [3, 23, 11, 1217, 1219, 30, 120, 1220], 7), (5, .aload_n 0, 1, [], 0), (6, .iload_n 2, 1, [], 0), (7, .invokevirtual 217, 3, [3, 25, 11, 1248, 1250, 32, 120, 1251], 7), (10, .aload_n 0, 1, [], 0), (11, .getfield 28, 3, [11, 2, 609], 5), (14, .iload_n 1, 1, [], 0), (15, .iload_n 2, 1, [], 0), (16, .aload_n 0, 1, [], 0), (17, .getfield 28, 3, [11, 2, 609], 5), (20, .iload_n 1, 1, [], 0), (21, .invokevirtual 214, 3, [], 7), (24, .invokevirtual 244, 3, [], 7), (27, .ireturn, 1, [], 8)])
def xm_45 : xr_M := (yX0_init, cX0_init, 2, none, [], 1, [(0, .aload_n 0, 1, [], 0), (1, .invokespecial 3, 3, [2, 468, 152, 153], 11), (4, .aload_n 0, 1, [], 0), (5, .bipush 120, 2, [], 2), (7, .newarray .int, 2, [224], 10), (9, .putfield 9, 3, [0, 4, 476], 6), (12, .aload_n 0, 1, [], 0), (13, .aload_n 1, 1, [], 0), (14, .putfield 15, 3, [0, 3, 475], 6), (17, .return_, 1, [], 8)])
def xm_46 : xr_M := (yX0_foresee, cX0_foresee, 4, none, [], 2, [(0, .aload_n 0, 1, [], 0), (1, .getfield 15, 3, [0, 3, 475], 5), (4, .aload_n 1, 1, [], 0), (5, .invokevirtual 19, 3, [3, 104, 10, 1577, 670, 671, 123, 672], 7), (8, .iconst 0, 1, [], 2), (9, .istore_n 3, 1, [], 1), (10, .iload_n 3, 1, [], 0), (11, .iload_n 2, 1, [], 0), (12, .if_icmp .ge 58, 3, [37], 4), (15, .aload_n 0, 1, [], 0), (16, .getfield 15, 3, [0, 3, 475], 5), (19, .invokevirtual 25, 3, [3, 99, 10, 1578, 1119, 1120, 123, 1121], 7), (22, .aload_n 0, 1, [], 0), (23, .getfield 15, 3, [0, 3, 475], 5), (26, .getfield 28, 3, [10, 1, 236], 5), (29, .iconst 0, 1, [], 2), (30, .aload_n 0, 1, [], 0), (31, .getfield 9, 3, [0, 4, 476], 5), (34, .iload_n 3, 1, [], 0), (35, .bipush 6, 2, [], 2), (37, .imul, 1, [], 3), (38, .bipush 6, 2, [], 2), (40, .invokestatic 31, 3, [0, 1579, 591, 590, 132], 11), (43, .aload_n 0, 1, [], 0), (44, .getfield 15, 3, [0, 3, 475], 5), (47, .invokevirtual 37, 3, [3, 95, 10, 1580, 1147, 1148, 123, 1149], 7), (50, .aload_n 0, 1, [], 0), (51, .getfield 15, 3, [0, 3, 475], 5), (54, .getfield 40, 3, [10, 0, 232], 5), (57, .bipush 70, 2, [], 2), (59, .dup2, 1, [], 9), (60, .iaload, 1, [], 5), (61, .iconst 1, 1, [], 2), (62, .iadd, 1, [], 3), (63, .iastore, 1, [], 6), (64, .iinc 3 1, 3, [], 1), (67, .goto (-57), 3, [6], 4), (70, .return_, 1, [], 8)])
def xm_47 : xr_M := (yX0_strike, cX0_strike, 8, none, [], 3, [(0, .aload_n 0, 1, [], 0), (1, .iconst 0, 1, [], 2), (2, .putfield 43, 3, [0, 0, 469], 6), (5, .aload_n 0, 1, [], 0), (6, .iconst 0, 1, [], 2), (7, .putfield 47, 3, [0, 1, 471], 6), (10, .aload_n 0, 1, [], 0), (11, .iconst 0, 1, [], 2), (12, .putfield 50, 3, [0, 2, 473], 6), (15, .iload_n 1, 1, [], 0), (16, .istore 4, 2, [], 1), (18, .iconst 0, 1, [], 2), (19, .istore 5, 2, [], 1), (21, .iload 5, 2, [], 0), (23, .iload_n 3, 1, [], 0), (24, .if_icmp .ge 95, 3, [62], 4), (27, .iconst 0, 1, [], 2), (28, .istore 6, 2, [], 1), (30, .iload 6, 2, [], 0), (32, .aload_n 0, 1, [], 0), (33, .getfield 15, 3, [0, 3, 475], 5), (36, .getfield 53, 3, [10, 2, 239], 5), (39, .getfield 57, 3, [3, 0, 495], 5), (42, .if_icmp .ge 71, 3, [60], 4), (45, .iload 4, 2, [], 0), (47, .ldc 62, 2, [], 9), (49, .imul, 1, [], 3), (50, .sipush 12345, 3, [], 2), (53, .iadd, 1, [], 3), (54, .istore 4, 2, [], 1), (56, .iload 4, 2, [], 0), (58, .bipush 16, 2, [], 2), (60, .iushr, 1, [], 9), (61, .sipush 32767, 3, [], 2), (64, .iand, 1, [], 3), (65, .bipush 16, 2, [], 2), (67, .irem, 1, [], 9), (68, .istore 7, 2, [], 1), (70, .aload_n 0, 1, [], 0), (71, .iload 7, 2, [], 0), (73, .iload_n 2, 1, [], 0), (74, .if_icmp .ge 7, 3, [44], 4), (77, .iconst 1, 1, [], 2), (78, .goto 4, 3, [45], 4), (81, .iconst 0, 1, [], 2), (82, .aload_n 0, 1, [], 0), (83, .getfield 15, 3, [0, 3, 475], 5), (86, .iload 6, 2, [], 0), (88, .invokevirtual 63, 3, [], 7), (91, .aload_n 0, 1, [], 0), (92, .getfield 9, 3, [0, 4, 476], 5), (95, .iload 5, 2, [], 0), (97, .bipush 6, 2, [], 2), (99, .imul, 1, [], 3), (100, .iload 6, 2, [], 0), (102, .iadd, 1, [], 3), (103, .iaload, 1, [], 5), (104, .invokevirtual 67, 3, [], 7), (107, .iinc 6 1, 3, [], 1), (110, .goto (-80), 3, [18], 4), (113, .iinc 5 1, 3, [], 1), (116, .goto (-95), 3, [13], 4), (119, .return_, 1, [], 8)])
def xm_48 : xr_M := (yX1_init, cX1_init, 1, none, [], 0, [(0, .aload_n 0, 1, [], 0), (1, .invokespecial 3, 3, [2, 374, 152, 153], 11), (4, .aload_n 0, 1, [], 0), (5, .bipush 6, 2, [], 2), (7, .newarray .int, 2, [224], 10), (9, .putfield 9, 3, [1, 1, 378], 6), (12, .aload_n 0, 1, [], 0), (13, .bipush 6, 2, [], 2), (15, .newarray .int, 2, [224], 10), (17, .putfield 15, 3, [1, 2, 380], 6), (20, .aload_n 0, 1, [], 0), (21, .bipush 6, 2, [], 2), (23, .newarray .int, 2, [224], 10), (25, .putfield 18, 3, [1, 4, 383], 6), (28, .aload_n 0, 1, [], 0), (29, .bipush 6, 2, [], 2), (31, .newarray .int, 2, [224], 10), (33, .putfield 21, 3, [1, 5, 384], 6), (36, .return_, 1, [], 8)])
def xm_49 : xr_M := (yX1_readText, cX1_readText, 4, none, [], 2, [(0, .aload_n 0, 1, [], 0), (1, .iconst 0, 1, [], 2), (2, .putfield 24, 3, [1, 3, 382], 6), (5, .iconst 0, 1, [], 2), (6, .istore_n 3, 1, [], 1), (7, .iload_n 3, 1, [], 0), (8, .bipush 6, 2, [], 2), (10, .if_icmp .gt 22, 3, [17], 4), (13, .aload_n 1, 1, [], 0), (14, .invokevirtual 28, 3, [3, 84, 8, 1187, 883, 884, 121, 885], 7), (17, .ifCond .eq 15, 3, [17], 4), (20, .aload_n 0, 1, [], 0), (21, .aload_n 1, 1, [], 0), (22, .iload_n 2, 1, [], 0), (23, .invokevirtual 34, 3, [], 7), (26, .iinc 3 1, 3, [], 1), (29, .goto (-22), 3, [5], 4), (32, .aload_n 1, 1, [], 0), (33, .invokevirtual 38, 3, [3, 82, 8, 1199, 983, 984, 121, 985], 7), (36, .ifCond .ne 45, 3, [42], 4), (39, .aload_n 0, 1, [], 0), (40, .aload_n 0, 1, [], 0), (41, .getfield 24, 3, [1, 3, 382], 5), (44, .putfield 41, 3, [1, 0, 376], 6), (47, .aload_n 0, 1, [], 0), (48, .getfield 18, 3, [1, 4, 383], 5), (51, .iconst 0, 1, [], 2), (52, .aload_n 0, 1, [], 0), (53, .getfield 9, 3, [1, 1, 378], 5), (56, .iconst 0, 1, [], 2), (57, .aload_n 0, 1, [], 0), (58, .getfield 41, 3, [1, 0, 376], 5), (61, .invokestatic 44, 3, [0, 1200, 591, 590, 132], 11), (64, .aload_n 0, 1, [], 0), (65, .getfield 21, 3, [1, 5, 384], 5), (68, .iconst 0, 1, [], 2), (69, .aload_n 0, 1, [], 0), (70, .getfield 15, 3, [1, 2, 380], 5), (73, .iconst 0, 1, [], 2), (74, .aload_n 0, 1, [], 0), (75, .getfield 41, 3, [1, 0, 376], 5), (78, .invokestatic 44, 3, [0, 1200, 591, 590, 132], 11), (81, .return_, 1, [], 8)])
def xm_50 : xr_M := (yX2_init, cX2_init, 1, none, [], 0, [(0, .aload_n 0, 1, [], 0), (1, .invokespecial 3, 3, [2, 347, 152, 153], 11), (4, .aload_n 0, 1, [], 0), (5, .bipush 64, 2, [], 2), (7, .newarray .int, 2, [224], 10), (9, .putfield 9, 3, [2, 0, 348], 6), (12, .aload_n 0, 1, [], 0), (13, .bipush 64, 2, [], 2), (15, .newarray .int, 2, [224], 10), (17, .putfield 15, 3, [2, 2, 352], 6), (20, .return_, 1, [], 8)])
def xm_51 : xr_M := (yX2_begin, cX2_begin, 2, none, [], 1, [(0, .aload_n 0, 1, [], 0), (1, .aload_n 1, 1, [], 0), (2, .putfield 18, 3, [2, 4, 354], 6), (5, .aload_n 0, 1, [], 0), (6, .iconst 0, 1, [], 2), (7, .putfield 22, 3, [2, 5, 355], 6), (10, .return_, 1, [], 8)])
def xm_52 : xr_M := (yX2_breed, cX2_breed, 4, none, [], 0, [(0, .aload_n 0, 1, [], 0), (1, .getfield 22, 3, [2, 5, 355], 5), (4, .ifCond .eq 4, 3, [4], 4), (7, .return_, 1, [], 8), (8, .aload_n 0, 1, [], 0), (9, .iconst 1, 1, [], 2), (10, .putfield 22, 3, [2, 5, 355], 6), (13, .aload_n 0, 1, [], 0), (14, .getfield 9, 3, [2, 0, 348], 5), (17, .iconst (-1), 1, [], 2), (18, .invokestatic 26, 3, [4, 205, 703, 587, 131, 588], 7), (21, .aload_n 0, 1, [], 0), (22, .iconst 0, 1, [], 2), (23, .putfield 32, 3, [2, 3, 353], 6), (26, .aload_n 0, 1, [], 0), (27, .iconst 0, 1, [], 2), (28, .putfield 36, 3, [2, 1, 350], 6), (31, .iconst 0, 1, [], 2), (32, .istore_n 1, 1, [], 1), (33, .iload_n 1, 1, [], 0), (34, .aload_n 0, 1, [], 0), (35, .getfield 18, 3, [2, 4, 354], 5), (38, .getfield 39, 3, [3, 1, 501], 5), (41, .if_icmp .ge 23, 3, [34], 4), (44, .aload_n 0, 1, [], 0), (45, .aload_n 0, 1, [], 0), (46, .getfield 18, 3, [2, 4, 354], 5), (49, .getfield 44, 3, [3, 9, 521], 5), (52, .iload_n 1, 1, [], 0), (53, .iaload, 1, [], 5), (54, .iconst 0, 1, [], 2), (55, .invokevirtual 47, 3, [], 7), (58, .iinc 1 1, 3, [], 1), (61, .goto (-28), 3, [19], 4), (64, .iconst 0, 1, [], 2), (65, .istore_n 1, 1, [], 1), (66, .iconst 1, 1, [], 2), (67, .istore_n 2, 1, [], 1), (68, .iload_n 2, 1, [], 0), (69, .bipush 64, 2, [], 2), (71, .if_icmp .gt 51, 3, [67], 4), (74, .iload_n 1, 1, [], 0), (75, .aload_n 0, 1, [], 0), (76, .getfield 32, 3, [2, 3, 353], 5), (79, .if_icmp .ge 43, 3, [67], 4), (82, .aload_n 0, 1, [], 0), (83, .getfield 32, 3, [2, 3, 353], 5), (86, .istore_n 3, 1, [], 1), (87, .aload_n 0, 1, [], 0), (88, .iload_n 1, 1, [], 0), (89, .iload_n 3, 1, [], 0), (90, .iload_n 2, 1, [], 0), (91, .invokevirtual 51, 3, [], 7), (94, .aload_n 0, 1, [], 0), (95, .aload_n 0, 1, [], 0), (96, .getfield 32, 3, [2, 3, 353], 5), (99, .iload_n 3, 1, [], 0), (100, .if_icmp .le 7, 3, [60], 4), (103, .iload_n 2, 1, [], 0), (104, .goto 7, 3, [62], 4), (107, .aload_n 0, 1, [], 0), (108, .getfield 36, 3, [2, 1, 350], 5), (111, .putfield 36, 3, [2, 1, 350], 6), (114, .iload_n 3, 1, [], 0), (115, .istore_n 1, 1, [], 1), (116, .iinc 2 1, 3, [], 1), (119, .goto (-51), 3, [38], 4), (122, .return_, 1, [], 8)])
def xm_53 : xr_M := (yX2_rowsBehind, cX2_rowsBehind, 5, (some .long), [], 1, [(0, .lconst 0, 1, [], 9), (1, .lstore_n 2, 1, [], 9), (2, .iconst 0, 1, [], 2), (3, .istore 4, 2, [], 1), (5, .iload 4, 2, [], 0), (7, .aload_n 0, 1, [], 0), (8, .getfield 32, 3, [2, 3, 353], 5), (11, .if_icmp .ge 37, 3, [28], 4), (14, .aload_n 0, 1, [], 0), (15, .getfield 9, 3, [2, 0, 348], 5), (18, .aload_n 0, 1, [], 0), (19, .getfield 15, 3, [2, 2, 352], 5), (22, .iload 4, 2, [], 0), (24, .iaload, 1, [], 5), (25, .iaload, 1, [], 5), (26, .iload_n 1, 1, [], 0), (27, .if_icmp .gt 15, 3, [26], 4), (30, .lload_n 2, 1, [], 9), (31, .lconst 1, 1, [], 9), (32, .aload_n 0, 1, [], 0), (33, .getfield 15, 3, [2, 2, 352], 5), (36, .iload 4, 2, [], 0), (38, .iaload, 1, [], 5), (39, .lshl, 1, [], 9), (40, .lor, 1, [], 9), (41, .lstore_n 2, 1, [], 9), (42, .iinc 4 1, 3, [], 1), (45, .goto (-40), 3, [4], 4), (48, .lload_n 2, 1, [], 9), (49, .lreturn, 1, [], 8)])
def xm_54 : xr_M := (yX3_init, cX3_init, 1, none, [], 0, [(0, .aload_n 0, 1, [], 0), (1, .invokespecial 3, 3, [2, 493, 152, 153], 11), (4, .aload_n 0, 1, [], 0), (5, .bipush 20, 2, [], 2), (7, .putfield 9, 3, [3, 3, 511], 6), (10, .aload_n 0, 1, [], 0), (11, .bipush 6, 2, [], 2), (13, .newarray .int, 2, [224], 10), (15, .putfield 15, 3, [3, 8, 518], 6), (18, .aload_n 0, 1, [], 0), (19, .bipush 6, 2, [], 2), (21, .newarray .int, 2, [224], 10), (23, .putfield 19, 3, [3, 9, 520], 6), (26, .aload_n 0, 1, [], 0), (27, .bipush 6, 2, [], 2), (29, .newarray .int, 2, [224], 10), (31, .putfield 22, 3, [3, 10, 523], 6), (34, .aload_n 0, 1, [], 0), (35, .bipush 6, 2, [], 2), (37, .newarray .int, 2, [224], 10), (39, .putfield 25, 3, [3, 11, 528], 6), (42, .aload_n 0, 1, [], 0), (43, .bipush 10, 2, [], 2), (45, .newarray .int, 2, [224], 10), (47, .putfield 28, 3, [3, 12, 533], 6), (50, .aload_n 0, 1, [], 0), (51, .bipush 10, 2, [], 2), (53, .newarray .int, 2, [224], 10), (55, .putfield 31, 3, [3, 13, 536], 6), (58, .aload_n 0, 1, [], 0), (59, .bipush 10, 2, [], 2), (61, .newarray .int, 2, [224], 10), (63, .putfield 34, 3, [3, 14, 539], 6), (66, .aload_n 0, 1, [], 0), (67, .bipush 10, 2, [], 2), (69, .newarray .int, 2, [224], 10), (71, .putfield 37, 3, [3, 15, 542], 6), (74, .return_, 1, [], 8)])
def xm_55 : xr_M := (yX3_cross, cX3_cross, 3, (some .int), [], 2, [(0, .aload_n 0, 1, [], 0), (1, .getfield 112, 3, [3, 5, 515], 5), (4, .tableswitch 54 0 3 #[32, 36, 40, 44], 32, [23, 3, 7, 11, 15], 9), (36, .iload_n 1, 1, [], 0), (37, .iload_n 2, 1, [], 0), (38, .ixor, 1, [], 9), (39, .ireturn, 1, [], 8), (40, .iload_n 1, 1, [], 0), (41, .iload_n 2, 1, [], 0), (42, .iand, 1, [], 3), (43, .ireturn, 1, [], 8), (44, .iload_n 1, 1, [], 0), (45, .iload_n 2, 1, [], 0), (46, .ior, 1, [], 9), (47, .ireturn, 1, [], 8), (48, .iload_n 1, 1, [], 0), (49, .bipush 7, 2, [], 2), (51, .iand, 1, [], 3), (52, .iload_n 2, 1, [], 0), (53, .bipush 56, 2, [], 2), (55, .iand, 1, [], 3), (56, .ior, 1, [], 9), (57, .ireturn, 1, [], 8), (58, .iload_n 1, 1, [], 0), (59, .iconst 1, 1, [], 2), (60, .ishl, 1, [], 9), (61, .bipush 63, 2, [], 2), (63, .iand, 1, [], 3), (64, .iload_n 1, 1, [], 0), (65, .iconst 5, 1, [], 2), (66, .ishr, 1, [], 9), (67, .ior, 1, [], 9), (68, .iload_n 2, 1, [], 0), (69, .ixor, 1, [], 9), (70, .ireturn, 1, [], 8)])
def xm_56 : xr_M := (yX3_readClauses, cX3_readClauses, 4, none, [], 1, [(0, .iconst 0, 1, [], 2), (1, .istore_n 2, 1, [], 1), (2, .iload_n 2, 1, [], 0), (3, .bipush 60, 2, [], 2), (5, .if_icmp .gt 80, 3, [44], 4), (8, .aload_n 1, 1, [], 0), (9, .invokevirtual 40, 3, [3, 84, 8, 882, 883, 884, 121, 885], 7), (12, .ifCond .eq 73, 3, [44], 4), (15, .aload_n 1, 1, [], 0), (16, .invokevirtual 46, 3, [3, 87, 8, 890, 891, 892, 121, 893], 7), (19, .aload_n 1, 1, [], 0), (20, .invokestatic 49, 3, [], 7), (23, .istore_n 3, 1, [], 1), (24, .iload_n 3, 1, [], 0), (25, .iconst (-1), 1, [], 2), (26, .if_icmp .ne 15, 3, [22], 4), (29, .aload_n 1, 1, [], 0), (30, .iconst 1, 1, [], 2), (31, .aload_n 1, 1, [], 0), (32, .getfield 53, 3, [8, 5, 171], 5), (35, .invokevirtual 56, 3, [], 7), (38, .goto 41, 3, [42], 4), (41, .iload_n 2, 1, [], 0), (42, .bipush 60, 2, [], 2), (44, .if_icmp .eq 11, 3, [29], 4), (47, .aload_n 0, 1, [], 0), (48, .iload_n 3, 1, [], 0), (49, .invokevirtual 60, 3, [], 7), (52, .ifCond .eq 15, 3, [35], 4), (55, .aload_n 1, 1, [], 0), (56, .iconst 3, 1, [], 2), (57, .aload_n 1, 1, [], 0), (58, .getfield 53, 3, [8, 5, 171], 5), (61, .invokevirtual 56, 3, [], 7), (64, .goto 15, 3, [42], 4), (67, .aload_n 0, 1, [], 0), (68, .aload_n 1, 1, [], 0), (69, .iload_n 3, 1, [], 0), (70, .invokevirtual 64, 3, [], 7), (73, .aload_n 1, 1, [], 0), (74, .bipush 59, 2, [], 2), (76, .invokevirtual 68, 3, [], 7), (79, .iinc 2 1, 3, [], 1), (82, .goto (-80), 3, [2], 4), (85, .return_, 1, [], 8)])
def xm_57 : xr_M := (yX4_init, cX4_init, 2, none, [], 1, [(0, .aload_n 0, 1, [], 0), (1, .invokespecial 3, 3, [2, 403, 152, 153], 11), (4, .aload_n 0, 1, [], 0), (5, .bipush 7, 2, [], 2), (7, .newarray .int, 2, [224], 10), (9, .putfield 11, 3, [4, 9, 417], 6), (12, .aload_n 0, 1, [], 0), (13, .bipush 7, 2, [], 2), (15, .newarray .int, 2, [224], 10), (17, .putfield 15, 3, [4, 10, 418], 6), (20, .aload_n 0, 1, [], 0), (21, .bipush 6, 2, [], 2), (23, .newarray .int, 2, [224], 10), (25, .putfield 18, 3, [4, 11, 419], 6), (28, .aload_n 0, 1, [], 0), (29, .sipush 4116, 3, [], 2), (32, .newarray .int, 2, [224], 10), (34, .putfield 21, 3, [4, 13, 421], 6), (37, .aload_n 0, 1, [], 0), (38, .sipush 686, 3, [], 2), (41, .newarray .int, 2, [224], 10), (43, .putfield 24, 3, [4, 14, 422], 6), (46, .aload_n 0, 1, [], 0), (47, .sipush 1600, 3, [], 2), (50, .newarray .int, 2, [224], 10), (52, .putfield 27, 3, [4, 15, 423], 6), (55, .aload_n 0, 1, [], 0), (56, .sipush 686, 3, [], 2), (59, .newarray .int, 2, [224], 10), (61, .putfield 30, 3, [4, 16, 424], 6), (64, .aload_n 0, 1, [], 0), (65, .sipush 1600, 3, [], 2), (68, .newarray .int, 2, [224], 10), (70, .putfield 33, 3, [4, 17, 425], 6), (73, .aload_n 0, 1, [], 0), (74, .aload_n 1, 1, [], 0), (75, .putfield 36, 3, [4, 4, 412], 6), (78, .return_, 1, [], 8)])
def xm_58 : xr_M := (yX4_begin, cX4_begin, 2, none, [], 1, [(0, .aload_n 0, 1, [], 0), (1, .aload_n 1, 1, [], 0), (2, .putfield 40, 3, [4, 5, 413], 6), (5, .aload_n 0, 1, [], 0), (6, .iconst 0, 1, [], 2), (7, .putfield 44, 3, [4, 6, 414], 6), (10, .aload_n 0, 1, [], 0), (11, .iconst 0, 1, [], 2), (12, .putfield 48, 3, [4, 7, 415], 6), (15, .return_, 1, [], 8)])
def xm_59 : xr_M := (yX4_findKinds, cX4_findKinds, 3, none, [], 0, [(0, .aload_n 0, 1, [], 0), (1, .iconst 1, 1, [], 2), (2, .putfield 94, 3, [4, 8, 416], 6), (5, .aload_n 0, 1, [], 0), (6, .getfield 11, 3, [4, 9, 417], 5), (9, .iconst 0, 1, [], 2), (10, .iconst (-1), 1, [], 2), (11, .iastore, 1, [], 6), (12, .aload_n 0, 1, [], 0), (13, .getfield 15, 3, [4, 10, 418], 5), (16, .iconst 0, 1, [], 2), (17, .iconst 1, 1, [], 2), (18, .iastore, 1, [], 6), (19, .iconst 0, 1, [], 2), (20, .istore_n 1, 1, [], 1), (21, .iload_n 1, 1, [], 0), (22, .aload_n 0, 1, [], 0), (23, .getfield 40, 3, [4, 5, 413], 5), (26, .getfield 97, 3, [3, 1, 506], 5), (29, .if_icmp .ge 92, 3, [71], 4), (32, .iconst 1, 1, [], 2), (33, .istore_n 2, 1, [], 1), (34, .iload_n 2, 1, [], 0), (35, .aload_n 0, 1, [], 0), (36, .getfield 94, 3, [4, 8, 416], 5), (39, .if_icmp .ge 34, 3, [41], 4), (42, .aload_n 0, 1, [], 0), (43, .getfield 40, 3, [4, 5, 413], 5), (46, .aload_n 0, 1, [], 0), (47, .getfield 11, 3, [4, 9, 417], 5), (50, .iload_n 2, 1, [], 0), (51, .iaload, 1, [], 5), (52, .invokevirtual 100, 3, [], 7), (55, .aload_n 0, 1, [], 0), (56, .getfield 40, 3, [4, 5, 413], 5), (59, .getfield 104, 3, [3, 10, 524], 5), (62, .iload_n 1, 1, [], 0), (63, .iaload, 1, [], 5), (64, .if_icmp .eq 9, 3, [41], 4), (67, .iinc 2 1, 3, [], 1), (70, .goto (-36), 3, [22], 4), (73, .iload_n 2, 1, [], 0), (74, .aload_n 0, 1, [], 0), (75, .getfield 94, 3, [4, 8, 416], 5), (78, .if_icmp .ne 27, 3, [61], 4), (81, .aload_n 0, 1, [], 0), (82, .getfield 11, 3, [4, 9, 417], 5), (85, .iload_n 2, 1, [], 0), (86, .iload_n 1, 1, [], 0), (87, .iastore, 1, [], 6), (88, .aload_n 0, 1, [], 0), (89, .getfield 15, 3, [4, 10, 418], 5), (92, .iload_n 2, 1, [], 0), (93, .iconst 0, 1, [], 2), (94, .iastore, 1, [], 6), (95, .aload_n 0, 1, [], 0), (96, .dup, 1, [], 9), (97, .getfield 94, 3, [4, 8, 416], 5), (100, .iconst 1, 1, [], 2), (101, .iadd, 1, [], 3), (102, .putfield 94, 3, [4, 8, 416], 6), (105, .aload_n 0, 1, [], 0), (106, .getfield 15, 3, [4, 10, 418], 5), (109, .iload_n 2, 1, [], 0), (110, .dup2, 1, [], 9), (111, .iaload, 1, [], 5), (112, .iconst 1, 1, [], 2), (113, .iadd, 1, [], 3), (114, .iastore, 1, [], 6), (115, .iinc 1 1, 3, [], 1), (118, .goto (-97), 3, [15], 4), (121, .return_, 1, [], 8)])
def xm_60 : xr_M := (yX4_findNext, cX4_findNext, 3, none, [], 0, [(0, .aload_n 0, 1, [], 0), (1, .getfield 48, 3, [4, 7, 415], 5), (4, .ifCond .eq 4, 3, [4], 4), (7, .return_, 1, [], 8), (8, .aload_n 0, 1, [], 0), (9, .iconst 1, 1, [], 2), (10, .putfield 48, 3, [4, 7, 415], 6), (13, .aload_n 0, 1, [], 0), (14, .invokevirtual 141, 3, [3, 62, 4, 1525, 1451, 1452, 128, 1453], 7), (17, .aload_n 0, 1, [], 0), (18, .iconst (-1), 1, [], 2), (19, .putfield 144, 3, [4, 2, 408], 6), (22, .aload_n 0, 1, [], 0), (23, .iconst (-1), 1, [], 2), (24, .putfield 147, 3, [4, 3, 410], 6), (27, .iconst 0, 1, [], 2), (28, .istore_n 1, 1, [], 1), (29, .iload_n 1, 1, [], 0), (30, .aload_n 0, 1, [], 0), (31, .getfield 40, 3, [4, 5, 413], 5), (34, .getfield 75, 3, [3, 0, 496], 5), (37, .if_icmp .ge 41, 3, [42], 4), (40, .aload_n 0, 1, [], 0), (41, .iload_n 1, 1, [], 0), (42, .invokevirtual 150, 3, [], 7), (45, .istore_n 2, 1, [], 1), (46, .aload_n 0, 1, [], 0), (47, .getfield 144, 3, [4, 2, 408], 5), (50, .iconst (-1), 1, [], 2), (51, .if_icmp .eq 11, 3, [34], 4), (54, .iload_n 2, 1, [], 0), (55, .aload_n 0, 1, [], 0), (56, .getfield 147, 3, [4, 3, 410], 5), (59, .if_icmp .ge 13, 3, [40], 4), (62, .aload_n 0, 1, [], 0), (63, .iload_n 1, 1, [], 0), (64, .putfield 144, 3, [4, 2, 408], 6), (67, .aload_n 0, 1, [], 0), (68, .iload_n 2, 1, [], 0), (69, .putfield 147, 3, [4, 3, 410], 6), (72, .iinc 1 1, 3, [], 1), (75, .goto (-46), 3, [17], 4), (78, .return_, 1, [], 8)])
def xm_61 : xr_M := (yX4_hearAll, cX4_hearAll, 2, none, [], 0, [(0, .aload_n 0, 1, [], 0), (1, .iconst 1, 1, [], 2), (2, .putfield 63, 3, [4, 0, 404], 6), (5, .aload_n 0, 1, [], 0), (6, .iconst 0, 1, [], 2), (7, .putfield 66, 3, [4, 1, 406], 6), (10, .iconst 0, 1, [], 2), (11, .istore_n 1, 1, [], 1), (12, .iload_n 1, 1, [], 0), (13, .aload_n 0, 1, [], 0), (14, .getfield 40, 3, [4, 5, 413], 5), (17, .getfield 75, 3, [3, 0, 496], 5), (20, .if_icmp .ge 41, 3, [35], 4), (23, .aload_n 0, 1, [], 0), (24, .dup, 1, [], 9), (25, .getfield 63, 3, [4, 0, 404], 5), (28, .aload_n 0, 1, [], 0), (29, .getfield 40, 3, [4, 5, 413], 5), (32, .getfield 97, 3, [3, 1, 506], 5), (35, .iconst 1, 1, [], 2), (36, .iadd, 1, [], 3), (37, .imul, 1, [], 3), (38, .putfield 63, 3, [4, 0, 404], 6), (41, .aload_n 0, 1, [], 0), (42, .getfield 18, 3, [4, 11, 419], 5), (45, .iload_n 1, 1, [], 0), (46, .iconst 1, 1, [], 2), (47, .aload_n 0, 1, [], 0), (48, .getfield 94, 3, [4, 8, 416], 5), (51, .ishl, 1, [], 9), (52, .iconst 1, 1, [], 2), (53, .isub, 1, [], 3), (54, .iastore, 1, [], 6), (55, .iinc 1 1, 3, [], 1), (58, .goto (-46), 3, [8], 4), (61, .return_, 1, [], 8)])
def xm_62 : xr_M := (yX4_listen, cX4_listen, 1, none, [], 0, [(0, .aload_n 0, 1, [], 0), (1, .getfield 44, 3, [4, 6, 414], 5), (4, .ifCond .eq 4, 3, [4], 4), (7, .return_, 1, [], 8), (8, .aload_n 0, 1, [], 0), (9, .iconst 1, 1, [], 2), (10, .putfield 44, 3, [4, 6, 414], 6), (13, .aload_n 0, 1, [], 0), (14, .invokevirtual 51, 3, [3, 59, 4, 1454, 1456, 46, 128, 1457], 7), (17, .aload_n 0, 1, [], 0), (18, .getfield 36, 3, [4, 4, 412], 5), (21, .getfield 54, 3, [1, 0, 377], 5), (24, .ifCond .ne 8, 3, [16], 4), (27, .aload_n 0, 1, [], 0), (28, .invokevirtual 60, 3, [3, 61, 4, 1459, 1461, 47, 128, 1462], 7), (31, .return_, 1, [], 8), (32, .aload_n 0, 1, [], 0), (33, .iconst 0, 1, [], 2), (34, .putfield 63, 3, [4, 0, 404], 6), (37, .aload_n 0, 1, [], 0), (38, .iconst (-1), 1, [], 2), (39, .putfield 66, 3, [4, 1, 406], 6), (42, .aload_n 0, 1, [], 0), (43, .getfield 18, 3, [4, 11, 419], 5), (46, .iconst 0, 1, [], 2), (47, .invokestatic 69, 3, [4, 205, 1463, 587, 131, 588], 7), (50, .aload_n 0, 1, [], 0), (51, .aload_n 0, 1, [], 0), (52, .getfield 40, 3, [4, 5, 413], 5), (55, .getfield 75, 3, [3, 0, 496], 5), (58, .iconst 2, 1, [], 2), (59, .idiv, 1, [], 9), (60, .putfield 80, 3, [4, 12, 420], 6), (63, .aload_n 0, 1, [], 0), (64, .iconst 0, 1, [], 2), (65, .iconst 0, 1, [], 2), (66, .aload_n 0, 1, [], 0), (67, .getfield 80, 3, [4, 12, 420], 5), (70, .invokevirtual 83, 3, [], 7), (73, .aload_n 0, 1, [], 0), (74, .sipush 343, 3, [], 2), (77, .aload_n 0, 1, [], 0), (78, .getfield 80, 3, [4, 12, 420], 5), (81, .aload_n 0, 1, [], 0), (82, .getfield 40, 3, [4, 5, 413], 5), (85, .getfield 75, 3, [3, 0, 496], 5), (88, .invokevirtual 83, 3, [], 7), (91, .aload_n 0, 1, [], 0), (92, .invokevirtual 87, 3, [], 7), (95, .aload_n 0, 1, [], 0), (96, .iconst (-1), 1, [], 2), (97, .invokevirtual 90, 3, [], 7), (100, .return_, 1, [], 8)])
def xm_63 : xr_M := (yX5_init, cX5_init, 5, none, [], 4, [(0, .aload_n 0, 1, [], 0), (1, .invokespecial 1, 3, [2, 748, 152, 153], 11), (4, .aload_n 0, 1, [], 0), (5, .aload_n 1, 1, [], 0), (6, .putfield 7, 3, [5, 0, 749], 6), (9, .aload_n 0, 1, [], 0), (10, .aload_n 2, 1, [], 0), (11, .putfield 13, 3, [5, 1, 751], 6), (14, .aload_n 0, 1, [], 0), (15, .aload_n 2, 1, [], 0), (16, .ifnonnull 7, 3, [13], 9), (19, .iconst 1, 1, [], 2), (20, .goto 9, 3, [17], 4), (23, .aload_n 2, 1, [], 0), (24, .getfield 17, 3, [5, 2, 753], 5), (27, .iconst 1, 1, [], 2), (28, .iadd, 1, [], 3), (29, .putfield 17, 3, [5, 2, 753], 6), (32, .aload_n 0, 1, [], 0), (33, .aload_n 3, 1, [], 0), (34, .putfield 21, 3, [5, 3, 755], 6), (37, .aload_n 0, 1, [], 0), (38, .aload 4, 2, [], 0), (40, .putfield 24, 3, [5, 4, 757], 6), (43, .return_, 1, [], 8)])
def xm_64 : xr_M := (yX6_init, cX6_init, 1, none, [], 0, [(0, .aload_n 0, 1, [], 0), (1, .invokespecial 3, 3, [2, 204, 152, 153], 11), (4, .aload_n 0, 1, [], 0), (5, .sipush 150, 3, [], 2), (8, .newarray .int, 2, [224], 10), (10, .putfield 9, 3, [6, 0, 205], 6), (13, .aload_n 0, 1, [], 0), (14, .sipush 150, 3, [], 2), (17, .newarray .int, 2, [224], 10), (19, .putfield 15, 3, [6, 1, 206], 6), (22, .aload_n 0, 1, [], 0), (23, .sipush 150, 3, [], 2), (26, .newarray .int, 2, [224], 10), (28, .putfield 18, 3, [6, 2, 207], 6), (31, .aload_n 0, 1, [], 0), (32, .bipush 9, 2, [], 2), (34, .newarray .int, 2, [224], 10), (36, .putfield 21, 3, [6, 3, 208], 6), (39, .return_, 1, [], 8)])
def xm_65 : xr_M := (yX6_balesFor, cX6_balesFor, 8, (some .int), [], 4, [(0, .aload_n 0, 1, [], 0), (1, .getfield 21, 3, [6, 3, 208], 5), (4, .iconst 3, 1, [], 2), (5, .iload_n 1, 1, [], 0), (6, .iastore, 1, [], 6), (7, .aload_n 0, 1, [], 0), (8, .getfield 21, 3, [6, 3, 208], 5), (11, .iconst 4, 1, [], 2), (12, .iload_n 2, 1, [], 0), (13, .iastore, 1, [], 6), (14, .aload_n 0, 1, [], 0), (15, .getfield 21, 3, [6, 3, 208], 5), (18, .iconst 5, 1, [], 2), (19, .iload_n 3, 1, [], 0), (20, .iastore, 1, [], 6), (21, .aload_n 0, 1, [], 0), (22, .getfield 21, 3, [6, 3, 208], 5), (25, .iconst 2, 1, [], 2), (26, .iload 4, 2, [], 0), (28, .iastore, 1, [], 6), (29, .iconst 0, 1, [], 2), (30, .istore 5, 2, [], 1), (32, .iconst 0, 1, [], 2), (33, .istore 6, 2, [], 1), (35, .iload 6, 2, [], 0), (37, .aload_n 0, 1, [], 0), (38, .getfield 27, 3, [6, 4, 209], 5), (41, .if_icmp .ge 112, 3, [82], 4), (44, .aload_n 0, 1, [], 0), (45, .getfield 9, 3, [6, 0, 205], 5), (48, .iload 6, 2, [], 0), (50, .iaload, 1, [], 5), (51, .istore 7, 2, [], 1), (53, .iload 7, 2, [], 0), (55, .sipush 1000, 3, [], 2), (58, .if_icmp .ge 18, 3, [43], 4), (61, .aload_n 0, 1, [], 0), (62, .getfield 18, 3, [6, 2, 207], 5), (65, .iload 5, 2, [], 0), (67, .iload 7, 2, [], 0), (69, .iastore, 1, [], 6), (70, .iinc 5 1, 3, [], 1), (73, .goto 74, 3, [80], 4), (76, .iload 7, 2, [], 0), (78, .sipush 2000, 3, [], 2), (81, .if_icmp .ge 27, 3, [58], 4), (84, .aload_n 0, 1, [], 0), (85, .getfield 18, 3, [6, 2, 207], 5), (88, .iload 5, 2, [], 0), (90, .aload_n 0, 1, [], 0), (91, .getfield 21, 3, [6, 3, 208], 5), (94, .iload 7, 2, [], 0), (96, .sipush 1000, 3, [], 2), (99, .isub, 1, [], 3), (100, .iaload, 1, [], 5), (101, .iastore, 1, [], 6), (102, .iinc 5 1, 3, [], 1), (105, .goto 42, 3, [80], 4), (108, .iload 5, 2, [], 0), (110, .iconst 2, 1, [], 2), (111, .if_icmp .lt 36, 3, [80], 4), (114, .iinc 5 (-1), 3, [], 1), (117, .aload_n 0, 1, [], 0), (118, .getfield 18, 3, [6, 2, 207], 5), (121, .iload 5, 2, [], 0), (123, .iconst 1, 1, [], 2), (124, .isub, 1, [], 3), (125, .iload 7, 2, [], 0), (127, .aload_n 0, 1, [], 0), (128, .getfield 18, 3, [6, 2, 207], 5), (131, .iload 5, 2, [], 0), (133, .iconst 1, 1, [], 2), (134, .isub, 1, [], 3), (135, .iaload, 1, [], 5), (136, .aload_n 0, 1, [], 0), (137, .getfield 18, 3, [6, 2, 207], 5), (140, .iload 5, 2, [], 0), (142, .iaload, 1, [], 5), (143, .invokestatic 127, 3, [4, 69, 1143, 1144, 122, 1145], 7), (146, .iastore, 1, [], 6), (147, .iinc 6 1, 3, [], 1), (150, .goto (-115), 3, [24], 4), (153, .aload_n 0, 1, [], 0), (154, .getfield 18, 3, [6, 2, 207], 5), (157, .iconst 0, 1, [], 2), (158, .iaload, 1, [], 5), (159, .ifCond .ge 7, 3, [89], 4), (162, .iconst 0, 1, [], 2), (163, .goto 25, 3, [101], 4), (166, .aload_n 0, 1, [], 0), (167, .getfield 18, 3, [6, 2, 207], 5), (170, .iconst 0, 1, [], 2), (171, .iaload, 1, [], 5), (172, .bipush 99, 2, [], 2), (174, .if_icmp .le 8, 3, [97], 4), (177, .bipush 99, 2, [], 2), (179, .goto 9, 3, [101], 4), (182, .aload_n 0, 1, [], 0), (183, .getfield 18, 3, [6, 2, 207], 5), (186, .iconst 0, 1, [], 2), (187, .iaload, 1, [], 5), (188, .ireturn, 1, [], 8)])
def xm_66 : xr_M := (yX6_beUsual, cX6_beUsual, 1, none, [], 0, [(0, .aload_n 0, 1, [], 0), (1, .getstatic 24, 3, [596], 11), (4, .arraylength, 1, [], 11), (5, .putfield 27, 3, [6, 4, 209], 6), (8, .getstatic 24, 3, [596], 11), (11, .iconst 0, 1, [], 2), (12, .aload_n 0, 1, [], 0), (13, .getfield 9, 3, [6, 0, 205], 5), (16, .iconst 0, 1, [], 2), (17, .aload_n 0, 1, [], 0), (18, .getfield 27, 3, [6, 4, 209], 5), (21, .invokestatic 31, 3, [0, 598, 591, 590, 132], 11), (24, .return_, 1, [], 8)])
def xm_67 : xr_M := (yX6_inField, cX6_inField, 4, none, [], 3, [(0, .aload_n 0, 1, [], 0), (1, .getfield 21, 3, [6, 3, 208], 5), (4, .bipush 8, 2, [], 2), (6, .iload_n 1, 1, [], 0), (7, .iastore, 1, [], 6), (8, .aload_n 0, 1, [], 0), (9, .getfield 21, 3, [6, 3, 208], 5), (12, .iconst 0, 1, [], 2), (13, .iload_n 2, 1, [], 0), (14, .iastore, 1, [], 6), (15, .aload_n 0, 1, [], 0), (16, .getfield 21, 3, [6, 3, 208], 5), (19, .iconst 1, 1, [], 2), (20, .iload_n 3, 1, [], 0), (21, .iastore, 1, [], 6), (22, .return_, 1, [], 8)])
def xm_68 : xr_M := (yX6_inYear, cX6_inYear, 3, none, [], 2, [(0, .aload_n 0, 1, [], 0), (1, .getfield 21, 3, [6, 3, 208], 5), (4, .bipush 6, 2, [], 2), (6, .iload_n 1, 1, [], 0), (7, .iastore, 1, [], 6), (8, .aload_n 0, 1, [], 0), (9, .getfield 21, 3, [6, 3, 208], 5), (12, .bipush 7, 2, [], 2), (14, .iload_n 2, 1, [], 0), (15, .iastore, 1, [], 6), (16, .return_, 1, [], 8)])
def xm_69 : xr_M := (yX6_joined, cX6_joined, 3, (some .int), [], 3, [(0, .iload_n 0, 1, [], 0), (1, .tableswitch 70 2000 2004 #[35, 39, 43, 47, 59], 35, [29, 2, 6, 10, 14, 22], 9), (36, .iload_n 1, 1, [], 0), (37, .iload_n 2, 1, [], 0), (38, .iadd, 1, [], 3), (39, .ireturn, 1, [], 8), (40, .iload_n 1, 1, [], 0), (41, .iload_n 2, 1, [], 0), (42, .isub, 1, [], 3), (43, .ireturn, 1, [], 8), (44, .iload_n 1, 1, [], 0), (45, .iload_n 2, 1, [], 0), (46, .imul, 1, [], 3), (47, .ireturn, 1, [], 8), (48, .iload_n 2, 1, [], 0), (49, .ifCond .ne 7, 3, [18], 4), (52, .iconst 0, 1, [], 2), (53, .goto 6, 3, [21], 4), (56, .iload_n 1, 1, [], 0), (57, .iload_n 2, 1, [], 0), (58, .idiv, 1, [], 9), (59, .ireturn, 1, [], 8), (60, .iload_n 1, 1, [], 0), (61, .iload_n 2, 1, [], 0), (62, .if_icmp .ge 7, 3, [27], 4), (65, .iload_n 1, 1, [], 0), (66, .goto 4, 3, [28], 4), (69, .iload_n 2, 1, [], 0), (70, .ireturn, 1, [], 8), (71, .iload_n 1, 1, [], 0), (72, .iload_n 2, 1, [], 0), (73, .if_icmp .le 7, 3, [34], 4), (76, .iload_n 1, 1, [], 0), (77, .goto 4, 3, [35], 4), (80, .iload_n 2, 1, [], 0), (81, .ireturn, 1, [], 8)])
def xm_70 : xr_M := (yX6_readNamed, cX6_readNamed, 5, none, [], 2, [(0, .aload_n 1, 1, [], 0), (1, .ldc 94, 2, [], 9), (3, .invokevirtual 96, 3, [], 7), (6, .istore_n 3, 1, [], 1), (7, .aload_n 1, 1, [], 0), (8, .invokestatic 100, 3, [], 7), (11, .istore 4, 2, [], 1), (13, .iload 4, 2, [], 0), (15, .iconst (-1), 1, [], 2), (16, .if_icmp .eq 12, 3, [14], 4), (19, .aload_n 0, 1, [], 0), (20, .iload 4, 2, [], 0), (22, .invokevirtual 71, 3, [], 7), (25, .goto 97, 3, [63], 4), (28, .iload_n 3, 1, [], 0), (29, .ifCond .ne 24, 3, [26], 4), (32, .aload_n 1, 1, [], 0), (33, .ldc 104, 2, [], 9), (35, .invokevirtual 96, 3, [], 7), (38, .ifCond .ne 15, 3, [26], 4), (41, .aload_n 1, 1, [], 0), (42, .iconst 1, 1, [], 2), (43, .aload_n 1, 1, [], 0), (44, .getfield 106, 3, [8, 5, 173], 5), (47, .invokevirtual 53, 3, [], 7), (50, .goto 72, 3, [63], 4), (53, .iload_n 2, 1, [], 0), (54, .bipush 6, 2, [], 2), (56, .if_icmp .lt 15, 3, [35], 4), (59, .aload_n 1, 1, [], 0), (60, .iconst 3, 1, [], 2), (61, .aload_n 1, 1, [], 0), (62, .getfield 106, 3, [8, 5, 173], 5), (65, .invokevirtual 53, 3, [], 7), (68, .goto 54, 3, [63], 4), (71, .aload_n 1, 1, [], 0), (72, .bipush 91, 2, [], 2), (74, .invokevirtual 67, 3, [], 7), (77, .aload_n 0, 1, [], 0), (78, .aload_n 1, 1, [], 0), (79, .iload_n 2, 1, [], 0), (80, .iconst 1, 1, [], 2), (81, .iadd, 1, [], 3), (82, .invokevirtual 40, 3, [3, 72, 6, 997, 999, 12, 122, 1000], 7), (85, .aload_n 1, 1, [], 0), (86, .bipush 44, 2, [], 2), (88, .invokevirtual 67, 3, [], 7), (91, .aload_n 0, 1, [], 0), (92, .aload_n 1, 1, [], 0), (93, .iload_n 2, 1, [], 0), (94, .iconst 1, 1, [], 2), (95, .iadd, 1, [], 3), (96, .invokevirtual 40, 3, [3, 72, 6, 997, 999, 12, 122, 1000], 7), (99, .aload_n 1, 1, [], 0), (100, .bipush 93, 2, [], 2), (102, .invokevirtual 67, 3, [], 7), (105, .aload_n 0, 1, [], 0), (106, .iload_n 3, 1, [], 0), (107, .ifCond .eq 9, 3, [61], 4), (110, .sipush 2004, 3, [], 2), (113, .goto 6, 3, [62], 4), (116, .sipush 2005, 3, [], 2), (119, .invokevirtual 71, 3, [], 7), (122, .return_, 1, [], 8)])
def xm_71 : xr_M := (yX6_readProduct, cX6_readProduct, 5, none, [], 2, [(0, .aload_n 0, 1, [], 0), (1, .aload_n 1, 1, [], 0), (2, .iload_n 2, 1, [], 0), (3, .invokevirtual 74, 3, [3, 74, 6, 1005, 1007, 14, 122, 1008], 7), (6, .iconst 0, 1, [], 2), (7, .istore_n 3, 1, [], 1), (8, .iload_n 3, 1, [], 0), (9, .sipush 150, 3, [], 2), (12, .if_icmp .ge 69, 3, [39], 4), (15, .aload_n 1, 1, [], 0), (16, .invokevirtual 44, 3, [3, 84, 8, 1046, 883, 884, 121, 885], 7), (19, .ifCond .eq 62, 3, [39], 4), (22, .aload_n 1, 1, [], 0), (23, .invokevirtual 63, 3, [3, 88, 8, 1010, 1011, 1012, 121, 1013], 7), (26, .istore 4, 2, [], 1), (28, .iload 4, 2, [], 0), (30, .bipush 42, 2, [], 2), (32, .if_icmp .eq 11, 3, [22], 4), (35, .iload 4, 2, [], 0), (37, .bipush 47, 2, [], 2), (39, .if_icmp .eq 4, 3, [22], 4), (42, .return_, 1, [], 8), (43, .aload_n 1, 1, [], 0), (44, .iload 4, 2, [], 0), (46, .invokevirtual 67, 3, [], 7), (49, .aload_n 0, 1, [], 0), (50, .aload_n 1, 1, [], 0), (51, .iload_n 2, 1, [], 0), (52, .invokevirtual 74, 3, [3, 74, 6, 1005, 1007, 14, 122, 1008], 7), (55, .aload_n 0, 1, [], 0), (56, .iload 4, 2, [], 0), (58, .bipush 42, 2, [], 2), (60, .if_icmp .ne 9, 3, [35], 4), (63, .sipush 2002, 3, [], 2), (66, .goto 6, 3, [36], 4), (69, .sipush 2003, 3, [], 2), (72, .invokevirtual 71, 3, [], 7), (75, .iinc 3 1, 3, [], 1), (78, .goto (-70), 3, [6], 4), (81, .return_, 1, [], 8)])
def xm_72 : xr_M := (yX6_readSum, cX6_readSum, 5, none, [], 2, [(0, .aload_n 0, 1, [], 0), (1, .aload_n 1, 1, [], 0), (2, .iload_n 2, 1, [], 0), (3, .invokevirtual 60, 3, [3, 71, 6, 1001, 1003, 13, 122, 1004], 7), (6, .iconst 0, 1, [], 2), (7, .istore_n 3, 1, [], 1), (8, .iload_n 3, 1, [], 0), (9, .sipush 150, 3, [], 2), (12, .if_icmp .ge 69, 3, [39], 4), (15, .aload_n 1, 1, [], 0), (16, .invokevirtual 44, 3, [3, 84, 8, 1046, 883, 884, 121, 885], 7), (19, .ifCond .eq 62, 3, [39], 4), (22, .aload_n 1, 1, [], 0), (23, .invokevirtual 63, 3, [3, 88, 8, 1010, 1011, 1012, 121, 1013], 7), (26, .istore 4, 2, [], 1), (28, .iload 4, 2, [], 0), (30, .bipush 43, 2, [], 2), (32, .if_icmp .eq 11, 3, [22], 4), (35, .iload 4, 2, [], 0), (37, .bipush 45, 2, [], 2), (39, .if_icmp .eq 4, 3, [22], 4), (42, .return_, 1, [], 8), (43, .aload_n 1, 1, [], 0), (44, .iload 4, 2, [], 0), (46, .invokevirtual 67, 3, [], 7), (49, .aload_n 0, 1, [], 0), (50, .aload_n 1, 1, [], 0), (51, .iload_n 2, 1, [], 0), (52, .invokevirtual 60, 3, [3, 71, 6, 1001, 1003, 13, 122, 1004], 7), (55, .aload_n 0, 1, [], 0), (56, .iload 4, 2, [], 0), (58, .bipush 43, 2, [], 2), (60, .if_icmp .ne 9, 3, [35], 4), (63, .sipush 2000, 3, [], 2), (66, .goto 6, 3, [36], 4), (69, .sipush 2001, 3, [], 2), (72, .invokevirtual 71, 3, [], 7), (75, .iinc 3 1, 3, [], 1), (78, .goto (-70), 3, [6], 4), (81, .return_, 1, [], 8)])
def xm_73 : xr_M := (yX6_readText, cX6_readText, 2, none, [], 1, [(0, .aload_n 0, 1, [], 0), (1, .iconst 0, 1, [], 2), (2, .putfield 37, 3, [6, 5, 210], 6), (5, .aload_n 0, 1, [], 0), (6, .aload_n 1, 1, [], 0), (7, .iconst 0, 1, [], 2), (8, .invokevirtual 40, 3, [3, 72, 6, 997, 999, 12, 122, 1000], 7), (11, .aload_n 1, 1, [], 0), (12, .invokevirtual 44, 3, [3, 84, 8, 1046, 883, 884, 121, 885], 7), (15, .ifCond .eq 12, 3, [15], 4), (18, .aload_n 1, 1, [], 0), (19, .iconst 1, 1, [], 2), (20, .aload_n 1, 1, [], 0), (21, .getfield 50, 3, [8, 4, 169], 5), (24, .invokevirtual 53, 3, [], 7), (27, .aload_n 1, 1, [], 0), (28, .invokevirtual 57, 3, [3, 82, 8, 1009, 983, 984, 121, 985], 7), (31, .ifCond .ne 28, 3, [31], 4), (34, .aload_n 0, 1, [], 0), (35, .aload_n 0, 1, [], 0), (36, .getfield 37, 3, [6, 5, 210], 5), (39, .putfield 27, 3, [6, 4, 209], 6), (42, .aload_n 0, 1, [], 0), (43, .getfield 15, 3, [6, 1, 206], 5), (46, .iconst 0, 1, [], 2), (47, .aload_n 0, 1, [], 0), (48, .getfield 9, 3, [6, 0, 205], 5), (51, .iconst 0, 1, [], 2), (52, .aload_n 0, 1, [], 0), (53, .getfield 27, 3, [6, 4, 209], 5), (56, .invokestatic 31, 3, [0, 598, 591, 590, 132], 11), (59, .return_, 1, [], 8)])
def xm_74 : xr_M := (yX6_readUnit, cX6_readUnit, 4, none, [], 2, [(0, .aload_n 1, 1, [], 0), (1, .invokevirtual 57, 3, [3, 82, 8, 1009, 983, 984, 121, 985], 7), (4, .ifCond .eq 4, 3, [4], 4), (7, .return_, 1, [], 8), (8, .aload_n 1, 1, [], 0), (9, .invokevirtual 63, 3, [3, 88, 8, 1010, 1011, 1012, 121, 1013], 7), (12, .istore_n 3, 1, [], 1), (13, .iload_n 3, 1, [], 0), (14, .invokestatic 77, 3, [4, 83, 1014, 973, 121, 974], 7), (17, .ifCond .eq 18, 3, [17], 4), (20, .aload_n 0, 1, [], 0), (21, .aload_n 1, 1, [], 0), (22, .iconst 0, 1, [], 2), (23, .sipush 999, 3, [], 2), (26, .invokevirtual 81, 3, [], 7), (29, .invokevirtual 71, 3, [], 7), (32, .goto 28, 3, [31], 4), (35, .iload_n 3, 1, [], 0), (36, .bipush 40, 2, [], 2), (38, .if_icmp .ne 12, 3, [25], 4), (41, .aload_n 0, 1, [], 0), (42, .aload_n 1, 1, [], 0), (43, .iload_n 2, 1, [], 0), (44, .invokevirtual 85, 3, [], 7), (47, .goto 13, 3, [31], 4), (50, .aload_n 1, 1, [], 0), (51, .invokevirtual 88, 3, [3, 87, 8, 1026, 891, 892, 121, 893], 7), (54, .aload_n 0, 1, [], 0), (55, .aload_n 1, 1, [], 0), (56, .iload_n 2, 1, [], 0), (57, .invokevirtual 91, 3, [3, 70, 6, 1027, 1029, 17, 122, 1030], 7), (60, .return_, 1, [], 8)])
def xm_75 : xr_M := (yX7_init, cX7_init, 3, none, [], 2, [(0, .aload_n 0, 1, [], 0), (1, .invokespecial 3, 3, [2, 291, 152, 153], 11), (4, .aload_n 0, 1, [], 0), (5, .sipush 798, 3, [], 2), (8, .newarray .int, 2, [224], 10), (10, .putfield 11, 3, [7, 6, 302], 6), (13, .aload_n 0, 1, [], 0), (14, .sipush 294, 3, [], 2), (17, .newarray .int, 2, [224], 10), (19, .putfield 15, 3, [7, 7, 303], 6), (22, .aload_n 0, 1, [], 0), (23, .sipush 3500, 3, [], 2), (26, .newarray .int, 2, [224], 10), (28, .putfield 18, 3, [7, 8, 304], 6), (31, .aload_n 0, 1, [], 0), (32, .bipush 7, 2, [], 2), (34, .newarray .int, 2, [224], 10), (36, .putfield 21, 3, [7, 9, 305], 6), (39, .aload_n 0, 1, [], 0), (40, .bipush 6, 2, [], 2), (42, .newarray .int, 2, [224], 10), (44, .putfield 24, 3, [7, 10, 306], 6), (47, .aload_n 0, 1, [], 0), (48, .bipush 6, 2, [], 2), (50, .newarray .int, 2, [224], 10), (52, .putfield 27, 3, [7, 11, 307], 6), (55, .aload_n 0, 1, [], 0), (56, .aload_n 1, 1, [], 0), (57, .putfield 30, 3, [7, 4, 300], 6), (60, .aload_n 0, 1, [], 0), (61, .aload_n 2, 1, [], 0), (62, .putfield 34, 3, [7, 5, 301], 6), (65, .return_, 1, [], 8)])
def xm_76 : xr_M := (yX7_findSets, cX7_findSets, 1, none, [], 0, [(0, .aload_n 0, 1, [], 0), (1, .iconst 0, 1, [], 2), (2, .putfield 167, 3, [7, 2, 296], 6), (5, .aload_n 0, 1, [], 0), (6, .iconst (-1), 1, [], 2), (7, .putfield 170, 3, [7, 3, 298], 6), (10, .aload_n 0, 1, [], 0), (11, .iconst 0, 1, [], 2), (12, .iconst 0, 1, [], 2), (13, .invokevirtual 173, 3, [3, 79, 7, 1409, 1411, 44, 125, 1412], 7), (16, .return_, 1, [], 8)])
def xm_77 : xr_M := (yX7_isDrownedBy, cX7_isDrownedBy, 4, (some .boolean), [], 2, [(0, .iload_n 1, 1, [], 0), (1, .ifCond .lt 12, 3, [7], 4), (4, .aload_n 0, 1, [], 0), (5, .getfield 24, 3, [7, 10, 306], 5), (8, .iload_n 1, 1, [], 0), (9, .iaload, 1, [], 5), (10, .ifCond .ne 5, 3, [9], 4), (13, .iconst 0, 1, [], 2), (14, .ireturn, 1, [], 8), (15, .iload_n 1, 1, [], 0), (16, .ifCond .ne 7, 3, [13], 4), (19, .iconst 0, 1, [], 2), (20, .goto 11, 3, [19], 4), (23, .aload_n 0, 1, [], 0), (24, .getfield 24, 3, [7, 10, 306], 5), (27, .iload_n 1, 1, [], 0), (28, .iconst 1, 1, [], 2), (29, .isub, 1, [], 3), (30, .iaload, 1, [], 5), (31, .istore_n 3, 1, [], 1), (32, .aload_n 0, 1, [], 0), (33, .iload_n 3, 1, [], 0), (34, .invokevirtual 79, 3, [], 7), (37, .aload_n 0, 1, [], 0), (38, .iload_n 2, 1, [], 0), (39, .invokevirtual 79, 3, [], 7), (42, .iadd, 1, [], 3), (43, .iconst 2, 1, [], 2), (44, .aload_n 0, 1, [], 0), (45, .aload_n 0, 1, [], 0), (46, .getfield 24, 3, [7, 10, 306], 5), (49, .iload_n 1, 1, [], 0), (50, .iaload, 1, [], 5), (51, .invokevirtual 79, 3, [], 7), (54, .imul, 1, [], 3), (55, .if_icmp .le 7, 3, [38], 4), (58, .iconst 1, 1, [], 2), (59, .goto 4, 3, [39], 4), (62, .iconst 0, 1, [], 2), (63, .ireturn, 1, [], 8)])
def xm_78 : xr_M := (yX7_planSowing, cX7_planSowing, 4, none, [], 0, [(0, .aload_n 0, 1, [], 0), (1, .iconst 0, 1, [], 2), (2, .putfield 50, 3, [7, 0, 292], 6), (5, .aload_n 0, 1, [], 0), (6, .iconst 0, 1, [], 2), (7, .putfield 54, 3, [7, 1, 294], 6), (10, .aload_n 0, 1, [], 0), (11, .getfield 30, 3, [7, 4, 300], 5), (14, .getfield 38, 3, [10, 2, 238], 5), (17, .getfield 57, 3, [3, 0, 494], 5), (20, .istore_n 1, 1, [], 1), (21, .iload_n 1, 1, [], 0), (22, .ifCond .ne 4, 3, [14], 4), (25, .return_, 1, [], 8), (26, .aload_n 0, 1, [], 0), (27, .invokevirtual 60, 3, [], 7), (30, .iload_n 1, 1, [], 0), (31, .iconst 1, 1, [], 2), (32, .isub, 1, [], 3), (33, .istore_n 2, 1, [], 1), (34, .iload_n 2, 1, [], 0), (35, .ifCond .le 37, 3, [38], 4), (38, .iconst 0, 1, [], 2), (39, .istore_n 3, 1, [], 1), (40, .iload_n 3, 1, [], 0), (41, .aload_n 0, 1, [], 0), (42, .getfield 30, 3, [7, 4, 300], 5), (45, .getfield 38, 3, [10, 2, 238], 5), (48, .getfield 63, 3, [3, 1, 502], 5), (51, .if_icmp .gt 15, 3, [36], 4), (54, .aload_n 0, 1, [], 0), (55, .iload_n 2, 1, [], 0), (56, .iload_n 3, 1, [], 0), (57, .invokevirtual 66, 3, [], 7), (60, .iinc 3 1, 3, [], 1), (63, .goto (-23), 3, [24], 4), (66, .iinc 2 (-1), 3, [], 1), (69, .goto (-35), 3, [20], 4), (72, .aload_n 0, 1, [], 0), (73, .iconst 0, 1, [], 2), (74, .iconst 0, 1, [], 2), (75, .invokevirtual 66, 3, [], 7), (78, .aload_n 0, 1, [], 0), (79, .invokevirtual 70, 3, [], 7), (82, .return_, 1, [], 8)])
def xm_79 : xr_M := (yX7_setFrom, cX7_setFrom, 4, none, [], 2, [(0, .iload_n 1, 1, [], 0), (1, .aload_n 0, 1, [], 0), (2, .getfield 30, 3, [7, 4, 300], 5), (5, .getfield 38, 3, [10, 2, 238], 5), (8, .getfield 57, 3, [3, 0, 494], 5), (11, .if_icmp .lt 44, 3, [29], 4), (14, .aload_n 0, 1, [], 0), (15, .iload_n 1, 1, [], 0), (16, .iconst 1, 1, [], 2), (17, .isub, 1, [], 3), (18, .iconst 0, 1, [], 2), (19, .invokevirtual 176, 3, [3, 77, 7, 1413, 1415, 45, 125, 1416], 7), (22, .ifCond .ne 32, 3, [28], 4), (25, .aload_n 0, 1, [], 0), (26, .aload_n 0, 1, [], 0), (27, .getfield 167, 3, [7, 2, 296], 5), (30, .ifCond .ne 7, 3, [19], 4), (33, .iload_n 2, 1, [], 0), (34, .goto 7, 3, [21], 4), (37, .aload_n 0, 1, [], 0), (38, .getfield 170, 3, [7, 3, 298], 5), (41, .putfield 170, 3, [7, 3, 298], 6), (44, .aload_n 0, 1, [], 0), (45, .dup, 1, [], 9), (46, .getfield 167, 3, [7, 2, 296], 5), (49, .iconst 1, 1, [], 2), (50, .iadd, 1, [], 3), (51, .putfield 167, 3, [7, 2, 296], 6), (54, .return_, 1, [], 8), (55, .iconst 0, 1, [], 2), (56, .istore_n 3, 1, [], 1), (57, .iload_n 3, 1, [], 0), (58, .aload_n 0, 1, [], 0), (59, .getfield 30, 3, [7, 4, 300], 5), (62, .getfield 38, 3, [10, 2, 238], 5), (65, .getfield 63, 3, [3, 1, 502], 5), (68, .if_icmp .gt 69, 3, [82], 4), (71, .aload_n 0, 1, [], 0), (72, .getfield 21, 3, [7, 9, 305], 5), (75, .iload_n 3, 1, [], 0), (76, .iaload, 1, [], 5), (77, .ifCond .le 54, 3, [80], 4), (80, .aload_n 0, 1, [], 0), (81, .getfield 21, 3, [7, 9, 305], 5), (84, .iload_n 3, 1, [], 0), (85, .dup2, 1, [], 9), (86, .iaload, 1, [], 5), (87, .iconst 1, 1, [], 2), (88, .isub, 1, [], 3), (89, .iastore, 1, [], 6), (90, .aload_n 0, 1, [], 0), (91, .getfield 24, 3, [7, 10, 306], 5), (94, .iload_n 1, 1, [], 0), (95, .iload_n 3, 1, [], 0), (96, .iastore, 1, [], 6), (97, .aload_n 0, 1, [], 0), (98, .iload_n 1, 1, [], 0), (99, .iconst 1, 1, [], 2), (100, .isub, 1, [], 3), (101, .iload_n 3, 1, [], 0), (102, .invokevirtual 176, 3, [3, 77, 7, 1413, 1415, 45, 125, 1416], 7), (105, .ifCond .ne 16, 3, [72], 4), (108, .aload_n 0, 1, [], 0), (109, .iload_n 1, 1, [], 0), (110, .iconst 1, 1, [], 2), (111, .iadd, 1, [], 3), (112, .iload_n 2, 1, [], 0), (113, .bipush 10, 2, [], 2), (115, .imul, 1, [], 3), (116, .iload_n 3, 1, [], 0), (117, .iadd, 1, [], 3), (118, .invokevirtual 173, 3, [3, 79, 7, 1409, 1411, 44, 125, 1412], 7), (121, .aload_n 0, 1, [], 0), (122, .getfield 21, 3, [7, 9, 305], 5), (125, .iload_n 3, 1, [], 0), (126, .dup2, 1, [], 9), (127, .iaload, 1, [], 5), (128, .iconst 1, 1, [], 2), (129, .iadd, 1, [], 3), (130, .iastore, 1, [], 6), (131, .iinc 3 1, 3, [], 1), (134, .goto (-77), 3, [31], 4), (137, .return_, 1, [], 8)])
def xm_80 : xr_M := (yX7_takeSounds, cX7_takeSounds, 5, (some .boolean), [], 1, [(0, .aload_n 0, 1, [], 0), (1, .getfield 21, 3, [7, 9, 305], 5), (4, .iconst 0, 1, [], 2), (5, .invokestatic 73, 3, [4, 205, 1321, 587, 131, 588], 7), (8, .iload_n 1, 1, [], 0), (9, .ifCond .ge 5, 3, [8], 4), (12, .iconst 0, 1, [], 2), (13, .ireturn, 1, [], 8), (14, .iconst 0, 1, [], 2), (15, .istore_n 2, 1, [], 1), (16, .iload_n 1, 1, [], 0), (17, .istore_n 3, 1, [], 1), (18, .iload_n 3, 1, [], 0), (19, .ifCond .le 53, 3, [42], 4), (22, .iload_n 3, 1, [], 0), (23, .bipush 10, 2, [], 2), (25, .irem, 1, [], 9), (26, .istore 4, 2, [], 1), (28, .iload 4, 2, [], 0), (30, .ifCond .eq 18, 3, [26], 4), (33, .iload 4, 2, [], 0), (35, .aload_n 0, 1, [], 0), (36, .getfield 30, 3, [7, 4, 300], 5), (39, .getfield 38, 3, [10, 2, 238], 5), (42, .getfield 63, 3, [3, 1, 502], 5), (45, .if_icmp .le 5, 3, [28], 4), (48, .iconst 0, 1, [], 2), (49, .ireturn, 1, [], 8), (50, .aload_n 0, 1, [], 0), (51, .getfield 21, 3, [7, 9, 305], 5), (54, .iload 4, 2, [], 0), (56, .dup2, 1, [], 9), (57, .iaload, 1, [], 5), (58, .iconst 1, 1, [], 2), (59, .iadd, 1, [], 3), (60, .iastore, 1, [], 6), (61, .iinc 2 1, 3, [], 1), (64, .iload_n 3, 1, [], 0), (65, .bipush 10, 2, [], 2), (67, .idiv, 1, [], 9), (68, .istore_n 3, 1, [], 1), (69, .goto (-51), 3, [12], 4), (72, .aload_n 0, 1, [], 0), (73, .getfield 21, 3, [7, 9, 305], 5), (76, .iconst 0, 1, [], 2), (77, .aload_n 0, 1, [], 0), (78, .getfield 30, 3, [7, 4, 300], 5), (81, .getfield 38, 3, [10, 2, 238], 5), (84, .getfield 57, 3, [3, 0, 494], 5), (87, .iload_n 2, 1, [], 0), (88, .isub, 1, [], 3), (89, .iastore, 1, [], 6), (90, .aload_n 0, 1, [], 0), (91, .getfield 21, 3, [7, 9, 305], 5), (94, .iconst 0, 1, [], 2), (95, .iaload, 1, [], 5), (96, .ifCond .lt 7, 3, [59], 4), (99, .iconst 1, 1, [], 2), (100, .goto 4, 3, [60], 4), (103, .iconst 0, 1, [], 2), (104, .ireturn, 1, [], 8)])
def xm_81 : xr_M := (yX8_init, cX8_init, 1, none, [], 0, [(0, .aload_n 0, 1, [], 0), (1, .invokespecial 3, 3, [2, 159, 152, 153], 11), (4, .aload_n 0, 1, [], 0), (5, .sipush 600, 3, [], 2), (8, .newarray .byte, 2, [198], 10), (10, .putfield 9, 3, [8, 0, 160], 6), (13, .aload_n 0, 1, [], 0), (14, .iconst (-1), 1, [], 2), (15, .putfield 15, 3, [8, 3, 166], 6), (18, .return_, 1, [], 8)])
def xm_82 : xr_M := (yX8_failed, cX8_failed, 1, (some .boolean), [], 0, [(0, .aload_n 0, 1, [], 0), (1, .getfield 34, 3, [8, 2, 164], 5), (4, .ifCond .eq 7, 3, [5], 4), (7, .iconst 1, 1, [], 2), (8, .goto 4, 3, [6], 4), (11, .iconst 0, 1, [], 2), (12, .ireturn, 1, [], 8)])
def xm_83 : xr_M := (yX8_isDigit, cX8_isDigit, 1, (some .boolean), [], 1, [(0, .iload_n 0, 1, [], 0), (1, .bipush 48, 2, [], 2), (3, .if_icmp .lt 13, 3, [8], 4), (6, .iload_n 0, 1, [], 0), (7, .bipush 57, 2, [], 2), (9, .if_icmp .gt 7, 3, [8], 4), (12, .iconst 1, 1, [], 2), (13, .goto 4, 3, [9], 4), (16, .iconst 0, 1, [], 2), (17, .ireturn, 1, [], 8)])
def xm_84 : xr_M := (yX8_more, cX8_more, 1, (some .boolean), [], 0, [(0, .aload_n 0, 1, [], 0), (1, .invokevirtual 37, 3, [3, 89, 8, 886, 888, 9, 121, 889], 7), (4, .aload_n 0, 1, [], 0), (5, .getfield 34, 3, [8, 2, 164], 5), (8, .ifCond .ne 18, 3, [12], 4), (11, .aload_n 0, 1, [], 0), (12, .getfield 28, 3, [8, 4, 170], 5), (15, .aload_n 0, 1, [], 0), (16, .getfield 31, 3, [8, 8, 178], 5), (19, .if_icmp .ge 7, 3, [12], 4), (22, .iconst 1, 1, [], 2), (23, .goto 4, 3, [13], 4), (26, .iconst 0, 1, [], 2), (27, .ireturn, 1, [], 8)])
def xm_85 : xr_M := (yX8_open, cX8_open, 2, none, [], 1, [(0, .aload_n 0, 1, [], 0), (1, .iconst 0, 1, [], 2), (2, .putfield 19, 3, [8, 1, 162], 6), (5, .aload_n 0, 1, [], 0), (6, .iconst 0, 1, [], 2), (7, .putfield 28, 3, [8, 4, 170], 6), (10, .aload_n 0, 1, [], 0), (11, .iload_n 1, 1, [], 0), (12, .putfield 31, 3, [8, 8, 178], 6), (15, .aload_n 0, 1, [], 0), (16, .iconst 0, 1, [], 2), (17, .putfield 34, 3, [8, 2, 164], 6), (20, .aload_n 0, 1, [], 0), (21, .iconst (-1), 1, [], 2), (22, .putfield 15, 3, [8, 3, 166], 6), (25, .return_, 1, [], 8)])
def xm_86 : xr_M := (yX8_put, cX8_put, 3, none, [], 1, [(0, .bipush 24, 2, [], 2), (2, .istore_n 2, 1, [], 1), (3, .iload_n 2, 1, [], 0), (4, .ifCond .lt 42, 3, [25], 4), (7, .aload_n 0, 1, [], 0), (8, .getfield 19, 3, [8, 1, 162], 5), (11, .sipush 600, 3, [], 2), (14, .if_icmp .ge 26, 3, [23], 4), (17, .aload_n 0, 1, [], 0), (18, .getfield 9, 3, [8, 0, 160], 5), (21, .aload_n 0, 1, [], 0), (22, .getfield 19, 3, [8, 1, 162], 5), (25, .iload_n 1, 1, [], 0), (26, .iload_n 2, 1, [], 0), (27, .iushr, 1, [], 9), (28, .i2b, 1, [], 9), (29, .bastore, 1, [], 6), (30, .aload_n 0, 1, [], 0), (31, .dup, 1, [], 9), (32, .getfield 19, 3, [8, 1, 162], 5), (35, .iconst 1, 1, [], 2), (36, .iadd, 1, [], 3), (37, .putfield 19, 3, [8, 1, 162], 6), (40, .iinc 2 (-8), 3, [], 1), (43, .goto (-40), 3, [2], 4), (46, .return_, 1, [], 8)])
def xm_87 : xr_M := (yX8_readWord, cX8_readWord, 1, none, [], 0, [(0, .aload_n 0, 1, [], 0), (1, .invokevirtual 37, 3, [3, 89, 8, 886, 888, 9, 121, 889], 7), (4, .aload_n 0, 1, [], 0), (5, .aload_n 0, 1, [], 0), (6, .getfield 28, 3, [8, 4, 170], 5), (9, .putfield 58, 3, [8, 5, 174], 6), (12, .aload_n 0, 1, [], 0), (13, .getfield 28, 3, [8, 4, 170], 5), (16, .aload_n 0, 1, [], 0), (17, .getfield 31, 3, [8, 8, 178], 5), (20, .if_icmp .ge 44, 3, [32], 4), (23, .aload_n 0, 1, [], 0), (24, .getfield 9, 3, [8, 0, 160], 5), (27, .aload_n 0, 1, [], 0), (28, .getfield 28, 3, [8, 4, 170], 5), (31, .baload, 1, [], 5), (32, .bipush 97, 2, [], 2), (34, .if_icmp .lt 30, 3, [32], 4), (37, .aload_n 0, 1, [], 0), (38, .getfield 9, 3, [8, 0, 160], 5), (41, .aload_n 0, 1, [], 0), (42, .getfield 28, 3, [8, 4, 170], 5), (45, .baload, 1, [], 5), (46, .bipush 122, 2, [], 2), (48, .if_icmp .gt 16, 3, [32], 4), (51, .aload_n 0, 1, [], 0), (52, .dup, 1, [], 9), (53, .getfield 28, 3, [8, 4, 170], 5), (56, .iconst 1, 1, [], 2), (57, .iadd, 1, [], 3), (58, .putfield 28, 3, [8, 4, 170], 6), (61, .goto (-49), 3, [6], 4), (64, .aload_n 0, 1, [], 0), (65, .aload_n 0, 1, [], 0), (66, .getfield 28, 3, [8, 4, 170], 5), (69, .aload_n 0, 1, [], 0), (70, .getfield 58, 3, [8, 5, 174], 5), (73, .isub, 1, [], 3), (74, .putfield 61, 3, [8, 7, 177], 6), (77, .return_, 1, [], 8)])
def xm_88 : xr_M := (yX8_sign, cX8_sign, 1, (some .int), [], 0, [(0, .aload_n 0, 1, [], 0), (1, .invokevirtual 37, 3, [3, 89, 8, 886, 888, 9, 121, 889], 7), (4, .aload_n 0, 1, [], 0), (5, .getfield 28, 3, [8, 4, 170], 5), (8, .aload_n 0, 1, [], 0), (9, .getfield 31, 3, [8, 8, 178], 5), (12, .if_icmp .ge 19, 3, [15], 4), (15, .aload_n 0, 1, [], 0), (16, .getfield 9, 3, [8, 0, 160], 5), (19, .aload_n 0, 1, [], 0), (20, .getfield 28, 3, [8, 4, 170], 5), (23, .baload, 1, [], 5), (24, .sipush 255, 3, [], 2), (27, .iand, 1, [], 3), (28, .goto 4, 3, [16], 4), (31, .iconst (-1), 1, [], 2), (32, .ireturn, 1, [], 8)])
def xm_89 : xr_M := (yX8_skipBlanks, cX8_skipBlanks, 1, none, [], 0, [(0, .aload_n 0, 1, [], 0), (1, .getfield 28, 3, [8, 4, 170], 5), (4, .aload_n 0, 1, [], 0), (5, .getfield 31, 3, [8, 8, 178], 5), (8, .if_icmp .ge 30, 3, [19], 4), (11, .aload_n 0, 1, [], 0), (12, .getfield 9, 3, [8, 0, 160], 5), (15, .aload_n 0, 1, [], 0), (16, .getfield 28, 3, [8, 4, 170], 5), (19, .baload, 1, [], 5), (20, .bipush 32, 2, [], 2), (22, .if_icmp .ne 16, 3, [19], 4), (25, .aload_n 0, 1, [], 0), (26, .dup, 1, [], 9), (27, .getfield 28, 3, [8, 4, 170], 5), (30, .iconst 1, 1, [], 2), (31, .iadd, 1, [], 3), (32, .putfield 28, 3, [8, 4, 170], 6), (35, .goto (-35), 3, [0], 4), (38, .return_, 1, [], 8)])
def xm_90 : xr_M := (yX9_init, cX9_init, 2, none, [], 1, [(0, .aload_n 0, 1, [], 0), (1, .invokespecial 3, 3, [2, 257, 152, 153], 11), (4, .aload_n 0, 1, [], 0), (5, .bipush 50, 2, [], 2), (7, .newarray .int, 2, [224], 10), (9, .putfield 11, 3, [9, 4, 265], 6), (12, .aload_n 0, 1, [], 0), (13, .bipush 50, 2, [], 2), (15, .newarray .int, 2, [224], 10), (17, .putfield 15, 3, [9, 5, 266], 6), (20, .aload_n 0, 1, [], 0), (21, .bipush 50, 2, [], 2), (23, .newarray .int, 2, [224], 10), (25, .putfield 18, 3, [9, 6, 267], 6), (28, .aload_n 0, 1, [], 0), (29, .aload_n 1, 1, [], 0), (30, .putfield 21, 3, [9, 3, 264], 6), (33, .return_, 1, [], 8)])
def xm_91 : xr_M := (yX9_readSteps, cX9_readSteps, 4, none, [], 2, [(0, .iconst 0, 1, [], 2), (1, .istore_n 3, 1, [], 1), (2, .iload_n 3, 1, [], 0), (3, .sipush 200, 3, [], 2), (6, .if_icmp .ge 41, 3, [23], 4), (9, .aload_n 1, 1, [], 0), (10, .invokevirtual 42, 3, [3, 84, 8, 1062, 883, 884, 121, 885], 7), (13, .ifCond .eq 34, 3, [23], 4), (16, .aload_n 1, 1, [], 0), (17, .invokevirtual 55, 3, [3, 88, 8, 1063, 1011, 1012, 121, 1013], 7), (20, .bipush 93, 2, [], 2), (22, .if_icmp .eq 25, 3, [23], 4), (25, .aload_n 1, 1, [], 0), (26, .invokevirtual 59, 3, [3, 87, 8, 1064, 891, 892, 121, 893], 7), (29, .aload_n 0, 1, [], 0), (30, .aload_n 1, 1, [], 0), (31, .iload_n 2, 1, [], 0), (32, .invokevirtual 62, 3, [], 7), (35, .aload_n 1, 1, [], 0), (36, .bipush 59, 2, [], 2), (38, .invokevirtual 65, 3, [], 7), (41, .iinc 3 1, 3, [], 1), (44, .goto (-42), 3, [2], 4), (47, .return_, 1, [], 8)])
def xm_92 : xr_M := (yX9_readText, cX9_readText, 2, none, [], 1, [(0, .aload_n 0, 1, [], 0), (1, .iconst 0, 1, [], 2), (2, .putfield 25, 3, [9, 0, 258], 6), (5, .aload_n 0, 1, [], 0), (6, .iconst 0, 1, [], 2), (7, .putfield 29, 3, [9, 7, 268], 6), (10, .aload_n 0, 1, [], 0), (11, .iconst 0, 1, [], 2), (12, .putfield 32, 3, [9, 1, 260], 6), (15, .aload_n 0, 1, [], 0), (16, .iconst 0, 1, [], 2), (17, .putfield 35, 3, [9, 2, 262], 6), (20, .aload_n 0, 1, [], 0), (21, .aload_n 1, 1, [], 0), (22, .iconst 0, 1, [], 2), (23, .invokevirtual 38, 3, [3, 91, 9, 1058, 1060, 18, 124, 1061], 7), (26, .aload_n 1, 1, [], 0), (27, .invokevirtual 42, 3, [3, 84, 8, 1062, 883, 884, 121, 885], 7), (30, .ifCond .eq 12, 3, [24], 4), (33, .aload_n 1, 1, [], 0), (34, .iconst 1, 1, [], 2), (35, .aload_n 1, 1, [], 0), (36, .getfield 48, 3, [8, 4, 168], 5), (39, .invokevirtual 51, 3, [], 7), (42, .return_, 1, [], 8)])
def xm_93 : xr_M := (yX9_runSteps, cX9_runSteps, 5, none, [], 3, [(0, .iload_n 1, 1, [], 0), (1, .istore 4, 2, [], 1), (3, .iload 4, 2, [], 0), (5, .iload_n 2, 1, [], 0), (6, .if_icmp .ge 74, 3, [42], 4), (9, .aload_n 0, 1, [], 0), (10, .getfield 29, 3, [9, 7, 268], 5), (13, .sipush 200, 3, [], 2), (16, .if_icmp .ge 64, 3, [42], 4), (19, .aload_n 0, 1, [], 0), (20, .dup, 1, [], 9), (21, .getfield 29, 3, [9, 7, 268], 5), (24, .iconst 1, 1, [], 2), (25, .iadd, 1, [], 3), (26, .putfield 29, 3, [9, 7, 268], 6), (29, .aload_n 0, 1, [], 0), (30, .getfield 11, 3, [9, 4, 265], 5), (33, .iload 4, 2, [], 0), (35, .iaload, 1, [], 5), (36, .iconst 4, 1, [], 2), (37, .if_icmp .ne 31, 3, [37], 4), (40, .aload_n 0, 1, [], 0), (41, .iload 4, 2, [], 0), (43, .iload_n 3, 1, [], 0), (44, .iconst 1, 1, [], 2), (45, .iadd, 1, [], 3), (46, .invokevirtual 111, 3, [], 7), (49, .iload 4, 2, [], 0), (51, .iconst 1, 1, [], 2), (52, .iadd, 1, [], 3), (53, .aload_n 0, 1, [], 0), (54, .getfield 18, 3, [9, 6, 267], 5), (57, .iload 4, 2, [], 0), (59, .iaload, 1, [], 5), (60, .invokestatic 114, 3, [21, 1095, 1096, 134, 1097], 11), (63, .istore 4, 2, [], 1), (65, .goto (-62), 3, [2], 4), (68, .aload_n 0, 1, [], 0), (69, .iload 4, 2, [], 0), (71, .invokevirtual 119, 3, [], 7), (74, .iinc 4 1, 3, [], 1), (77, .goto (-74), 3, [2], 4), (80, .return_, 1, [], 8)])
def xm_94 : xr_M := (yX10_init, cX10_init, 2, none, [], 1, [(0, .aload_n 0, 1, [], 0), (1, .invokespecial 3, 3, [2, 230, 152, 153], 11), (4, .aload_n 0, 1, [], 0), (5, .bipush 72, 2, [], 2), (7, .newarray .int, 2, [224], 10), (9, .putfield 9, 3, [10, 0, 231], 6), (12, .aload_n 0, 1, [], 0), (13, .bipush 6, 2, [], 2), (15, .newarray .int, 2, [224], 10), (17, .putfield 15, 3, [10, 1, 235], 6), (20, .aload_n 0, 1, [], 0), (21, .aload_n 1, 1, [], 0), (22, .putfield 18, 3, [10, 3, 242], 6), (25, .return_, 1, [], 8)])
def xm_95 : xr_M := (yX10_ageFields, cX10_ageFields, 3, none, [], 0, [(0, .iconst 0, 1, [], 2), (1, .istore_n 1, 1, [], 1), (2, .iload_n 1, 1, [], 0), (3, .aload_n 0, 1, [], 0), (4, .getfield 22, 3, [10, 2, 237], 5), (7, .getfield 50, 3, [3, 0, 500], 5), (10, .if_icmp .ge 117, 3, [82], 4), (13, .aload_n 0, 1, [], 0), (14, .getfield 9, 3, [10, 0, 231], 5), (17, .bipush 12, 2, [], 2), (19, .iload_n 1, 1, [], 0), (20, .iadd, 1, [], 3), (21, .iaload, 1, [], 5), (22, .istore_n 2, 1, [], 1), (23, .iload_n 2, 1, [], 0), (24, .iconst (-1), 1, [], 2), (25, .if_icmp .ne 54, 3, [50], 4), (28, .aload_n 0, 1, [], 0), (29, .getfield 9, 3, [10, 0, 231], 5), (32, .iconst 0, 1, [], 2), (33, .iload_n 1, 1, [], 0), (34, .iadd, 1, [], 3), (35, .bipush 9, 2, [], 2), (37, .aload_n 0, 1, [], 0), (38, .getfield 9, 3, [10, 0, 231], 5), (41, .iconst 0, 1, [], 2), (42, .iload_n 1, 1, [], 0), (43, .iadd, 1, [], 3), (44, .iaload, 1, [], 5), (45, .iconst 1, 1, [], 2), (46, .iadd, 1, [], 3), (47, .invokestatic 114, 3, [20, 1150, 735, 134, 736], 11), (50, .iastore, 1, [], 6), (51, .aload_n 0, 1, [], 0), (52, .getfield 9, 3, [10, 0, 231], 5), (55, .bipush 6, 2, [], 2), (57, .iload_n 1, 1, [], 0), (58, .iadd, 1, [], 3), (59, .bipush 9, 2, [], 2), (61, .aload_n 0, 1, [], 0), (62, .getfield 9, 3, [10, 0, 231], 5), (65, .bipush 6, 2, [], 2), (67, .iload_n 1, 1, [], 0), (68, .iadd, 1, [], 3), (69, .iaload, 1, [], 5), (70, .iconst 1, 1, [], 2), (71, .iadd, 1, [], 3), (72, .invokestatic 114, 3, [20, 1150, 735, 134, 736], 11), (75, .iastore, 1, [], 6), (76, .goto 45, 3, [80], 4), (79, .aload_n 0, 1, [], 0), (80, .getfield 9, 3, [10, 0, 231], 5), (83, .iconst 0, 1, [], 2), (84, .iload_n 1, 1, [], 0), (85, .iadd, 1, [], 3), (86, .iconst 0, 1, [], 2), (87, .aload_n 0, 1, [], 0), (88, .getfield 9, 3, [10, 0, 231], 5), (91, .iconst 0, 1, [], 2), (92, .iload_n 1, 1, [], 0), (93, .iadd, 1, [], 3), (94, .iaload, 1, [], 5), (95, .iconst 1, 1, [], 2), (96, .isub, 1, [], 3), (97, .invokestatic 117, 3, [21, 1151, 1096, 134, 1097], 11), (100, .iastore, 1, [], 6), (101, .aload_n 0, 1, [], 0), (102, .getfield 9, 3, [10, 0, 231], 5), (105, .bipush 6, 2, [], 2), (107, .iload_n 1, 1, [], 0), (108, .iadd, 1, [], 3), (109, .iconst 0, 1, [], 2), (110, .iastore, 1, [], 6), (111, .aload_n 0, 1, [], 0), (112, .getfield 9, 3, [10, 0, 231], 5), (115, .bipush 18, 2, [], 2), (117, .iload_n 1, 1, [], 0), (118, .iadd, 1, [], 3), (119, .iload_n 2, 1, [], 0), (120, .iastore, 1, [], 6), (121, .iinc 1 1, 3, [], 1), (124, .goto (-122), 3, [2], 4), (127, .return_, 1, [], 8)])
def xm_96 : xr_M := (yX10_begin, cX10_begin, 3, none, [], 1, [(0, .aload_n 0, 1, [], 0), (1, .aload_n 1, 1, [], 0), (2, .putfield 22, 3, [10, 2, 237], 6), (5, .aload_n 0, 1, [], 0), (6, .getfield 9, 3, [10, 0, 231], 5), (9, .iconst 0, 1, [], 2), (10, .invokestatic 26, 3, [4, 205, 586, 587, 131, 588], 7), (13, .aload_n 1, 1, [], 0), (14, .getfield 32, 3, [3, 8, 519], 5), (17, .iconst 0, 1, [], 2), (18, .aload_n 0, 1, [], 0), (19, .getfield 9, 3, [10, 0, 231], 5), (22, .iconst 0, 1, [], 2), (23, .bipush 6, 2, [], 2), (25, .invokestatic 37, 3, [0, 589, 591, 590, 132], 11), (28, .iconst 0, 1, [], 2), (29, .istore_n 2, 1, [], 1), (30, .iload_n 2, 1, [], 0), (31, .bipush 6, 2, [], 2), (33, .if_icmp .ge 40, 3, [43], 4), (36, .aload_n 0, 1, [], 0), (37, .getfield 9, 3, [10, 0, 231], 5), (40, .bipush 6, 2, [], 2), (42, .iload_n 2, 1, [], 0), (43, .iadd, 1, [], 3), (44, .bipush 9, 2, [], 2), (46, .iastore, 1, [], 6), (47, .aload_n 0, 1, [], 0), (48, .getfield 9, 3, [10, 0, 231], 5), (51, .bipush 12, 2, [], 2), (53, .iload_n 2, 1, [], 0), (54, .iadd, 1, [], 3), (55, .iconst (-1), 1, [], 2), (56, .iastore, 1, [], 6), (57, .aload_n 0, 1, [], 0), (58, .getfield 9, 3, [10, 0, 231], 5), (61, .bipush 18, 2, [], 2), (63, .iload_n 2, 1, [], 0), (64, .iadd, 1, [], 3), (65, .iconst (-1), 1, [], 2), (66, .iastore, 1, [], 6), (67, .iinc 2 1, 3, [], 1), (70, .goto (-40), 3, [17], 4), (73, .aload_n 0, 1, [], 0), (74, .getfield 9, 3, [10, 0, 231], 5), (77, .bipush 70, 2, [], 2), (79, .iconst 1, 1, [], 2), (80, .iastore, 1, [], 6), (81, .return_, 1, [], 8)])
def xm_97 : xr_M := (yX10_endYear, cX10_endYear, 1, none, [], 0, [(0, .aload_n 0, 1, [], 0), (1, .invokevirtual 92, 3, [3, 99, 10, 1118, 1119, 1120, 123, 1121], 7), (4, .aload_n 0, 1, [], 0), (5, .invokevirtual 95, 3, [3, 95, 10, 1146, 1147, 1148, 123, 1149], 7), (8, .aload_n 0, 1, [], 0), (9, .invokevirtual 98, 3, [3, 102, 10, 1152, 1154, 24, 123, 1155], 7), (12, .aload_n 0, 1, [], 0), (13, .invokevirtual 101, 3, [3, 100, 10, 1160, 1162, 25, 123, 1163], 7), (16, .aload_n 0, 1, [], 0), (17, .invokevirtual 104, 3, [3, 101, 10, 1168, 1170, 27, 123, 1171], 7), (20, .aload_n 0, 1, [], 0), (21, .getfield 9, 3, [10, 0, 231], 5), (24, .bipush 70, 2, [], 2), (26, .dup2, 1, [], 9), (27, .iaload, 1, [], 5), (28, .iconst 1, 1, [], 2), (29, .iadd, 1, [], 3), (30, .iastore, 1, [], 6), (31, .return_, 1, [], 8)])
def xm_98 : xr_M := (yX10_ordersThat, cX10_ordersThat, 4, (some .int), [], 1, [(0, .iconst 0, 1, [], 2), (1, .istore_n 2, 1, [], 1), (2, .iconst 0, 1, [], 2), (3, .istore_n 3, 1, [], 1), (4, .iload_n 3, 1, [], 0), (5, .aload_n 0, 1, [], 0), (6, .getfield 22, 3, [10, 2, 237], 5), (9, .getfield 47, 3, [3, 2, 509], 5), (12, .if_icmp .ge 25, 3, [20], 4), (15, .aload_n 0, 1, [], 0), (16, .getfield 9, 3, [10, 0, 231], 5), (19, .bipush 60, 2, [], 2), (21, .iload_n 3, 1, [], 0), (22, .iadd, 1, [], 3), (23, .iaload, 1, [], 5), (24, .iload_n 1, 1, [], 0), (25, .if_icmp .ne 6, 3, [18], 4), (28, .iinc 2 1, 3, [], 1), (31, .iinc 3 1, 3, [], 1), (34, .goto (-30), 3, [4], 4), (37, .iload_n 2, 1, [], 0), (38, .ireturn, 1, [], 8)])
def xm_99 : xr_M := (yX10_reap, cX10_reap, 3, none, [], 0, [(0, .iconst 0, 1, [], 2), (1, .istore_n 1, 1, [], 1), (2, .iload_n 1, 1, [], 0), (3, .aload_n 0, 1, [], 0), (4, .getfield 22, 3, [10, 2, 237], 5), (7, .getfield 50, 3, [3, 0, 500], 5), (10, .if_icmp .ge 45, 3, [32], 4), (13, .aload_n 0, 1, [], 0), (14, .getfield 9, 3, [10, 0, 231], 5), (17, .bipush 12, 2, [], 2), (19, .iload_n 1, 1, [], 0), (20, .iadd, 1, [], 3), (21, .iaload, 1, [], 5), (22, .istore_n 2, 1, [], 1), (23, .aload_n 0, 1, [], 0), (24, .getfield 15, 3, [10, 1, 235], 5), (27, .iload_n 1, 1, [], 0), (28, .iload_n 2, 1, [], 0), (29, .iconst (-1), 1, [], 2), (30, .if_icmp .ne 7, 3, [22], 4), (33, .iconst 0, 1, [], 2), (34, .goto 14, 3, [29], 4), (37, .aload_n 0, 1, [], 0), (38, .iload_n 1, 1, [], 0), (39, .iload_n 2, 1, [], 0), (40, .aload_n 0, 1, [], 0), (41, .iload_n 1, 1, [], 0), (42, .invokevirtual 107, 3, [], 7), (45, .invokevirtual 110, 3, [], 7), (48, .iastore, 1, [], 6), (49, .iinc 1 1, 3, [], 1), (52, .goto (-50), 3, [2], 4), (55, .return_, 1, [], 8)])
def xm_100 : xr_M := (yX10_serveOrders, cX10_serveOrders, 2, none, [], 0, [(0, .iconst 0, 1, [], 2), (1, .istore_n 1, 1, [], 1), (2, .iload_n 1, 1, [], 0), (3, .aload_n 0, 1, [], 0), (4, .getfield 22, 3, [10, 2, 237], 5), (7, .getfield 47, 3, [3, 2, 509], 5), (10, .if_icmp .ge 50, 3, [32], 4), (13, .aload_n 0, 1, [], 0), (14, .getfield 22, 3, [10, 2, 237], 5), (17, .getfield 126, 3, [3, 12, 535], 5), (20, .iload_n 1, 1, [], 0), (21, .iaload, 1, [], 5), (22, .aload_n 0, 1, [], 0), (23, .getfield 9, 3, [10, 0, 231], 5), (26, .bipush 70, 2, [], 2), (28, .iaload, 1, [], 5), (29, .if_icmp .ne 25, 3, [30], 4), (32, .aload_n 0, 1, [], 0), (33, .getfield 9, 3, [10, 0, 231], 5), (36, .bipush 60, 2, [], 2), (38, .iload_n 1, 1, [], 0), (39, .iadd, 1, [], 3), (40, .aload_n 0, 1, [], 0), (41, .iload_n 1, 1, [], 0), (42, .invokevirtual 129, 3, [], 7), (45, .ifCond .eq 7, 3, [28], 4), (48, .iconst 1, 1, [], 2), (49, .goto 4, 3, [29], 4), (52, .iconst 2, 1, [], 2), (53, .iastore, 1, [], 6), (54, .iinc 1 1, 3, [], 1), (57, .goto (-55), 3, [2], 4), (60, .return_, 1, [], 8)])
def xm_101 : xr_M := (yX10_spoilBales, cX10_spoilBales, 3, none, [], 0, [(0, .iconst 0, 1, [], 2), (1, .istore_n 1, 1, [], 1), (2, .iload_n 1, 1, [], 0), (3, .aload_n 0, 1, [], 0), (4, .getfield 22, 3, [10, 2, 237], 5), (7, .getfield 43, 3, [3, 1, 503], 5), (10, .if_icmp .ge 52, 3, [39], 4), (13, .aload_n 0, 1, [], 0), (14, .getfield 22, 3, [10, 2, 237], 5), (17, .aload_n 0, 1, [], 0), (18, .getfield 9, 3, [10, 0, 231], 5), (21, .bipush 24, 2, [], 2), (23, .iload_n 1, 1, [], 0), (24, .iadd, 1, [], 3), (25, .iaload, 1, [], 5), (26, .invokevirtual 142, 3, [], 7), (29, .istore_n 2, 1, [], 1), (30, .aload_n 0, 1, [], 0), (31, .getfield 9, 3, [10, 0, 231], 5), (34, .bipush 24, 2, [], 2), (36, .iload_n 1, 1, [], 0), (37, .iadd, 1, [], 3), (38, .dup2, 1, [], 9), (39, .iaload, 1, [], 5), (40, .iload_n 2, 1, [], 0), (41, .isub, 1, [], 3), (42, .iastore, 1, [], 6), (43, .aload_n 0, 1, [], 0), (44, .getfield 9, 3, [10, 0, 231], 5), (47, .bipush 42, 2, [], 2), (49, .iload_n 1, 1, [], 0), (50, .iadd, 1, [], 3), (51, .dup2, 1, [], 9), (52, .iaload, 1, [], 5), (53, .iload_n 2, 1, [], 0), (54, .iadd, 1, [], 3), (55, .iastore, 1, [], 6), (56, .iinc 1 1, 3, [], 1), (59, .goto (-57), 3, [2], 4), (62, .return_, 1, [], 8)])
def xm_102 : xr_M := (yX10_store, cX10_store, 5, none, [], 0, [(0, .aload_n 0, 1, [], 0), (1, .getfield 22, 3, [10, 2, 237], 5), (4, .getfield 120, 3, [3, 3, 513], 5), (7, .aload_n 0, 1, [], 0), (8, .bipush 24, 2, [], 2), (10, .invokevirtual 123, 3, [3, 103, 10, 1156, 1157, 1158, 123, 1159], 7), (13, .isub, 1, [], 3), (14, .istore_n 1, 1, [], 1), (15, .iconst 0, 1, [], 2), (16, .istore_n 2, 1, [], 1), (17, .iload_n 2, 1, [], 0), (18, .aload_n 0, 1, [], 0), (19, .getfield 22, 3, [10, 2, 237], 5), (22, .getfield 50, 3, [3, 0, 500], 5), (25, .if_icmp .ge 94, 3, [76], 4), (28, .aload_n 0, 1, [], 0), (29, .getfield 9, 3, [10, 0, 231], 5), (32, .bipush 12, 2, [], 2), (34, .iload_n 2, 1, [], 0), (35, .iadd, 1, [], 3), (36, .iaload, 1, [], 5), (37, .istore_n 3, 1, [], 1), (38, .iload_n 3, 1, [], 0), (39, .iconst (-1), 1, [], 2), (40, .if_icmp .eq 73, 3, [74], 4), (43, .iload_n 1, 1, [], 0), (44, .aload_n 0, 1, [], 0), (45, .getfield 15, 3, [10, 1, 235], 5), (48, .iload_n 2, 1, [], 0), (49, .iaload, 1, [], 5), (50, .invokestatic 114, 3, [20, 1150, 735, 134, 736], 11), (53, .istore 4, 2, [], 1), (55, .iload_n 1, 1, [], 0), (56, .iload 4, 2, [], 0), (58, .isub, 1, [], 3), (59, .istore_n 1, 1, [], 1), (60, .aload_n 0, 1, [], 0), (61, .getfield 9, 3, [10, 0, 231], 5), (64, .bipush 30, 2, [], 2), (66, .iload_n 3, 1, [], 0), (67, .iadd, 1, [], 3), (68, .dup2, 1, [], 9), (69, .iaload, 1, [], 5), (70, .aload_n 0, 1, [], 0), (71, .getfield 15, 3, [10, 1, 235], 5), (74, .iload_n 2, 1, [], 0), (75, .iaload, 1, [], 5), (76, .iadd, 1, [], 3), (77, .iastore, 1, [], 6), (78, .aload_n 0, 1, [], 0), (79, .getfield 9, 3, [10, 0, 231], 5), (82, .bipush 24, 2, [], 2), (84, .iload_n 3, 1, [], 0), (85, .iadd, 1, [], 3), (86, .dup2, 1, [], 9), (87, .iaload, 1, [], 5), (88, .iload 4, 2, [], 0), (90, .iadd, 1, [], 3), (91, .iastore, 1, [], 6), (92, .aload_n 0, 1, [], 0), (93, .getfield 9, 3, [10, 0, 231], 5), (96, .bipush 48, 2, [], 2), (98, .iload_n 3, 1, [], 0), (99, .iadd, 1, [], 3), (100, .dup2, 1, [], 9), (101, .iaload, 1, [], 5), (102, .aload_n 0, 1, [], 0), (103, .getfield 15, 3, [10, 1, 235], 5), (106, .iload_n 2, 1, [], 0), (107, .iaload, 1, [], 5), (108, .iload 4, 2, [], 0), (110, .isub, 1, [], 3), (111, .iadd, 1, [], 3), (112, .iastore, 1, [], 6), (113, .iinc 2 1, 3, [], 1), (116, .goto (-99), 3, [10], 4), (119, .return_, 1, [], 8)])
def xm_103 : xr_M := (yX10_sumOf, cX10_sumOf, 4, (some .int), [], 1, [(0, .iconst 0, 1, [], 2), (1, .istore_n 2, 1, [], 1), (2, .iconst 0, 1, [], 2), (3, .istore_n 3, 1, [], 1), (4, .iload_n 3, 1, [], 0), (5, .aload_n 0, 1, [], 0), (6, .getfield 22, 3, [10, 2, 237], 5), (9, .getfield 43, 3, [3, 1, 503], 5), (12, .if_icmp .ge 20, 3, [20], 4), (15, .iload_n 2, 1, [], 0), (16, .aload_n 0, 1, [], 0), (17, .getfield 9, 3, [10, 0, 231], 5), (20, .iload_n 1, 1, [], 0), (21, .iload_n 3, 1, [], 0), (22, .iadd, 1, [], 3), (23, .iaload, 1, [], 5), (24, .iadd, 1, [], 3), (25, .istore_n 2, 1, [], 1), (26, .iinc 3 1, 3, [], 1), (29, .goto (-25), 3, [4], 4), (32, .iload_n 2, 1, [], 0), (33, .ireturn, 1, [], 8)])
def xm_104 : xr_M := (yX10_take, cX10_take, 2, none, [], 1, [(0, .aload_n 1, 1, [], 0), (1, .iconst 0, 1, [], 2), (2, .aload_n 0, 1, [], 0), (3, .getfield 9, 3, [10, 0, 231], 5), (6, .iconst 0, 1, [], 2), (7, .bipush 72, 2, [], 2), (9, .invokestatic 37, 3, [0, 589, 591, 590, 132], 11), (12, .return_, 1, [], 8)])
def xm_105 : xr_M := (yL_against, cL_against, 5, (some .int), [(0, 10, 13, 31), (0, 10, 17, 13)], 4, [(0, .aload_n 3, 1, [], 0), (1, .iconst 0, 1, [], 2), (2, .aload_n 0, 1, [], 0), (3, .iload_n 1, 1, [], 0), (4, .iload_n 2, 1, [], 0), (5, .invokevirtual 81, 3, [3, 1, 11, 1542, 1543, 1544, 120, 1545], 7), (8, .i2l, 1, [], 9), (9, .lastore, 1, [], 6), (10, .goto 11, 3, [15], 4), (13, .astore 4, 2, [], 9), (15, .iconst 1, 1, [], 2), (16, .ireturn, 1, [], 8), (17, .astore 4, 2, [], 9), (19, .iconst 2, 1, [], 2), (20, .ireturn, 1, [], 8), (21, .iconst 0, 1, [], 2), (22, .ireturn, 1, [], 8)])
def xm_106 : xr_M := (yL_ahead, cL_ahead, 4, (some .int), [(0, 9, 12, 13)], 3, [(0, .aload_n 2, 1, [], 0), (1, .iconst 0, 1, [], 2), (2, .aload_n 0, 1, [], 0), (3, .iload_n 1, 1, [], 0), (4, .invokevirtual 49, 3, [3, 2, 11, 1297, 1298, 1299, 120, 1300], 7), (7, .i2l, 1, [], 9), (8, .lastore, 1, [], 6), (9, .goto 6, 3, [11], 4), (12, .astore_n 3, 1, [], 9), (13, .iconst 1, 1, [], 2), (14, .ireturn, 1, [], 8), (15, .iconst 0, 1, [], 2), (16, .ireturn, 1, [], 8)])
def xm_107 : xr_M := (yL_best, cL_best, 4, (some .int), [(0, 9, 12, 13)], 3, [(0, .aload_n 2, 1, [], 0), (1, .iconst 0, 1, [], 2), (2, .aload_n 0, 1, [], 0), (3, .iload_n 1, 1, [], 0), (4, .invokevirtual 52, 3, [3, 4, 11, 1309, 1310, 1311, 120, 1312], 7), (7, .i2l, 1, [], 9), (8, .lastore, 1, [], 6), (9, .goto 6, 3, [11], 4), (12, .astore_n 3, 1, [], 9), (13, .iconst 1, 1, [], 2), (14, .ireturn, 1, [], 8), (15, .iconst 0, 1, [], 2), (16, .ireturn, 1, [], 8)])
def xm_108 : xr_M := (yL_blight, cL_blight, 7, (some .int), [(0, 14, 17, 13)], 6, [(0, .aload 5, 2, [], 0), (2, .iconst 0, 1, [], 2), (3, .aload_n 0, 1, [], 0), (4, .iload_n 1, 1, [], 0), (5, .iload_n 2, 1, [], 0), (6, .iload_n 3, 1, [], 0), (7, .iload 4, 2, [], 0), (9, .invokevirtual 87, 3, [3, 5, 11, 1569, 1570, 1571, 120, 1572], 7), (12, .i2l, 1, [], 9), (13, .lastore, 1, [], 6), (14, .goto 7, 3, [14], 4), (17, .astore 6, 2, [], 9), (19, .iconst 1, 1, [], 2), (20, .ireturn, 1, [], 8), (21, .iconst 0, 1, [], 2), (22, .ireturn, 1, [], 8)])
def xm_109 : xr_M := (yL_book, cL_book, 4, (some .int), [(0, 9, 12, 13)], 3, [(0, .aload_n 2, 1, [], 0), (1, .iconst 0, 1, [], 2), (2, .aload_n 0, 1, [], 0), (3, .iload_n 1, 1, [], 0), (4, .invokevirtual 21, 3, [3, 6, 11, 1179, 1180, 1181, 120, 1182], 7), (7, .i2l, 1, [], 9), (8, .lastore, 1, [], 6), (9, .goto 6, 3, [11], 4), (12, .astore_n 3, 1, [], 9), (13, .iconst 1, 1, [], 2), (14, .ireturn, 1, [], 8), (15, .iconst 0, 1, [], 2), (16, .ireturn, 1, [], 8)])
def xm_110 : xr_M := (yL_crossing, cL_crossing, 5, (some .int), [(0, 10, 13, 13)], 4, [(0, .aload_n 3, 1, [], 0), (1, .iconst 0, 1, [], 2), (2, .aload_n 0, 1, [], 0), (3, .iload_n 1, 1, [], 0), (4, .iload_n 2, 1, [], 0), (5, .invokevirtual 62, 3, [3, 8, 11, 1420, 1421, 1422, 120, 1423], 7), (8, .i2l, 1, [], 9), (9, .lastore, 1, [], 6), (10, .goto 7, 3, [12], 4), (13, .astore 4, 2, [], 9), (15, .iconst 1, 1, [], 2), (16, .ireturn, 1, [], 8), (17, .iconst 0, 1, [], 2), (18, .ireturn, 1, [], 8)])
def xm_111 : xr_M := (yL_ear, cL_ear, 4, (some .int), [(0, 9, 12, 13)], 3, [(0, .aload_n 2, 1, [], 0), (1, .iconst 0, 1, [], 2), (2, .aload_n 0, 1, [], 0), (3, .iload_n 1, 1, [], 0), (4, .invokevirtual 78, 3, [3, 10, 11, 1517, 1518, 1519, 120, 1520], 7), (7, .i2l, 1, [], 9), (8, .lastore, 1, [], 6), (9, .goto 6, 3, [11], 4), (12, .astore_n 3, 1, [], 9), (13, .iconst 1, 1, [], 2), (14, .ireturn, 1, [], 8), (15, .iconst 0, 1, [], 2), (16, .ireturn, 1, [], 8)])
def xm_112 : xr_M := (yL_farm, cL_farm, 4, (some .int), [(0, 9, 12, 13)], 3, [(0, .aload_n 2, 1, [], 0), (1, .iconst 0, 1, [], 2), (2, .aload_n 0, 1, [], 0), (3, .iload_n 1, 1, [], 0), (4, .invokevirtual 7, 3, [3, 11, 11, 791, 792, 793, 120, 794], 7), (7, .i2l, 1, [], 9), (8, .lastore, 1, [], 6), (9, .goto 6, 3, [11], 4), (12, .astore_n 3, 1, [], 9), (13, .iconst 1, 1, [], 2), (14, .ireturn, 1, [], 8), (15, .iconst 0, 1, [], 2), (16, .ireturn, 1, [], 8)])
def xm_113 : xr_M := (yL_field, cL_field, 5, (some .int), [(0, 10, 13, 31), (0, 10, 17, 13)], 4, [(0, .aload_n 3, 1, [], 0), (1, .iconst 0, 1, [], 2), (2, .aload_n 0, 1, [], 0), (3, .iload_n 1, 1, [], 0), (4, .iload_n 2, 1, [], 0), (5, .invokevirtual 27, 3, [3, 14, 11, 1213, 1214, 1215, 120, 1216], 7), (8, .i2l, 1, [], 9), (9, .lastore, 1, [], 6), (10, .goto 11, 3, [15], 4), (13, .astore 4, 2, [], 9), (15, .iconst 1, 1, [], 2), (16, .ireturn, 1, [], 8), (17, .astore 4, 2, [], 9), (19, .iconst 2, 1, [], 2), (20, .ireturn, 1, [], 8), (21, .iconst 0, 1, [], 2), (22, .ireturn, 1, [], 8)])
def xm_114 : xr_M := (yL_generation, cL_generation, 4, (some .int), [(0, 9, 12, 13)], 3, [(0, .aload_n 2, 1, [], 0), (1, .iconst 0, 1, [], 2), (2, .aload_n 0, 1, [], 0), (3, .iload_n 1, 1, [], 0), (4, .invokevirtual 65, 3, [3, 15, 11, 1428, 1429, 1430, 120, 1431], 7), (7, .i2l, 1, [], 9), (8, .lastore, 1, [], 6), (9, .goto 6, 3, [11], 4), (12, .astore_n 3, 1, [], 9), (13, .iconst 1, 1, [], 2), (14, .ireturn, 1, [], 8), (15, .iconst 0, 1, [], 2), (16, .ireturn, 1, [], 8)])
def xm_115 : xr_M := (yL_heard, cL_heard, 4, (some .int), [(0, 9, 12, 13)], 3, [(0, .aload_n 2, 1, [], 0), (1, .iconst 0, 1, [], 2), (2, .aload_n 0, 1, [], 0), (3, .iload_n 1, 1, [], 0), (4, .invokevirtual 72, 3, [3, 16, 11, 1446, 1447, 1448, 120, 1449], 7), (7, .i2l, 1, [], 9), (8, .lastore, 1, [], 6), (9, .goto 6, 3, [11], 4), (12, .astore_n 3, 1, [], 9), (13, .iconst 1, 1, [], 2), (14, .ireturn, 1, [], 8), (15, .iconst 0, 1, [], 2), (16, .ireturn, 1, [], 8)])
def xm_116 : xr_M := (yL_keeps, cL_keeps, 5, (some .int), [(0, 10, 13, 31), (0, 10, 17, 13)], 4, [(0, .aload_n 3, 1, [], 0), (1, .iconst 0, 1, [], 2), (2, .aload_n 0, 1, [], 0), (3, .iload_n 1, 1, [], 0), (4, .iload_n 2, 1, [], 0), (5, .invokevirtual 84, 3, [3, 19, 11, 1561, 1562, 1563, 120, 1564], 7), (8, .i2l, 1, [], 9), (9, .lastore, 1, [], 6), (10, .goto 11, 3, [15], 4), (13, .astore 4, 2, [], 9), (15, .iconst 1, 1, [], 2), (16, .ireturn, 1, [], 8), (17, .astore 4, 2, [], 9), (19, .iconst 2, 1, [], 2), (20, .ireturn, 1, [], 8), (21, .iconst 0, 1, [], 2), (22, .ireturn, 1, [], 8)])
def xm_117 : xr_M := (yL_law, cL_law, 4, (some .int), [(0, 9, 12, 13)], 3, [(0, .aload_n 2, 1, [], 0), (1, .iconst 0, 1, [], 2), (2, .aload_n 0, 1, [], 0), (3, .iload_n 1, 1, [], 0), (4, .invokevirtual 15, 3, [3, 20, 11, 989, 990, 991, 120, 992], 7), (7, .i2l, 1, [], 9), (8, .lastore, 1, [], 6), (9, .goto 6, 3, [11], 4), (12, .astore_n 3, 1, [], 9), (13, .iconst 1, 1, [], 2), (14, .ireturn, 1, [], 8), (15, .iconst 0, 1, [], 2), (16, .ireturn, 1, [], 8)])
def xm_118 : xr_M := (yL_loud, cL_loud, 4, (some .int), [(0, 9, 12, 31)], 3, [(0, .aload_n 2, 1, [], 0), (1, .iconst 0, 1, [], 2), (2, .aload_n 0, 1, [], 0), (3, .iload_n 1, 1, [], 0), (4, .invokevirtual 46, 3, [3, 21, 11, 1280, 1281, 1282, 120, 1283], 7), (7, .i2l, 1, [], 9), (8, .lastore, 1, [], 6), (9, .goto 6, 3, [11], 4), (12, .astore_n 3, 1, [], 9), (13, .iconst 1, 1, [], 2), (14, .ireturn, 1, [], 8), (15, .iconst 0, 1, [], 2), (16, .ireturn, 1, [], 8)])
def xm_119 : xr_M := (yL_order, cL_order, 5, (some .int), [(0, 10, 13, 31), (0, 10, 17, 13)], 4, [(0, .aload_n 3, 1, [], 0), (1, .iconst 0, 1, [], 2), (2, .aload_n 0, 1, [], 0), (3, .iload_n 1, 1, [], 0), (4, .iload_n 2, 1, [], 0), (5, .invokevirtual 36, 3, [3, 26, 11, 1255, 1256, 1257, 120, 1258], 7), (8, .i2l, 1, [], 9), (9, .lastore, 1, [], 6), (10, .goto 11, 3, [15], 4), (13, .astore 4, 2, [], 9), (15, .iconst 1, 1, [], 2), (16, .ireturn, 1, [], 8), (17, .astore 4, 2, [], 9), (19, .iconst 2, 1, [], 2), (20, .ireturn, 1, [], 8), (21, .iconst 0, 1, [], 2), (22, .ireturn, 1, [], 8)])
def xm_120 : xr_M := (yL_rows, cL_rows, 4, (some .int), [(0, 8, 11, 13)], 3, [(0, .aload_n 2, 1, [], 0), (1, .iconst 0, 1, [], 2), (2, .aload_n 0, 1, [], 0), (3, .iload_n 1, 1, [], 0), (4, .invokevirtual 68, 3, [3, 30, 11, 1435, 1436, 1437, 120, 1438], 7), (7, .lastore, 1, [], 6), (8, .goto 6, 3, [10], 4), (11, .astore_n 3, 1, [], 9), (12, .iconst 1, 1, [], 2), (13, .ireturn, 1, [], 8), (14, .iconst 0, 1, [], 2), (15, .ireturn, 1, [], 8)])
def xm_121 : xr_M := (yL_sets, cL_sets, 5, (some .int), [(0, 10, 13, 13)], 4, [(0, .aload_n 3, 1, [], 0), (1, .iconst 0, 1, [], 2), (2, .aload_n 0, 1, [], 0), (3, .iload_n 1, 1, [], 0), (4, .iload_n 2, 1, [], 0), (5, .invokevirtual 59, 3, [3, 31, 11, 1397, 1398, 1399, 120, 1400], 7), (8, .i2l, 1, [], 9), (9, .lastore, 1, [], 6), (10, .goto 7, 3, [12], 4), (13, .astore 4, 2, [], 9), (15, .iconst 1, 1, [], 2), (16, .ireturn, 1, [], 8), (17, .iconst 0, 1, [], 2), (18, .ireturn, 1, [], 8)])
def xm_122 : xr_M := (yL_sound, cL_sound, 5, (some .int), [(0, 10, 13, 31), (0, 10, 17, 13)], 4, [(0, .aload_n 3, 1, [], 0), (1, .iconst 0, 1, [], 2), (2, .aload_n 0, 1, [], 0), (3, .iload_n 1, 1, [], 0), (4, .iload_n 2, 1, [], 0), (5, .invokevirtual 33, 3, [3, 32, 11, 1244, 1245, 1246, 120, 1247], 7), (8, .i2l, 1, [], 9), (9, .lastore, 1, [], 6), (10, .goto 11, 3, [15], 4), (13, .astore 4, 2, [], 9), (15, .iconst 1, 1, [], 2), (16, .ireturn, 1, [], 8), (17, .astore 4, 2, [], 9), (19, .iconst 2, 1, [], 2), (20, .ireturn, 1, [], 8), (21, .iconst 0, 1, [], 2), (22, .ireturn, 1, [], 8)])
def xm_123 : xr_M := (yL_span, cL_span, 8, (some .int), [(0, 16, 19, 13)], 7, [(0, .aload 6, 2, [], 0), (2, .iconst 0, 1, [], 2), (3, .aload_n 0, 1, [], 0), (4, .iload_n 1, 1, [], 0), (5, .iload_n 2, 1, [], 0), (6, .iload_n 3, 1, [], 0), (7, .iload 4, 2, [], 0), (9, .iload 5, 2, [], 0), (11, .invokevirtual 91, 3, [3, 33, 11, 1594, 1595, 1596, 120, 1597], 7), (14, .i2l, 1, [], 9), (15, .lastore, 1, [], 6), (16, .goto 7, 3, [15], 4), (19, .astore 7, 2, [], 9), (21, .iconst 1, 1, [], 2), (22, .ireturn, 1, [], 8), (23, .iconst 0, 1, [], 2), (24, .ireturn, 1, [], 8)])
def xm_124 : xr_M := (yL_sums, cL_sums, 4, (some .int), [(0, 9, 12, 13)], 3, [(0, .aload_n 2, 1, [], 0), (1, .iconst 0, 1, [], 2), (2, .aload_n 0, 1, [], 0), (3, .iload_n 1, 1, [], 0), (4, .invokevirtual 95, 3, [3, 36, 11, 1602, 1603, 1604, 120, 1605], 7), (7, .i2l, 1, [], 9), (8, .lastore, 1, [], 6), (9, .goto 6, 3, [11], 4), (12, .astore_n 3, 1, [], 9), (13, .iconst 1, 1, [], 2), (14, .ireturn, 1, [], 8), (15, .iconst 0, 1, [], 2), (16, .ireturn, 1, [], 8)])
def xm_125 : xr_M := (yL_sure, cL_sure, 4, (some .int), [(0, 9, 12, 31)], 3, [(0, .aload_n 2, 1, [], 0), (1, .iconst 0, 1, [], 2), (2, .aload_n 0, 1, [], 0), (3, .iload_n 1, 1, [], 0), (4, .invokevirtual 75, 3, [3, 37, 11, 1500, 1501, 1502, 120, 1503], 7), (7, .i2l, 1, [], 9), (8, .lastore, 1, [], 6), (9, .goto 6, 3, [11], 4), (12, .astore_n 3, 1, [], 9), (13, .iconst 1, 1, [], 2), (14, .ireturn, 1, [], 8), (15, .iconst 0, 1, [], 2), (16, .ireturn, 1, [], 8)])
def xm_126 : xr_M := (yL_told, cL_told, 4, (some .int), [(0, 9, 12, 13)], 3, [(0, .aload_n 2, 1, [], 0), (1, .iconst 0, 1, [], 2), (2, .aload_n 0, 1, [], 0), (3, .iload_n 1, 1, [], 0), (4, .invokevirtual 24, 3, [3, 38, 11, 1204, 1205, 1206, 120, 1207], 7), (7, .i2l, 1, [], 9), (8, .lastore, 1, [], 6), (9, .goto 6, 3, [11], 4), (12, .astore_n 3, 1, [], 9), (13, .iconst 1, 1, [], 2), (14, .ireturn, 1, [], 8), (15, .iconst 0, 1, [], 2), (16, .ireturn, 1, [], 8)])
def xm_127 : xr_M := (yL_turnsOf, cL_turnsOf, 6, (some .int), [(0, 12, 15, 31), (0, 12, 19, 13)], 5, [(0, .aload 4, 2, [], 0), (2, .iconst 0, 1, [], 2), (3, .aload_n 0, 1, [], 0), (4, .iload_n 1, 1, [], 0), (5, .iload_n 2, 1, [], 0), (6, .iload_n 3, 1, [], 0), (7, .invokevirtual 55, 3, [3, 39, 11, 1357, 1358, 1359, 120, 1360], 7), (10, .i2l, 1, [], 9), (11, .lastore, 1, [], 6), (12, .goto 11, 3, [16], 4), (15, .astore 5, 2, [], 9), (17, .iconst 1, 1, [], 2), (18, .ireturn, 1, [], 8), (19, .astore 5, 2, [], 9), (21, .iconst 2, 1, [], 2), (22, .ireturn, 1, [], 8), (23, .iconst 0, 1, [], 2), (24, .ireturn, 1, [], 8)])
def xm_128 : xr_M := (yL_work, cL_work, 4, (some .int), [(0, 9, 12, 13)], 3, [(0, .aload_n 2, 1, [], 0), (1, .iconst 0, 1, [], 2), (2, .aload_n 0, 1, [], 0), (3, .iload_n 1, 1, [], 0), (4, .invokevirtual 18, 3, [3, 41, 11, 1050, 1051, 1052, 120, 1053], 7), (7, .i2l, 1, [], 9), (8, .lastore, 1, [], 6), (9, .goto 6, 3, [11], 4), (12, .astore_n 3, 1, [], 9), (13, .iconst 1, 1, [], 2), (14, .ireturn, 1, [], 8), (15, .iconst 0, 1, [], 2), (16, .ireturn, 1, [], 8)])
def xm_129 : xr_M := (yL_would, cL_would, 9, (some .int), [(0, 18, 21, 13)], 8, [(0, .aload 7, 2, [], 0), (2, .iconst 0, 1, [], 2), (3, .aload_n 0, 1, [], 0), (4, .iload_n 1, 1, [], 0), (5, .iload_n 2, 1, [], 0), (6, .iload_n 3, 1, [], 0), (7, .iload 4, 2, [], 0), (9, .iload 5, 2, [], 0), (11, .iload 6, 2, [], 0), (13, .invokevirtual 42, 3, [3, 43, 11, 1270, 1271, 1272, 120, 1273], 7), (16, .i2l, 1, [], 9), (17, .lastore, 1, [], 6), (18, .goto 7, 3, [16], 4), (21, .astore 8, 2, [], 9), (23, .iconst 1, 1, [], 2), (24, .ireturn, 1, [], 8), (25, .iconst 0, 1, [], 2), (26, .ireturn, 1, [], 8)])
def xm_130 : xr_M := (yL_yields, cL_yields, 5, (some .int), [(0, 10, 13, 31)], 4, [(0, .aload_n 3, 1, [], 0), (1, .iconst 0, 1, [], 2), (2, .aload_n 0, 1, [], 0), (3, .iload_n 1, 1, [], 0), (4, .iload_n 2, 1, [], 0), (5, .invokevirtual 39, 3, [3, 44, 11, 1262, 1263, 1264, 120, 1265], 7), (8, .i2l, 1, [], 9), (9, .lastore, 1, [], 6), (10, .goto 7, 3, [12], 4), (13, .astore 4, 2, [], 9), (15, .iconst 1, 1, [], 2), (16, .ireturn, 1, [], 8), (17, .iconst 0, 1, [], 2), (18, .ireturn, 1, [], 8)])
def xm_131 : xr_M := (yX12_init, cX12_init, 1, none, [], 0, [(0, .aload_n 0, 1, [], 0), (1, .invokespecial 1, 3, [2, 1611, 152, 153], 11), (4, .aload_n 0, 1, [], 0), (5, .iconst (-1), 1, [], 2), (6, .putfield 9, 3, [12, 3, 1631], 6), (9, .aload_n 0, 1, [], 0), (10, .sipush 600, 3, [], 2), (13, .newarray .int, 2, [224], 10), (15, .putfield 13, 3, [12, 9, 1637], 6), (18, .aload_n 0, 1, [], 0), (19, .iconst 2, 1, [], 2), (20, .newarray .int, 2, [224], 10), (22, .putfield 17, 3, [12, 10, 1638], 6), (25, .aload_n 0, 1, [], 0), (26, .bipush 7, 2, [], 2), (28, .newarray .int, 2, [224], 10), (30, .putfield 20, 3, [12, 11, 1639], 6), (33, .aload_n 0, 1, [], 0), (34, .bipush 7, 2, [], 2), (36, .newarray .int, 2, [224], 10), (38, .putfield 23, 3, [12, 12, 1640], 6), (41, .aload_n 0, 1, [], 0), (42, .bipush 6, 2, [], 2), (44, .newarray .int, 2, [224], 10), (46, .putfield 26, 3, [12, 13, 1641], 6), (49, .aload_n 0, 1, [], 0), (50, .bipush 6, 2, [], 2), (52, .newarray .int, 2, [224], 10), (54, .putfield 29, 3, [12, 14, 1642], 6), (57, .aload_n 0, 1, [], 0), (58, .bipush 6, 2, [], 2), (60, .newarray .int, 2, [224], 10), (62, .putfield 32, 3, [12, 15, 1643], 6), (65, .aload_n 0, 1, [], 0), (66, .bipush 6, 2, [], 2), (68, .iconst 3, 1, [], 2), (69, .multianewarray 35 2, 4, [1612, 224], 10), (73, .putfield 37, 3, [12, 16, 1644], 6), (76, .aload_n 0, 1, [], 0), (77, .bipush 6, 2, [], 2), (79, .iconst 3, 1, [], 2), (80, .multianewarray 35 2, 4, [1612, 224], 10), (84, .putfield 40, 3, [12, 17, 1645], 6), (87, .aload_n 0, 1, [], 0), (88, .bipush 10, 2, [], 2), (90, .iconst 4, 1, [], 2), (91, .multianewarray 35 2, 4, [1612, 224], 10), (95, .putfield 43, 3, [12, 18, 1646], 6), (98, .aload_n 0, 1, [], 0), (99, .bipush 10, 2, [], 2), (101, .iconst 4, 1, [], 2), (102, .multianewarray 35 2, 4, [1612, 224], 10), (106, .putfield 46, 3, [12, 19, 1647], 6), (109, .aload_n 0, 1, [], 0), (110, .sipush 160, 3, [], 2), (113, .iconst 2, 1, [], 2), (114, .multianewarray 35 2, 4, [1612, 224], 10), (118, .putfield 49, 3, [12, 22, 1650], 6), (121, .aload_n 0, 1, [], 0), (122, .sipush 160, 3, [], 2), (125, .iconst 2, 1, [], 2), (126, .multianewarray 35 2, 4, [1612, 224], 10), (130, .putfield 52, 3, [12, 23, 1651], 6), (133, .aload_n 0, 1, [], 0), (134, .bipush 6, 2, [], 2), (136, .iconst 2, 1, [], 2), (137, .multianewarray 35 2, 4, [1612, 224], 10), (141, .putfield 55, 3, [12, 24, 1652], 6), (144, .aload_n 0, 1, [], 0), (145, .bipush 6, 2, [], 2), (147, .iconst 2, 1, [], 2), (148, .multianewarray 35 2, 4, [1612, 224], 10), (152, .putfield 58, 3, [12, 25, 1653], 6), (155, .aload_n 0, 1, [], 0), (156, .sipush 160, 3, [], 2), (159, .newarray .int, 2, [224], 10), (161, .putfield 61, 3, [12, 26, 1654], 6), (164, .aload_n 0, 1, [], 0), (165, .bipush 9, 2, [], 2), (167, .newarray .int, 2, [224], 10), (169, .putfield 64, 3, [12, 27, 1655], 6), (172, .aload_n 0, 1, [], 0), (173, .bipush 60, 2, [], 2), (175, .iconst 4, 1, [], 2), (176, .multianewarray 35 2, 4, [1612, 224], 10), (180, .putfield 67, 3, [12, 28, 1656], 6), (183, .aload_n 0, 1, [], 0), (184, .bipush 72, 2, [], 2), (186, .newarray .int, 2, [224], 10), (188, .putfield 70, 3, [12, 30, 1658], 6), (191, .aload_n 0, 1, [], 0), (192, .bipush 72, 2, [], 2), (194, .newarray .int, 2, [224], 10), (196, .putfield 73, 3, [12, 31, 1659], 6), (199, .aload_n 0, 1, [], 0), (200, .bipush 20, 2, [], 2), (202, .bipush 72, 2, [], 2), (204, .multianewarray 35 2, 4, [1612, 224], 10), (208, .putfield 76, 3, [12, 32, 1660], 6), (211, .aload_n 0, 1, [], 0), (212, .iconst 3, 1, [], 2), (213, .sipush 1513, 3, [], 2), (216, .multianewarray 35 2, 4, [1612, 224], 10), (220, .putfield 79, 3, [12, 33, 1661], 6), (223, .aload_n 0, 1, [], 0), (224, .bipush 6, 2, [], 2), (226, .newarray .int, 2, [224], 10), (228, .putfield 82, 3, [12, 39, 1667], 6), (231, .aload_n 0, 1, [], 0), (232, .bipush 6, 2, [], 2), (234, .newarray .int, 2, [224], 10), (236, .putfield 85, 3, [12, 42, 1670], 6), (239, .aload_n 0, 1, [], 0), (240, .sipush 4000, 3, [], 2), (243, .newarray .int, 2, [224], 10), (245, .putfield 88, 3, [12, 43, 1671], 6), (248, .aload_n 0, 1, [], 0), (249, .bipush 6, 2, [], 2), (251, .newarray .int, 2, [224], 10), (253, .putfield 91, 3, [12, 44, 1672], 6), (256, .aload_n 0, 1, [], 0), (257, .invokevirtual 94, 3, [3, 192, 12, 1614, 1616, 62, 133, 1617], 7), (260, .aload_n 0, 1, [], 0), (261, .invokevirtual 97, 3, [3, 187, 12, 1618, 1620, 63, 133, 1621], 7), (264, .return_, 1, [], 8)])
def xm_132 : xr_M := (yX12_against, cX12_against, 7, (some .int), [], 2, [(0, .aload_n 0, 1, [], 0), (1, .iconst 0, 1, [], 2), (2, .putfield 100, 3, [12, 0, 1628], 6), (5, .aload_n 0, 1, [], 0), (6, .aload_n 0, 1, [], 0), (7, .iload_n 1, 1, [], 0), (8, .invokevirtual 309, 3, [3, 162, 12, 1988, 1990, 99, 133, 1991], 7), (11, .ifCond .ne 7, 3, [10], 4), (14, .iconst 1, 1, [], 2), (15, .goto 4, 3, [11], 4), (18, .iconst 0, 1, [], 2), (19, .iconst 1, 1, [], 2), (20, .iconst 0, 1, [], 2), (21, .invokevirtual 173, 3, [3, 136, 12, 1788, 1790, 64, 133, 1791], 7), (24, .ifCond .ne 26, 3, [28], 4), (27, .aload_n 0, 1, [], 0), (28, .iload_n 2, 1, [], 0), (29, .iconst 0, 1, [], 2), (30, .iconst 1, 1, [], 2), (31, .invokestatic 134, 3, [4, 161, 1625, 1626, 133, 1627], 7), (34, .ifCond .ne 7, 3, [23], 4), (37, .iconst 1, 1, [], 2), (38, .goto 4, 3, [24], 4), (41, .iconst 0, 1, [], 2), (42, .iconst 2, 1, [], 2), (43, .iconst 1, 1, [], 2), (44, .invokevirtual 173, 3, [3, 136, 12, 1788, 1790, 64, 133, 1791], 7), (47, .ifCond .eq 5, 3, [30], 4), (50, .iconst 0, 1, [], 2), (51, .ireturn, 1, [], 8), (52, .iconst 0, 1, [], 2), (53, .istore_n 3, 1, [], 1), (54, .iload_n 3, 1, [], 0), (55, .aload_n 0, 1, [], 0), (56, .getfield 23, 3, [12, 12, 1640], 5), (59, .iconst 1, 1, [], 2), (60, .iaload, 1, [], 5), (61, .if_icmp .ge 131, 3, [121], 4), (64, .aload_n 0, 1, [], 0), (65, .getfield 64, 3, [12, 27, 1655], 5), (68, .iconst 0, 1, [], 2), (69, .aload_n 0, 1, [], 0), (70, .getfield 70, 3, [12, 30, 1658], 5), (73, .iconst 0, 1, [], 2), (74, .iload_n 1, 1, [], 0), (75, .iadd, 1, [], 3), (76, .iaload, 1, [], 5), (77, .iastore, 1, [], 6), (78, .aload_n 0, 1, [], 0), (79, .getfield 64, 3, [12, 27, 1655], 5), (82, .iconst 1, 1, [], 2), (83, .iconst 0, 1, [], 2), (84, .iastore, 1, [], 6), (85, .aload_n 0, 1, [], 0), (86, .getfield 64, 3, [12, 27, 1655], 5), (89, .iconst 2, 1, [], 2), (90, .iconst 0, 1, [], 2), (91, .iastore, 1, [], 6), (92, .aload_n 0, 1, [], 0), (93, .getfield 64, 3, [12, 27, 1655], 5), (96, .iconst 3, 1, [], 2), (97, .aload_n 0, 1, [], 0), (98, .getfield 40, 3, [12, 17, 1645], 5), (101, .iload_n 3, 1, [], 0), (102, .aaload, 1, [], 5), (103, .iconst 1, 1, [], 2), (104, .iaload, 1, [], 5), (105, .iastore, 1, [], 6), (106, .aload_n 0, 1, [], 0), (107, .getfield 64, 3, [12, 27, 1655], 5), (110, .iconst 4, 1, [], 2), (111, .aload_n 0, 1, [], 0), (112, .getfield 40, 3, [12, 17, 1645], 5), (115, .iload_n 3, 1, [], 0), (116, .aaload, 1, [], 5), (117, .iconst 2, 1, [], 2), (118, .iaload, 1, [], 5), (119, .iastore, 1, [], 6), (120, .aload_n 0, 1, [], 0), (121, .getfield 64, 3, [12, 27, 1655], 5), (124, .iconst 5, 1, [], 2), (125, .iconst 0, 1, [], 2), (126, .iastore, 1, [], 6), (127, .aload_n 0, 1, [], 0), (128, .getfield 64, 3, [12, 27, 1655], 5), (131, .bipush 6, 2, [], 2), (133, .aload_n 0, 1, [], 0), (134, .getfield 70, 3, [12, 30, 1658], 5), (137, .bipush 70, 2, [], 2), (139, .iaload, 1, [], 5), (140, .iastore, 1, [], 6), (141, .aload_n 0, 1, [], 0), (142, .getfield 64, 3, [12, 27, 1655], 5), (145, .bipush 7, 2, [], 2), (147, .aload_n 0, 1, [], 0), (148, .aload_n 0, 1, [], 0), (149, .getfield 70, 3, [12, 30, 1658], 5), (152, .bipush 70, 2, [], 2), (154, .iaload, 1, [], 5), (155, .invokevirtual 253, 3, [], 7), (158, .iastore, 1, [], 6), (159, .aload_n 0, 1, [], 0), (160, .getfield 64, 3, [12, 27, 1655], 5), (163, .bipush 8, 2, [], 2), (165, .iload_n 1, 1, [], 0), (166, .iastore, 1, [], 6), (167, .aload_n 0, 1, [], 0), (168, .getfield 91, 3, [12, 44, 1672], 5), (171, .iload_n 3, 1, [], 0), (172, .aload_n 0, 1, [], 0), (173, .invokevirtual 256, 3, [3, 202, 12, 1890, 1892, 85, 133, 1893], 7), (176, .aload_n 0, 1, [], 0), (177, .getfield 40, 3, [12, 17, 1645], 5), (180, .iload_n 3, 1, [], 0), (181, .aaload, 1, [], 5), (182, .iconst 2, 1, [], 2), (183, .iaload, 1, [], 5), (184, .imul, 1, [], 3), (185, .iastore, 1, [], 6), (186, .iinc 3 1, 3, [], 1), (189, .goto (-135), 3, [32], 4), (192, .iconst 0, 1, [], 2), (193, .istore_n 3, 1, [], 1), (194, .iconst (-1), 1, [], 2), (195, .istore 4, 2, [], 1), (197, .iconst 0, 1, [], 2), (198, .istore 5, 2, [], 1), (200, .iload 5, 2, [], 0), (202, .aload_n 0, 1, [], 0), (203, .getfield 23, 3, [12, 12, 1640], 5), (206, .iconst 1, 1, [], 2), (207, .iaload, 1, [], 5), (208, .if_icmp .ge 76, 3, [167], 4), (211, .iconst 0, 1, [], 2), (212, .istore 6, 2, [], 1), (214, .iload 6, 2, [], 0), (216, .aload_n 0, 1, [], 0), (217, .getfield 23, 3, [12, 12, 1640], 5), (220, .iconst 1, 1, [], 2), (221, .iaload, 1, [], 5), (222, .if_icmp .ge 56, 3, [165], 4), (225, .aload_n 0, 1, [], 0), (226, .iload 5, 2, [], 0), (228, .iload 6, 2, [], 0), (230, .invokevirtual 367, 3, [], 7), (233, .ifCond .eq 39, 3, [163], 4), (236, .aload_n 0, 1, [], 0), (237, .iload 6, 2, [], 0), (239, .iload 5, 2, [], 0), (241, .invokevirtual 367, 3, [], 7), (244, .ifCond .ne 6, 3, [152], 4), (247, .goto 25, 3, [163], 4), (250, .iload_n 3, 1, [], 0), (251, .ifCond .ne 14, 3, [160], 4), (254, .bipush 10, 2, [], 2), (256, .iload 5, 2, [], 0), (258, .imul, 1, [], 3), (259, .iload 6, 2, [], 0), (261, .iadd, 1, [], 3), (262, .goto 5, 3, [161], 4), (265, .iload 4, 2, [], 0), (267, .istore 4, 2, [], 1), (269, .iinc 3 1, 3, [], 1), (272, .iinc 6 1, 3, [], 1), (275, .goto (-61), 3, [135], 4), (278, .iinc 5 1, 3, [], 1), (281, .goto (-81), 3, [127], 4), (284, .iload_n 2, 1, [], 0), (285, .ifCond .ne 7, 3, [171], 4), (288, .iload_n 3, 1, [], 0), (289, .goto 5, 3, [172], 4), (292, .iload 4, 2, [], 0), (294, .ireturn, 1, [], 8)])
def xm_133 : xr_M := (yX12_ages, cX12_ages, 4, none, [], 1, [(0, .iconst 0, 1, [], 2), (1, .istore_n 2, 1, [], 1), (2, .iload_n 2, 1, [], 0), (3, .aload_n 0, 1, [], 0), (4, .getfield 23, 3, [12, 12, 1640], 5), (7, .iconst 0, 1, [], 2), (8, .iaload, 1, [], 5), (9, .if_icmp .ge 89, 3, [68], 4), (12, .aload_n 1, 1, [], 0), (13, .bipush 6, 2, [], 2), (15, .iload_n 2, 1, [], 0), (16, .iadd, 1, [], 3), (17, .iaload, 1, [], 5), (18, .iconst (-1), 1, [], 2), (19, .if_icmp .eq 7, 3, [17], 4), (22, .iconst 1, 1, [], 2), (23, .goto 4, 3, [18], 4), (26, .iconst 0, 1, [], 2), (27, .istore_n 3, 1, [], 1), (28, .aload_n 1, 1, [], 0), (29, .iconst 0, 1, [], 2), (30, .iload_n 2, 1, [], 0), (31, .iadd, 1, [], 3), (32, .iload_n 3, 1, [], 0), (33, .ifCond .eq 17, 3, [35], 4), (36, .iconst 0, 1, [], 2), (37, .aload_n 1, 1, [], 0), (38, .iconst 0, 1, [], 2), (39, .iload_n 2, 1, [], 0), (40, .iadd, 1, [], 3), (41, .iaload, 1, [], 5), (42, .iconst 1, 1, [], 2), (43, .isub, 1, [], 3), (44, .invokestatic 236, 3, [4, 172, 1904, 1905, 133, 1906], 7), (47, .goto 15, 3, [44], 4), (50, .bipush 9, 2, [], 2), (52, .aload_n 1, 1, [], 0), (53, .iconst 0, 1, [], 2), (54, .iload_n 2, 1, [], 0), (55, .iadd, 1, [], 3), (56, .iaload, 1, [], 5), (57, .iconst 1, 1, [], 2), (58, .iadd, 1, [], 3), (59, .invokestatic 233, 3, [4, 170, 1901, 1902, 133, 1903], 7), (62, .iastore, 1, [], 6), (63, .iload_n 3, 1, [], 0), (64, .ifCond .ne 6, 3, [48], 4), (67, .goto 25, 3, [66], 4), (70, .aload_n 1, 1, [], 0), (71, .bipush 12, 2, [], 2), (73, .iload_n 2, 1, [], 0), (74, .iadd, 1, [], 3), (75, .aload_n 1, 1, [], 0), (76, .bipush 6, 2, [], 2), (78, .iload_n 2, 1, [], 0), (79, .iadd, 1, [], 3), (80, .iaload, 1, [], 5), (81, .iastore, 1, [], 6), (82, .aload_n 1, 1, [], 0), (83, .bipush 18, 2, [], 2), (85, .iload_n 2, 1, [], 0), (86, .iadd, 1, [], 3), (87, .aload_n 1, 1, [], 0), (88, .bipush 70, 2, [], 2), (90, .iaload, 1, [], 5), (91, .iastore, 1, [], 6), (92, .iinc 2 1, 3, [], 1), (95, .goto (-93), 3, [2], 4), (98, .return_, 1, [], 8)])
def xm_134 : xr_M := (yX12_ahead, cX12_ahead, 2, (some .int), [], 1, [(0, .aload_n 0, 1, [], 0), (1, .iconst 0, 1, [], 2), (2, .putfield 100, 3, [12, 0, 1628], 6), (5, .aload_n 0, 1, [], 0), (6, .iload_n 1, 1, [], 0), (7, .iconst 0, 1, [], 2), (8, .iconst 3, 1, [], 2), (9, .invokestatic 134, 3, [4, 161, 1625, 1626, 133, 1627], 7), (12, .ifCond .ne 7, 3, [11], 4), (15, .iconst 1, 1, [], 2), (16, .goto 4, 3, [12], 4), (19, .iconst 0, 1, [], 2), (20, .iconst 1, 1, [], 2), (21, .iconst 1, 1, [], 2), (22, .invokevirtual 173, 3, [3, 136, 12, 1788, 1790, 64, 133, 1791], 7), (25, .ifCond .eq 5, 3, [18], 4), (28, .iconst 0, 1, [], 2), (29, .ireturn, 1, [], 8), (30, .aload_n 0, 1, [], 0), (31, .getfield 70, 3, [12, 30, 1658], 5), (34, .aload_n 0, 1, [], 0), (35, .getfield 73, 3, [12, 31, 1659], 5), (38, .invokestatic 305, 3, [4, 145, 1927, 1928, 133, 1929], 7), (41, .aload_n 0, 1, [], 0), (42, .aload_n 0, 1, [], 0), (43, .getfield 73, 3, [12, 31, 1659], 5), (46, .invokevirtual 289, 3, [3, 201, 12, 1938, 1940, 93, 133, 1941], 7), (49, .iload_n 1, 1, [], 0), (50, .tableswitch 86 0 2 #[26, 50, 66], 26, [63, 29, 41, 51], 9), (76, .aload_n 0, 1, [], 0), (77, .getfield 73, 3, [12, 31, 1659], 5), (80, .bipush 30, 2, [], 2), (82, .bipush 6, 2, [], 2), (84, .invokestatic 321, 3, [4, 135, 2028, 2029, 133, 2030], 7), (87, .aload_n 0, 1, [], 0), (88, .getfield 70, 3, [12, 30, 1658], 5), (91, .bipush 30, 2, [], 2), (93, .bipush 6, 2, [], 2), (95, .invokestatic 321, 3, [4, 135, 2028, 2029, 133, 2030], 7), (98, .isub, 1, [], 3), (99, .ireturn, 1, [], 8), (100, .aload_n 0, 1, [], 0), (101, .getfield 73, 3, [12, 31, 1659], 5), (104, .bipush 71, 2, [], 2), (106, .iaload, 1, [], 5), (107, .aload_n 0, 1, [], 0), (108, .getfield 70, 3, [12, 30, 1658], 5), (111, .bipush 71, 2, [], 2), (113, .iaload, 1, [], 5), (114, .isub, 1, [], 3), (115, .ireturn, 1, [], 8), (116, .aload_n 0, 1, [], 0), (117, .aload_n 0, 1, [], 0), (118, .getfield 73, 3, [12, 31, 1659], 5), (121, .iconst 2, 1, [], 2), (122, .invokevirtual 324, 3, [3, 175, 12, 2031, 2033, 103, 133, 2034], 7), (125, .aload_n 0, 1, [], 0), (126, .aload_n 0, 1, [], 0), (127, .getfield 70, 3, [12, 30, 1658], 5), (130, .iconst 2, 1, [], 2), (131, .invokevirtual 324, 3, [3, 175, 12, 2031, 2033, 103, 133, 2034], 7), (134, .isub, 1, [], 3), (135, .ireturn, 1, [], 8), (136, .aload_n 0, 1, [], 0), (137, .getfield 73, 3, [12, 31, 1659], 5), (140, .bipush 48, 2, [], 2), (142, .bipush 6, 2, [], 2), (144, .invokestatic 321, 3, [4, 135, 2028, 2029, 133, 2030], 7), (147, .aload_n 0, 1, [], 0), (148, .getfield 70, 3, [12, 30, 1658], 5), (151, .bipush 48, 2, [], 2), (153, .bipush 6, 2, [], 2), (155, .invokestatic 321, 3, [4, 135, 2028, 2029, 133, 2030], 7), (158, .isub, 1, [], 3), (159, .ireturn, 1, [], 8)])
def xm_135 : xr_M := (yX12_all, cX12_all, 5, (some .int), [], 3, [(0, .iconst 0, 1, [], 2), (1, .istore_n 3, 1, [], 1), (2, .iconst 0, 1, [], 2), (3, .istore 4, 2, [], 1), (5, .iload 4, 2, [], 0), (7, .iload_n 2, 1, [], 0), (8, .if_icmp .ge 18, 3, [17], 4), (11, .iload_n 3, 1, [], 0), (12, .aload_n 0, 1, [], 0), (13, .iload_n 1, 1, [], 0), (14, .iload 4, 2, [], 0), (16, .iadd, 1, [], 3), (17, .iaload, 1, [], 5), (18, .iadd, 1, [], 3), (19, .istore_n 3, 1, [], 1), (20, .iinc 4 1, 3, [], 1), (23, .goto (-18), 3, [4], 4), (26, .iload_n 3, 1, [], 0), (27, .ireturn, 1, [], 8)])
def xm_136 : xr_M := (yX12_bad, cX12_bad, 4, (some .boolean), [], 3, [(0, .iload_n 1, 1, [], 0), (1, .ifCond .eq 25, 3, [16], 4), (4, .aload_n 0, 1, [], 0), (5, .getfield 100, 3, [12, 0, 1628], 5), (8, .ifCond .ne 18, 3, [16], 4), (11, .aload_n 0, 1, [], 0), (12, .iload_n 2, 1, [], 0), (13, .putfield 100, 3, [12, 0, 1628], 6), (16, .aload_n 0, 1, [], 0), (17, .getfield 17, 3, [12, 10, 1638], 5), (20, .iload_n 3, 1, [], 0), (21, .dup2, 1, [], 9), (22, .iaload, 1, [], 5), (23, .iconst 1, 1, [], 2), (24, .iadd, 1, [], 3), (25, .iastore, 1, [], 6), (26, .aload_n 0, 1, [], 0), (27, .getfield 100, 3, [12, 0, 1628], 5), (30, .ifCond .eq 7, 3, [21], 4), (33, .iconst 1, 1, [], 2), (34, .goto 4, 3, [22], 4), (37, .iconst 0, 1, [], 2), (38, .ireturn, 1, [], 8)])
def xm_137 : xr_M := (yX12_barnOf, cX12_barnOf, 3, (some .int), [], 1, [(0, .iconst 0, 1, [], 2), (1, .istore_n 1, 1, [], 1), (2, .iconst 0, 1, [], 2), (3, .istore_n 2, 1, [], 1), (4, .iload_n 2, 1, [], 0), (5, .bipush 6, 2, [], 2), (7, .if_icmp .ge 18, 3, [17], 4), (10, .iload_n 1, 1, [], 0), (11, .aload_n 0, 1, [], 0), (12, .bipush 24, 2, [], 2), (14, .iload_n 2, 1, [], 0), (15, .iadd, 1, [], 3), (16, .iaload, 1, [], 5), (17, .iadd, 1, [], 3), (18, .istore_n 1, 1, [], 1), (19, .iinc 2 1, 3, [], 1), (22, .goto (-18), 3, [4], 4), (25, .iload_n 1, 1, [], 0), (26, .ireturn, 1, [], 8)])
def xm_138 : xr_M := (yX12_best, cX12_best, 6, (some .int), [], 1, [(0, .aload_n 0, 1, [], 0), (1, .iconst 0, 1, [], 2), (2, .putfield 100, 3, [12, 0, 1628], 6), (5, .aload_n 0, 1, [], 0), (6, .iload_n 1, 1, [], 0), (7, .iconst 0, 1, [], 2), (8, .iconst 1, 1, [], 2), (9, .invokestatic 134, 3, [4, 161, 1625, 1626, 133, 1627], 7), (12, .ifCond .ne 7, 3, [11], 4), (15, .iconst 1, 1, [], 2), (16, .goto 4, 3, [12], 4), (19, .iconst 0, 1, [], 2), (20, .iconst 1, 1, [], 2), (21, .iconst 1, 1, [], 2), (22, .invokevirtual 173, 3, [3, 136, 12, 1788, 1790, 64, 133, 1791], 7), (25, .ifCond .eq 5, 3, [18], 4), (28, .iconst 0, 1, [], 2), (29, .ireturn, 1, [], 8), (30, .iconst (-1), 1, [], 2), (31, .istore_n 2, 1, [], 1), (32, .iconst 0, 1, [], 2), (33, .istore_n 3, 1, [], 1), (34, .aload_n 0, 1, [], 0), (35, .getfield 70, 3, [12, 30, 1658], 5), (38, .aload_n 0, 1, [], 0), (39, .getfield 73, 3, [12, 31, 1659], 5), (42, .invokestatic 305, 3, [4, 145, 1927, 1928, 133, 1929], 7), (45, .iconst 0, 1, [], 2), (46, .istore 4, 2, [], 1), (48, .iload 4, 2, [], 0), (50, .aload_n 0, 1, [], 0), (51, .getfield 23, 3, [12, 12, 1640], 5), (54, .iconst 1, 1, [], 2), (55, .iaload, 1, [], 5), (56, .iconst 1, 1, [], 2), (57, .iadd, 1, [], 3), (58, .aload_n 0, 1, [], 0), (59, .getfield 23, 3, [12, 12, 1640], 5), (62, .iconst 0, 1, [], 2), (63, .iaload, 1, [], 5), (64, .invokestatic 327, 3, [4, 176, 2043, 2044, 133, 2045], 7), (67, .if_icmp .ge 50, 3, [65], 4), (70, .aload_n 0, 1, [], 0), (71, .aload_n 0, 1, [], 0), (72, .getfield 73, 3, [12, 31, 1659], 5), (75, .iload 4, 2, [], 0), (77, .invokevirtual 330, 3, [3, 184, 12, 2046, 2048, 104, 133, 2049], 7), (80, .aload_n 0, 1, [], 0), (81, .aload_n 0, 1, [], 0), (82, .getfield 73, 3, [12, 31, 1659], 5), (85, .invokevirtual 334, 3, [3, 199, 12, 2050, 2052, 105, 133, 2053], 7), (88, .istore 5, 2, [], 1), (90, .iload 5, 2, [], 0), (92, .iload_n 2, 1, [], 0), (93, .if_icmp .gt 6, 3, [56], 4), (96, .goto 15, 3, [63], 4), (99, .iload 5, 2, [], 0), (101, .istore_n 2, 1, [], 1), (102, .aload_n 0, 1, [], 0), (103, .aload_n 0, 1, [], 0), (104, .getfield 73, 3, [12, 31, 1659], 5), (107, .invokevirtual 337, 3, [3, 149, 12, 2054, 2056, 106, 133, 2057], 7), (110, .istore_n 3, 1, [], 1), (111, .iinc 4 1, 3, [], 1), (114, .goto (-66), 3, [29], 4), (117, .iload_n 1, 1, [], 0), (118, .ifCond .ne 7, 3, [69], 4), (121, .iload_n 2, 1, [], 0), (122, .goto 4, 3, [70], 4), (125, .iload_n 3, 1, [], 0), (126, .ireturn, 1, [], 8)])
def xm_139 : xr_M := (yX12_blanks, cX12_blanks, 1, none, [], 0, [(0, .aload_n 0, 1, [], 0), (1, .aload_n 0, 1, [], 0), (2, .getfield 109, 3, [12, 4, 1632], 5), (5, .invokevirtual 112, 3, [3, 144, 12, 1800, 1802, 67, 133, 1803], 7), (8, .bipush 32, 2, [], 2), (10, .if_icmp .ne 16, 3, [13], 4), (13, .aload_n 0, 1, [], 0), (14, .dup, 1, [], 9), (15, .getfield 109, 3, [12, 4, 1632], 5), (18, .iconst 1, 1, [], 2), (19, .iadd, 1, [], 3), (20, .putfield 109, 3, [12, 4, 1632], 6), (23, .goto (-23), 3, [0], 4), (26, .return_, 1, [], 8)])
def xm_140 : xr_M := (yX12_blight, cX12_blight, 5, (some .int), [], 4, [(0, .aload_n 0, 1, [], 0), (1, .iconst 0, 1, [], 2), (2, .putfield 100, 3, [12, 0, 1628], 6), (5, .aload_n 0, 1, [], 0), (6, .iload_n 2, 1, [], 0), (7, .iconst 0, 1, [], 2), (8, .bipush 16, 2, [], 2), (10, .invokestatic 134, 3, [4, 161, 1625, 1626, 133, 1627], 7), (13, .ifCond .eq 23, 3, [19], 4), (16, .iload_n 3, 1, [], 0), (17, .iconst 1, 1, [], 2), (18, .bipush 20, 2, [], 2), (20, .invokestatic 134, 3, [4, 161, 1625, 1626, 133, 1627], 7), (23, .ifCond .eq 13, 3, [19], 4), (26, .iload 4, 2, [], 0), (28, .iconst 0, 1, [], 2), (29, .iconst 2, 1, [], 2), (30, .invokestatic 134, 3, [4, 161, 1625, 1626, 133, 1627], 7), (33, .ifCond .ne 7, 3, [21], 4), (36, .iconst 1, 1, [], 2), (37, .goto 4, 3, [22], 4), (40, .iconst 0, 1, [], 2), (41, .iconst 1, 1, [], 2), (42, .iconst 1, 1, [], 2), (43, .invokevirtual 173, 3, [3, 136, 12, 1788, 1790, 64, 133, 1791], 7), (46, .ifCond .eq 5, 3, [28], 4), (49, .iconst 0, 1, [], 2), (50, .ireturn, 1, [], 8), (51, .aload_n 0, 1, [], 0), (52, .iload_n 1, 1, [], 0), (53, .iload_n 2, 1, [], 0), (54, .iload_n 3, 1, [], 0), (55, .invokevirtual 384, 3, [3, 141, 12, 2142, 2144, 116, 133, 2145], 7), (58, .iload 4, 2, [], 0), (60, .ifCond .ne 10, 3, [38], 4), (63, .aload_n 0, 1, [], 0), (64, .getfield 374, 3, [12, 46, 1674], 5), (67, .goto 20, 3, [46], 4), (70, .iload 4, 2, [], 0), (72, .iconst 1, 1, [], 2), (73, .if_icmp .ne 10, 3, [44], 4), (76, .aload_n 0, 1, [], 0), (77, .getfield 377, 3, [12, 47, 1675], 5), (80, .goto 7, 3, [46], 4), (83, .aload_n 0, 1, [], 0), (84, .getfield 380, 3, [12, 48, 1676], 5), (87, .ireturn, 1, [], 8)])
def xm_141 : xr_M := (yX12_blights, cX12_blights, 7, none, [], 3, [(0, .aload_n 0, 1, [], 0), (1, .getfield 70, 3, [12, 30, 1658], 5), (4, .aload_n 0, 1, [], 0), (5, .getfield 73, 3, [12, 31, 1659], 5), (8, .invokestatic 305, 3, [4, 145, 1927, 1928, 133, 1929], 7), (11, .aload_n 0, 1, [], 0), (12, .iload_n 1, 1, [], 0), (13, .putfield 371, 3, [12, 45, 1673], 6), (16, .aload_n 0, 1, [], 0), (17, .iconst 0, 1, [], 2), (18, .putfield 374, 3, [12, 46, 1674], 6), (21, .aload_n 0, 1, [], 0), (22, .iconst 0, 1, [], 2), (23, .putfield 377, 3, [12, 47, 1675], 6), (26, .aload_n 0, 1, [], 0), (27, .iconst 0, 1, [], 2), (28, .putfield 380, 3, [12, 48, 1676], 6), (31, .iconst 0, 1, [], 2), (32, .istore 4, 2, [], 1), (34, .iload 4, 2, [], 0), (36, .iload_n 3, 1, [], 0), (37, .if_icmp .ge 197, 3, [127], 4), (40, .aload_n 0, 1, [], 0), (41, .aload_n 0, 1, [], 0), (42, .getfield 73, 3, [12, 31, 1659], 5), (45, .invokevirtual 278, 3, [3, 169, 12, 1942, 1944, 94, 133, 1945], 7), (48, .iconst 0, 1, [], 2), (49, .istore 5, 2, [], 1), (51, .iload 5, 2, [], 0), (53, .aload_n 0, 1, [], 0), (54, .getfield 23, 3, [12, 12, 1640], 5), (57, .iconst 0, 1, [], 2), (58, .iaload, 1, [], 5), (59, .if_icmp .ge 150, 3, [113], 4), (62, .aload_n 0, 1, [], 0), (63, .aload_n 0, 1, [], 0), (64, .getfield 371, 3, [12, 45, 1673], 5), (67, .ldc_w 383, 3, [], 9), (70, .imul, 1, [], 3), (71, .sipush 12345, 3, [], 2), (74, .iadd, 1, [], 3), (75, .putfield 371, 3, [12, 45, 1673], 6), (78, .aload_n 0, 1, [], 0), (79, .getfield 371, 3, [12, 45, 1673], 5), (82, .bipush 16, 2, [], 2), (84, .ishr, 1, [], 9), (85, .bipush 15, 2, [], 2), (87, .iand, 1, [], 3), (88, .iload_n 2, 1, [], 0), (89, .if_icmp .ge 7, 3, [52], 4), (92, .iconst 1, 1, [], 2), (93, .goto 4, 3, [53], 4), (96, .iconst 0, 1, [], 2), (97, .istore 6, 2, [], 1), (99, .aload_n 0, 1, [], 0), (100, .getfield 73, 3, [12, 31, 1659], 5), (103, .bipush 6, 2, [], 2), (105, .iload 5, 2, [], 0), (107, .iadd, 1, [], 3), (108, .iaload, 1, [], 5), (109, .iconst (-1), 1, [], 2), (110, .if_icmp .ne 6, 3, [63], 4), (113, .goto 90, 3, [111], 4), (116, .aload_n 0, 1, [], 0), (117, .dup, 1, [], 9), (118, .getfield 380, 3, [12, 48, 1676], 5), (121, .iload 6, 2, [], 0), (123, .ifCond .eq 7, 3, [70], 4), (126, .iconst 1, 1, [], 2), (127, .goto 4, 3, [71], 4), (130, .iconst 0, 1, [], 2), (131, .iadd, 1, [], 3), (132, .putfield 380, 3, [12, 48, 1676], 6), (135, .aload_n 0, 1, [], 0), (136, .dup, 1, [], 9), (137, .getfield 374, 3, [12, 46, 1674], 5), (140, .iload 6, 2, [], 0), (142, .ifCond .eq 7, 3, [80], 4), (145, .iconst 0, 1, [], 2), (146, .goto 10, 3, [84], 4), (149, .aload_n 0, 1, [], 0), (150, .getfield 82, 3, [12, 39, 1667], 5), (153, .iload 5, 2, [], 0), (155, .iaload, 1, [], 5), (156, .iadd, 1, [], 3), (157, .putfield 374, 3, [12, 46, 1674], 6), (160, .aload_n 0, 1, [], 0), (161, .dup, 1, [], 9), (162, .getfield 377, 3, [12, 47, 1675], 5), (165, .iload 6, 2, [], 0), (167, .ifCond .eq 7, 3, [93], 4), (170, .iconst 0, 1, [], 2), (171, .goto 28, 3, [109], 4), (174, .aload_n 0, 1, [], 0), (175, .getfield 82, 3, [12, 39, 1667], 5), (178, .iload 5, 2, [], 0), (180, .iaload, 1, [], 5), (181, .aload_n 0, 1, [], 0), (182, .getfield 40, 3, [12, 17, 1645], 5), (185, .aload_n 0, 1, [], 0), (186, .getfield 73, 3, [12, 31, 1659], 5), (189, .bipush 6, 2, [], 2), (191, .iload 5, 2, [], 0), (193, .iadd, 1, [], 3), (194, .iaload, 1, [], 5), (195, .aaload, 1, [], 5), (196, .iconst 2, 1, [], 2), (197, .iaload, 1, [], 5), (198, .imul, 1, [], 3), (199, .iadd, 1, [], 3), (200, .putfield 377, 3, [12, 47, 1675], 6), (203, .iinc 5 1, 3, [], 1), (206, .goto (-155), 3, [28], 4), (209, .aload_n 0, 1, [], 0), (210, .aload_n 0, 1, [], 0), (211, .getfield 73, 3, [12, 31, 1659], 5), (214, .invokevirtual 282, 3, [3, 133, 12, 1961, 1963, 98, 133, 1964], 7), (217, .aload_n 0, 1, [], 0), (218, .getfield 73, 3, [12, 31, 1659], 5), (221, .bipush 70, 2, [], 2), (223, .dup2, 1, [], 9), (224, .iaload, 1, [], 5), (225, .iconst 1, 1, [], 2), (226, .iadd, 1, [], 3), (227, .iastore, 1, [], 6), (228, .iinc 4 1, 3, [], 1), (231, .goto (-197), 3, [19], 4), (234, .return_, 1, [], 8)])
def xm_142 : xr_M := (yX12_book, cX12_book, 6, (some .int), [], 1, [(0, .aload_n 0, 1, [], 0), (1, .iconst 0, 1, [], 2), (2, .putfield 100, 3, [12, 0, 1628], 6), (5, .aload_n 0, 1, [], 0), (6, .iload_n 1, 1, [], 0), (7, .iconst 0, 1, [], 2), (8, .aload_n 0, 1, [], 0), (9, .getfield 103, 3, [12, 1, 1629], 5), (12, .invokestatic 134, 3, [4, 161, 1625, 1626, 133, 1627], 7), (15, .ifCond .eq 9, 3, [13], 4), (18, .iload_n 1, 1, [], 0), (19, .bipush 100, 2, [], 2), (21, .if_icmp .le 7, 3, [15], 4), (24, .iconst 1, 1, [], 2), (25, .goto 4, 3, [16], 4), (28, .iconst 0, 1, [], 2), (29, .iconst 1, 1, [], 2), (30, .iconst 1, 1, [], 2), (31, .invokevirtual 173, 3, [3, 136, 12, 1788, 1790, 64, 133, 1791], 7), (34, .ifCond .eq 5, 3, [22], 4), (37, .iconst 0, 1, [], 2), (38, .ireturn, 1, [], 8), (39, .aload_n 0, 1, [], 0), (40, .iload_n 1, 1, [], 0), (41, .invokevirtual 177, 3, [3, 188, 12, 1792, 1794, 65, 133, 1795], 7), (44, .iconst 0, 1, [], 2), (45, .istore_n 2, 1, [], 1), (46, .aload_n 0, 1, [], 0), (47, .getfield 116, 3, [12, 5, 1633], 5), (50, .ifCond .ne 139, 3, [102], 4), (53, .aload_n 0, 1, [], 0), (54, .getfield 109, 3, [12, 4, 1632], 5), (57, .aload_n 0, 1, [], 0), (58, .getfield 106, 3, [12, 2, 1630], 5), (61, .if_icmp .ge 128, 3, [102], 4), (64, .aload_n 0, 1, [], 0), (65, .getfield 109, 3, [12, 4, 1632], 5), (68, .istore_n 3, 1, [], 1), (69, .aload_n 0, 1, [], 0), (70, .invokevirtual 265, 3, [], 7), (73, .istore 4, 2, [], 1), (75, .iconst 0, 1, [], 2), (76, .istore 5, 2, [], 1), (78, .iload 5, 2, [], 0), (80, .iload_n 2, 1, [], 0), (81, .if_icmp .ge 36, 3, [63], 4), (84, .aload_n 0, 1, [], 0), (85, .getfield 116, 3, [12, 5, 1633], 5), (88, .ifCond .ne 23, 3, [61], 4), (91, .aload_n 0, 1, [], 0), (92, .getfield 58, 3, [12, 25, 1653], 5), (95, .iload 5, 2, [], 0), (97, .aaload, 1, [], 5), (98, .iconst 0, 1, [], 2), (99, .iaload, 1, [], 5), (100, .iload 4, 2, [], 0), (102, .if_icmp .ne 9, 3, [61], 4), (105, .aload_n 0, 1, [], 0), (106, .iconst 2, 1, [], 2), (107, .iload_n 3, 1, [], 0), (108, .invokevirtual 129, 3, [], 7), (111, .iinc 5 1, 3, [], 1), (114, .goto (-36), 3, [43], 4), (117, .aload_n 0, 1, [], 0), (118, .getfield 116, 3, [12, 5, 1633], 5), (121, .ifCond .ne 15, 3, [73], 4), (124, .iload_n 2, 1, [], 0), (125, .bipush 6, 2, [], 2), (127, .if_icmp .ne 9, 3, [73], 4), (130, .aload_n 0, 1, [], 0), (131, .iconst 3, 1, [], 2), (132, .iload_n 3, 1, [], 0), (133, .invokevirtual 129, 3, [], 7), (136, .aload_n 0, 1, [], 0), (137, .iconst 0, 1, [], 2), (138, .sipush 9999, 3, [], 2), (141, .invokevirtual 165, 3, [], 7), (144, .istore 5, 2, [], 1), (146, .aload_n 0, 1, [], 0), (147, .bipush 59, 2, [], 2), (149, .invokevirtual 169, 3, [], 7), (152, .aload_n 0, 1, [], 0), (153, .getfield 116, 3, [12, 5, 1633], 5), (156, .ifCond .ne 26, 3, [99], 4), (159, .aload_n 0, 1, [], 0), (160, .getfield 58, 3, [12, 25, 1653], 5), (163, .iload_n 2, 1, [], 0), (164, .aaload, 1, [], 5), (165, .iconst 0, 1, [], 2), (166, .iload 4, 2, [], 0), (168, .iastore, 1, [], 6), (169, .aload_n 0, 1, [], 0), (170, .getfield 58, 3, [12, 25, 1653], 5), (173, .iload_n 2, 1, [], 0), (174, .aaload, 1, [], 5), (175, .iconst 1, 1, [], 2), (176, .iload 5, 2, [], 0), (178, .iastore, 1, [], 6), (179, .iinc 2 1, 3, [], 1), (182, .aload_n 0, 1, [], 0), (183, .invokevirtual 122, 3, [3, 139, 12, 1796, 1798, 66, 133, 1799], 7), (186, .goto (-140), 3, [27], 4), (189, .aload_n 0, 1, [], 0), (190, .getfield 116, 3, [12, 5, 1633], 5), (193, .ifCond .eq 8, 3, [108], 4), (196, .aload_n 0, 1, [], 0), (197, .invokevirtual 183, 3, [], 7), (200, .ireturn, 1, [], 8), (201, .aload_n 0, 1, [], 0), (202, .iconst (-1), 1, [], 2), (203, .putfield 9, 3, [12, 3, 1631], 6), (206, .aload_n 0, 1, [], 0), (207, .iload_n 2, 1, [], 0), (208, .putfield 193, 3, [12, 34, 1662], 6), (211, .aload_n 0, 1, [], 0), (212, .getfield 58, 3, [12, 25, 1653], 5), (215, .aload_n 0, 1, [], 0), (216, .getfield 55, 3, [12, 24, 1652], 5), (219, .iload_n 2, 1, [], 0), (220, .invokestatic 186, 3, [4, 168, 1622, 1623, 133, 1624], 7), (223, .iload_n 2, 1, [], 0), (224, .ireturn, 1, [], 8)])
def xm_143 : xr_M := (yX12_byLaw, cX12_byLaw, 3, (some .int), [], 0, [(0, .aload_n 0, 1, [], 0), (1, .getfield 190, 3, [12, 20, 1648], 5), (4, .ifCond .ne 26, 3, [20], 4), (7, .aload_n 0, 1, [], 0), (8, .getfield 64, 3, [12, 27, 1655], 5), (11, .iconst 0, 1, [], 2), (12, .iaload, 1, [], 5), (13, .aload_n 0, 1, [], 0), (14, .getfield 64, 3, [12, 27, 1655], 5), (17, .iconst 1, 1, [], 2), (18, .iaload, 1, [], 5), (19, .iadd, 1, [], 3), (20, .aload_n 0, 1, [], 0), (21, .getfield 64, 3, [12, 27, 1655], 5), (24, .iconst 5, 1, [], 2), (25, .iaload, 1, [], 5), (26, .iconst 4, 1, [], 2), (27, .idiv, 1, [], 9), (28, .isub, 1, [], 3), (29, .ireturn, 1, [], 8), (30, .iconst 0, 1, [], 2), (31, .istore_n 1, 1, [], 1), (32, .iconst 0, 1, [], 2), (33, .istore_n 2, 1, [], 1), (34, .iload_n 2, 1, [], 0), (35, .aload_n 0, 1, [], 0), (36, .getfield 190, 3, [12, 20, 1648], 5), (39, .if_icmp .ge 104, 3, [91], 4), (42, .aload_n 0, 1, [], 0), (43, .getfield 49, 3, [12, 22, 1650], 5), (46, .iload_n 2, 1, [], 0), (47, .aaload, 1, [], 5), (48, .iconst 0, 1, [], 2), (49, .iaload, 1, [], 5), (50, .iconst 2, 1, [], 2), (51, .if_icmp .ge 50, 3, [65], 4), (54, .aload_n 0, 1, [], 0), (55, .getfield 61, 3, [12, 26, 1654], 5), (58, .iload_n 1, 1, [], 0), (59, .aload_n 0, 1, [], 0), (60, .getfield 49, 3, [12, 22, 1650], 5), (63, .iload_n 2, 1, [], 0), (64, .aaload, 1, [], 5), (65, .iconst 0, 1, [], 2), (66, .iaload, 1, [], 5), (67, .ifCond .ne 14, 3, [53], 4), (70, .aload_n 0, 1, [], 0), (71, .getfield 49, 3, [12, 22, 1650], 5), (74, .iload_n 2, 1, [], 0), (75, .aaload, 1, [], 5), (76, .iconst 1, 1, [], 2), (77, .iaload, 1, [], 5), (78, .goto 16, 3, [62], 4), (81, .aload_n 0, 1, [], 0), (82, .getfield 64, 3, [12, 27, 1655], 5), (85, .aload_n 0, 1, [], 0), (86, .getfield 49, 3, [12, 22, 1650], 5), (89, .iload_n 2, 1, [], 0), (90, .aaload, 1, [], 5), (91, .iconst 1, 1, [], 2), (92, .iaload, 1, [], 5), (93, .iaload, 1, [], 5), (94, .iastore, 1, [], 6), (95, .iinc 1 1, 3, [], 1), (98, .goto 39, 3, [89], 4), (101, .iinc 1 (-1), 3, [], 1), (104, .aload_n 0, 1, [], 0), (105, .getfield 61, 3, [12, 26, 1654], 5), (108, .iload_n 1, 1, [], 0), (109, .iconst 1, 1, [], 2), (110, .isub, 1, [], 3), (111, .aload_n 0, 1, [], 0), (112, .getfield 49, 3, [12, 22, 1650], 5), (115, .iload_n 2, 1, [], 0), (116, .aaload, 1, [], 5), (117, .iconst 0, 1, [], 2), (118, .iaload, 1, [], 5), (119, .aload_n 0, 1, [], 0), (120, .getfield 61, 3, [12, 26, 1654], 5), (123, .iload_n 1, 1, [], 0), (124, .iconst 1, 1, [], 2), (125, .isub, 1, [], 3), (126, .iaload, 1, [], 5), (127, .aload_n 0, 1, [], 0), (128, .getfield 61, 3, [12, 26, 1654], 5), (131, .iload_n 1, 1, [], 0), (132, .iaload, 1, [], 5), (133, .invokestatic 239, 3, [], 7), (136, .iastore, 1, [], 6), (137, .iinc 2 1, 3, [], 1), (140, .goto (-106), 3, [24], 4), (143, .aload_n 0, 1, [], 0), (144, .getfield 61, 3, [12, 26, 1654], 5), (147, .iconst 0, 1, [], 2), (148, .iaload, 1, [], 5), (149, .ireturn, 1, [], 8)])
def xm_144 : xr_M := (yX12_byteAt, cX12_byteAt, 2, (some .int), [], 1, [(0, .iload_n 1, 1, [], 0), (1, .aload_n 0, 1, [], 0), (2, .getfield 106, 3, [12, 2, 1630], 5), (5, .if_icmp .lt 7, 3, [6], 4), (8, .iconst (-1), 1, [], 2), (9, .goto 9, 3, [10], 4), (12, .aload_n 0, 1, [], 0), (13, .getfield 13, 3, [12, 9, 1637], 5), (16, .iload_n 1, 1, [], 0), (17, .iaload, 1, [], 5), (18, .ireturn, 1, [], 8)])
def xm_145 : xr_M := (yX12_copies, cX12_copies, 3, none, [], 2, [(0, .iconst 0, 1, [], 2), (1, .istore_n 2, 1, [], 1), (2, .iload_n 2, 1, [], 0), (3, .bipush 72, 2, [], 2), (5, .if_icmp .ge 15, 3, [13], 4), (8, .aload_n 1, 1, [], 0), (9, .iload_n 2, 1, [], 0), (10, .aload_n 0, 1, [], 0), (11, .iload_n 2, 1, [], 0), (12, .iaload, 1, [], 5), (13, .iastore, 1, [], 6), (14, .iinc 2 1, 3, [], 1), (17, .goto (-15), 3, [2], 4), (20, .return_, 1, [], 8)])
def xm_146 : xr_M := (yX12_count, cX12_count, 2, (some .int), [], 1, [(0, .aload_n 0, 1, [], 0), (1, .iconst 0, 1, [], 2), (2, .putfield 100, 3, [12, 0, 1628], 6), (5, .iload_n 1, 1, [], 0), (6, .ifCond .ne 10, 3, [8], 4), (9, .aload_n 0, 1, [], 0), (10, .getfield 202, 3, [12, 37, 1665], 5), (13, .goto 28, 3, [21], 4), (16, .iload_n 1, 1, [], 0), (17, .iconst 1, 1, [], 2), (18, .if_icmp .ne 10, 3, [14], 4), (21, .aload_n 0, 1, [], 0), (22, .getfield 103, 3, [12, 1, 1629], 5), (25, .goto 16, 3, [21], 4), (28, .iload_n 1, 1, [], 0), (29, .iconst 2, 1, [], 2), (30, .if_icmp .ne 10, 3, [20], 4), (33, .aload_n 0, 1, [], 0), (34, .getfield 196, 3, [12, 35, 1663], 5), (37, .goto 4, 3, [21], 4), (40, .iconst (-1), 1, [], 2), (41, .ireturn, 1, [], 8)])
def xm_147 : xr_M := (yX12_crosses, cX12_crosses, 3, (some .int), [], 2, [(0, .aload_n 0, 1, [], 0), (1, .getfield 23, 3, [12, 12, 1640], 5), (4, .iconst 5, 1, [], 2), (5, .iaload, 1, [], 5), (6, .tableswitch 52 0 3 #[30, 34, 38, 42], 30, [25, 5, 9, 13, 17], 9), (36, .iload_n 1, 1, [], 0), (37, .iload_n 2, 1, [], 0), (38, .ixor, 1, [], 9), (39, .ireturn, 1, [], 8), (40, .iload_n 1, 1, [], 0), (41, .iload_n 2, 1, [], 0), (42, .iand, 1, [], 3), (43, .ireturn, 1, [], 8), (44, .iload_n 1, 1, [], 0), (45, .iload_n 2, 1, [], 0), (46, .ior, 1, [], 9), (47, .ireturn, 1, [], 8), (48, .iload_n 1, 1, [], 0), (49, .bipush 7, 2, [], 2), (51, .iand, 1, [], 3), (52, .iload_n 2, 1, [], 0), (53, .bipush 56, 2, [], 2), (55, .iand, 1, [], 3), (56, .ior, 1, [], 9), (57, .ireturn, 1, [], 8), (58, .iload_n 1, 1, [], 0), (59, .iconst 1, 1, [], 2), (60, .ishl, 1, [], 9), (61, .bipush 63, 2, [], 2), (63, .iand, 1, [], 3), (64, .iload_n 1, 1, [], 0), (65, .iconst 5, 1, [], 2), (66, .ishr, 1, [], 9), (67, .ior, 1, [], 9), (68, .iload_n 2, 1, [], 0), (69, .ixor, 1, [], 9), (70, .ireturn, 1, [], 8)])
def xm_148 : xr_M := (yX12_crossing, cX12_crossing, 3, (some .int), [], 2, [(0, .aload_n 0, 1, [], 0), (1, .iconst 0, 1, [], 2), (2, .putfield 100, 3, [12, 0, 1628], 6), (5, .aload_n 0, 1, [], 0), (6, .iload_n 1, 1, [], 0), (7, .iconst 0, 1, [], 2), (8, .bipush 63, 2, [], 2), (10, .invokestatic 134, 3, [4, 161, 1625, 1626, 133, 1627], 7), (13, .ifCond .eq 13, 3, [14], 4), (16, .iload_n 2, 1, [], 0), (17, .iconst 0, 1, [], 2), (18, .bipush 63, 2, [], 2), (20, .invokestatic 134, 3, [4, 161, 1625, 1626, 133, 1627], 7), (23, .ifCond .ne 7, 3, [16], 4), (26, .iconst 1, 1, [], 2), (27, .goto 4, 3, [17], 4), (30, .iconst 0, 1, [], 2), (31, .iconst 1, 1, [], 2), (32, .iconst 1, 1, [], 2), (33, .invokevirtual 173, 3, [3, 136, 12, 1788, 1790, 64, 133, 1791], 7), (36, .ifCond .eq 5, 3, [23], 4), (39, .iconst 0, 1, [], 2), (40, .ireturn, 1, [], 8), (41, .aload_n 0, 1, [], 0), (42, .iload_n 1, 1, [], 0), (43, .iload_n 2, 1, [], 0), (44, .invokevirtual 347, 3, [3, 147, 12, 2078, 2080, 109, 133, 2081], 7), (47, .ireturn, 1, [], 8)])
def xm_149 : xr_M := (yX12_digitsOf, cX12_digitsOf, 4, (some .int), [], 1, [(0, .iconst 0, 1, [], 2), (1, .istore_n 2, 1, [], 1), (2, .iconst 0, 1, [], 2), (3, .istore_n 3, 1, [], 1), (4, .iload_n 3, 1, [], 0), (5, .aload_n 0, 1, [], 0), (6, .getfield 23, 3, [12, 12, 1640], 5), (9, .iconst 0, 1, [], 2), (10, .iaload, 1, [], 5), (11, .if_icmp .ge 23, 3, [24], 4), (14, .bipush 10, 2, [], 2), (16, .iload_n 2, 1, [], 0), (17, .imul, 1, [], 3), (18, .aload_n 1, 1, [], 0), (19, .bipush 6, 2, [], 2), (21, .iload_n 3, 1, [], 0), (22, .iadd, 1, [], 3), (23, .iaload, 1, [], 5), (24, .iadd, 1, [], 3), (25, .iconst 1, 1, [], 2), (26, .iadd, 1, [], 3), (27, .istore_n 2, 1, [], 1), (28, .iinc 3 1, 3, [], 1), (31, .goto (-27), 3, [4], 4), (34, .iload_n 2, 1, [], 0), (35, .ireturn, 1, [], 8)])
def xm_150 : xr_M := (yX12_drowned, cX12_drowned, 1, (some .int), [], 0, [(0, .aload_n 0, 1, [], 0), (1, .iconst 0, 1, [], 2), (2, .putfield 100, 3, [12, 0, 1628], 6), (5, .aload_n 0, 1, [], 0), (6, .aload_n 0, 1, [], 0), (7, .getfield 70, 3, [12, 30, 1658], 5), (10, .invokevirtual 318, 3, [3, 151, 12, 2020, 2022, 102, 133, 2023], 7), (13, .ireturn, 1, [], 8)])
def xm_151 : xr_M := (yX12_drownedOf, cX12_drownedOf, 4, (some .int), [], 1, [(0, .iconst 0, 1, [], 2), (1, .istore_n 2, 1, [], 1), (2, .iconst 0, 1, [], 2), (3, .istore_n 3, 1, [], 1), (4, .iload_n 3, 1, [], 0), (5, .aload_n 0, 1, [], 0), (6, .getfield 23, 3, [12, 12, 1640], 5), (9, .iconst 0, 1, [], 2), (10, .iaload, 1, [], 5), (11, .if_icmp .ge 53, 3, [44], 4), (14, .iload_n 2, 1, [], 0), (15, .aload_n 1, 1, [], 0), (16, .bipush 6, 2, [], 2), (18, .iload_n 3, 1, [], 0), (19, .iadd, 1, [], 3), (20, .iaload, 1, [], 5), (21, .iconst (-1), 1, [], 2), (22, .if_icmp .eq 33, 3, [39], 4), (25, .aload_n 0, 1, [], 0), (26, .aload_n 1, 1, [], 0), (27, .iload_n 3, 1, [], 0), (28, .invokevirtual 250, 3, [], 7), (31, .iconst 2, 1, [], 2), (32, .aload_n 0, 1, [], 0), (33, .getfield 40, 3, [12, 17, 1645], 5), (36, .aload_n 1, 1, [], 0), (37, .bipush 6, 2, [], 2), (39, .iload_n 3, 1, [], 0), (40, .iadd, 1, [], 3), (41, .iaload, 1, [], 5), (42, .aaload, 1, [], 5), (43, .iconst 1, 1, [], 2), (44, .iaload, 1, [], 5), (45, .imul, 1, [], 3), (46, .if_icmp .le 9, 3, [39], 4), (49, .iconst 1, 1, [], 2), (50, .iload_n 3, 1, [], 0), (51, .ishl, 1, [], 9), (52, .goto 4, 3, [40], 4), (55, .iconst 0, 1, [], 2), (56, .ior, 1, [], 9), (57, .istore_n 2, 1, [], 1), (58, .iinc 3 1, 3, [], 1), (61, .goto (-57), 3, [4], 4), (64, .iload_n 2, 1, [], 0), (65, .ireturn, 1, [], 8)])
def xm_152 : xr_M := (yX12_ear, cX12_ear, 6, (some .int), [], 1, [(0, .aload_n 0, 1, [], 0), (1, .iconst 0, 1, [], 2), (2, .putfield 100, 3, [12, 0, 1628], 6), (5, .aload_n 0, 1, [], 0), (6, .iload_n 1, 1, [], 0), (7, .iconst 0, 1, [], 2), (8, .iconst 1, 1, [], 2), (9, .invokestatic 134, 3, [4, 161, 1625, 1626, 133, 1627], 7), (12, .ifCond .ne 7, 3, [11], 4), (15, .iconst 1, 1, [], 2), (16, .goto 4, 3, [12], 4), (19, .iconst 0, 1, [], 2), (20, .iconst 1, 1, [], 2), (21, .iconst 1, 1, [], 2), (22, .invokevirtual 173, 3, [3, 136, 12, 1788, 1790, 64, 133, 1791], 7), (25, .ifCond .eq 5, 3, [18], 4), (28, .iconst 0, 1, [], 2), (29, .ireturn, 1, [], 8), (30, .iconst (-1), 1, [], 2), (31, .istore_n 2, 1, [], 1), (32, .iconst 0, 1, [], 2), (33, .istore_n 3, 1, [], 1), (34, .iconst 0, 1, [], 2), (35, .istore 4, 2, [], 1), (37, .iload 4, 2, [], 0), (39, .aload_n 0, 1, [], 0), (40, .getfield 23, 3, [12, 12, 1640], 5), (43, .iconst 0, 1, [], 2), (44, .iaload, 1, [], 5), (45, .if_icmp .ge 37, 3, [47], 4), (48, .aload_n 0, 1, [], 0), (49, .iload 4, 2, [], 0), (51, .invokevirtual 361, 3, [], 7), (54, .istore 5, 2, [], 1), (56, .iload_n 2, 1, [], 0), (57, .iconst (-1), 1, [], 2), (58, .if_icmp .eq 12, 3, [41], 4), (61, .iload 5, 2, [], 0), (63, .iload_n 3, 1, [], 0), (64, .if_icmp .lt 6, 3, [41], 4), (67, .goto 9, 3, [45], 4), (70, .iload 4, 2, [], 0), (72, .istore_n 2, 1, [], 1), (73, .iload 5, 2, [], 0), (75, .istore_n 3, 1, [], 1), (76, .iinc 4 1, 3, [], 1), (79, .goto (-42), 3, [24], 4), (82, .iload_n 1, 1, [], 0), (83, .ifCond .eq 8, 3, [52], 4), (86, .iload_n 2, 1, [], 0), (87, .iconst (-1), 1, [], 2), (88, .if_icmp .ne 7, 3, [54], 4), (91, .iload_n 2, 1, [], 0), (92, .goto 4, 3, [55], 4), (95, .iload_n 3, 1, [], 0), (96, .ireturn, 1, [], 8)])
def xm_153 : xr_M := (yX12_farm, cX12_farm, 2, (some .int), [], 1, [(0, .aload_n 0, 1, [], 0), (1, .iconst 0, 1, [], 2), (2, .putfield 100, 3, [12, 0, 1628], 6), (5, .aload_n 0, 1, [], 0), (6, .iload_n 1, 1, [], 0), (7, .iconst 0, 1, [], 2), (8, .aload_n 0, 1, [], 0), (9, .getfield 103, 3, [12, 1, 1629], 5), (12, .invokestatic 134, 3, [4, 161, 1625, 1626, 133, 1627], 7), (15, .ifCond .ne 7, 3, [12], 4), (18, .iconst 1, 1, [], 2), (19, .goto 4, 3, [13], 4), (22, .iconst 0, 1, [], 2), (23, .iconst 1, 1, [], 2), (24, .iconst 1, 1, [], 2), (25, .invokevirtual 173, 3, [3, 136, 12, 1788, 1790, 64, 133, 1791], 7), (28, .ifCond .eq 5, 3, [19], 4), (31, .iconst 0, 1, [], 2), (32, .ireturn, 1, [], 8), (33, .aload_n 0, 1, [], 0), (34, .iload_n 1, 1, [], 0), (35, .invokevirtual 177, 3, [3, 188, 12, 1792, 1794, 65, 133, 1795], 7), (38, .aload_n 0, 1, [], 0), (39, .invokevirtual 94, 3, [3, 192, 12, 1614, 1616, 62, 133, 1617], 7), (42, .aload_n 0, 1, [], 0), (43, .getfield 116, 3, [12, 5, 1633], 5), (46, .ifCond .ne 25, 3, [37], 4), (49, .aload_n 0, 1, [], 0), (50, .getfield 109, 3, [12, 4, 1632], 5), (53, .aload_n 0, 1, [], 0), (54, .getfield 106, 3, [12, 2, 1630], 5), (57, .if_icmp .ge 14, 3, [37], 4), (60, .aload_n 0, 1, [], 0), (61, .invokevirtual 180, 3, [], 7), (64, .aload_n 0, 1, [], 0), (65, .invokevirtual 122, 3, [3, 139, 12, 1796, 1798, 66, 133, 1799], 7), (68, .goto (-26), 3, [24], 4), (71, .aload_n 0, 1, [], 0), (72, .getfield 116, 3, [12, 5, 1633], 5), (75, .ifCond .eq 8, 3, [43], 4), (78, .aload_n 0, 1, [], 0), (79, .invokevirtual 183, 3, [], 7), (82, .ireturn, 1, [], 8), (83, .aload_n 0, 1, [], 0), (84, .iconst (-1), 1, [], 2), (85, .putfield 9, 3, [12, 3, 1631], 6), (88, .aload_n 0, 1, [], 0), (89, .invokevirtual 97, 3, [3, 187, 12, 1618, 1620, 63, 133, 1621], 7), (92, .aload_n 0, 1, [], 0), (93, .getfield 23, 3, [12, 12, 1640], 5), (96, .iconst 0, 1, [], 2), (97, .iaload, 1, [], 5), (98, .ireturn, 1, [], 8)])
def xm_154 : xr_M := (yX12_fault, cX12_fault, 1, (some .int), [], 0, [(0, .aload_n 0, 1, [], 0), (1, .iconst 0, 1, [], 2), (2, .putfield 100, 3, [12, 0, 1628], 6), (5, .aload_n 0, 1, [], 0), (6, .getfield 9, 3, [12, 3, 1631], 5), (9, .ireturn, 1, [], 8)])
def xm_155 : xr_M := (yX12_feed, cX12_feed, 8, (some .int), [], 5, [(0, .aload_n 0, 1, [], 0), (1, .iconst 0, 1, [], 2), (2, .putfield 100, 3, [12, 0, 1628], 6), (5, .aload_n 0, 1, [], 0), (6, .getfield 103, 3, [12, 1, 1629], 5), (9, .bipush 20, 2, [], 2), (11, .iadd, 1, [], 3), (12, .sipush 600, 3, [], 2), (15, .if_icmp .le 5, 3, [11], 4), (18, .iconst (-1), 1, [], 2), (19, .ireturn, 1, [], 8), (20, .iconst 0, 1, [], 2), (21, .istore 6, 2, [], 1), (23, .iload 6, 2, [], 0), (25, .bipush 20, 2, [], 2), (27, .if_icmp .ge 93, 3, [62], 4), (30, .iload 6, 2, [], 0), (32, .iconst 4, 1, [], 2), (33, .if_icmp .ge 7, 3, [21], 4), (36, .iload_n 1, 1, [], 0), (37, .goto 39, 3, [37], 4), (40, .iload 6, 2, [], 0), (42, .bipush 8, 2, [], 2), (44, .if_icmp .ge 7, 3, [26], 4), (47, .iload_n 2, 1, [], 0), (48, .goto 28, 3, [37], 4), (51, .iload 6, 2, [], 0), (53, .bipush 12, 2, [], 2), (55, .if_icmp .ge 7, 3, [31], 4), (58, .iload_n 3, 1, [], 0), (59, .goto 17, 3, [37], 4), (62, .iload 6, 2, [], 0), (64, .bipush 16, 2, [], 2), (66, .if_icmp .ge 8, 3, [36], 4), (69, .iload 4, 2, [], 0), (71, .goto 5, 3, [37], 4), (74, .iload 5, 2, [], 0), (76, .istore 7, 2, [], 1), (78, .aload_n 0, 1, [], 0), (79, .getfield 13, 3, [12, 9, 1637], 5), (82, .aload_n 0, 1, [], 0), (83, .getfield 103, 3, [12, 1, 1629], 5), (86, .iload 7, 2, [], 0), (88, .bipush 24, 2, [], 2), (90, .bipush 8, 2, [], 2), (92, .iload 6, 2, [], 0), (94, .iconst 4, 1, [], 2), (95, .irem, 1, [], 9), (96, .imul, 1, [], 3), (97, .isub, 1, [], 3), (98, .ishr, 1, [], 9), (99, .sipush 255, 3, [], 2), (102, .iand, 1, [], 3), (103, .iastore, 1, [], 6), (104, .aload_n 0, 1, [], 0), (105, .dup, 1, [], 9), (106, .getfield 103, 3, [12, 1, 1629], 5), (109, .iconst 1, 1, [], 2), (110, .iadd, 1, [], 3), (111, .putfield 103, 3, [12, 1, 1629], 6), (114, .iinc 6 1, 3, [], 1), (117, .goto (-94), 3, [13], 4), (120, .aload_n 0, 1, [], 0), (121, .getfield 103, 3, [12, 1, 1629], 5), (124, .ireturn, 1, [], 8)])
def xm_156 : xr_M := (yX12_field, cX12_field, 3, (some .int), [], 2, [(0, .aload_n 0, 1, [], 0), (1, .iconst 0, 1, [], 2), (2, .putfield 100, 3, [12, 0, 1628], 6), (5, .aload_n 0, 1, [], 0), (6, .aload_n 0, 1, [], 0), (7, .iload_n 1, 1, [], 0), (8, .invokevirtual 309, 3, [3, 162, 12, 1988, 1990, 99, 133, 1991], 7), (11, .ifCond .ne 7, 3, [10], 4), (14, .iconst 1, 1, [], 2), (15, .goto 4, 3, [11], 4), (18, .iconst 0, 1, [], 2), (19, .iconst 1, 1, [], 2), (20, .iconst 0, 1, [], 2), (21, .invokevirtual 173, 3, [3, 136, 12, 1788, 1790, 64, 133, 1791], 7), (24, .ifCond .ne 26, 3, [28], 4), (27, .aload_n 0, 1, [], 0), (28, .iload_n 2, 1, [], 0), (29, .iconst 0, 1, [], 2), (30, .iconst 4, 1, [], 2), (31, .invokestatic 134, 3, [4, 161, 1625, 1626, 133, 1627], 7), (34, .ifCond .ne 7, 3, [23], 4), (37, .iconst 1, 1, [], 2), (38, .goto 4, 3, [24], 4), (41, .iconst 0, 1, [], 2), (42, .iconst 2, 1, [], 2), (43, .iconst 1, 1, [], 2), (44, .invokevirtual 173, 3, [3, 136, 12, 1788, 1790, 64, 133, 1791], 7), (47, .ifCond .eq 5, 3, [30], 4), (50, .iconst 0, 1, [], 2), (51, .ireturn, 1, [], 8), (52, .iload_n 2, 1, [], 0), (53, .tableswitch 69 0 3 #[31, 40, 49, 59], 31, [58, 32, 39, 44, 51], 9), (84, .aload_n 0, 1, [], 0), (85, .getfield 70, 3, [12, 30, 1658], 5), (88, .iconst 0, 1, [], 2), (89, .iload_n 1, 1, [], 0), (90, .iadd, 1, [], 3), (91, .iaload, 1, [], 5), (92, .ireturn, 1, [], 8), (93, .aload_n 0, 1, [], 0), (94, .getfield 70, 3, [12, 30, 1658], 5), (97, .iload_n 1, 1, [], 0), (98, .invokestatic 246, 3, [], 7), (101, .ireturn, 1, [], 8), (102, .aload_n 0, 1, [], 0), (103, .getfield 70, 3, [12, 30, 1658], 5), (106, .bipush 6, 2, [], 2), (108, .iload_n 1, 1, [], 0), (109, .iadd, 1, [], 3), (110, .iaload, 1, [], 5), (111, .ireturn, 1, [], 8), (112, .aload_n 0, 1, [], 0), (113, .getfield 70, 3, [12, 30, 1658], 5), (116, .bipush 12, 2, [], 2), (118, .iload_n 1, 1, [], 0), (119, .iadd, 1, [], 3), (120, .iaload, 1, [], 5), (121, .ireturn, 1, [], 8), (122, .aload_n 0, 1, [], 0), (123, .aload_n 0, 1, [], 0), (124, .getfield 70, 3, [12, 30, 1658], 5), (127, .iload_n 1, 1, [], 0), (128, .invokevirtual 250, 3, [], 7), (131, .ireturn, 1, [], 8)])
def xm_157 : xr_M := (yX12_generation, cX12_generation, 5, (some .int), [], 1, [(0, .aload_n 0, 1, [], 0), (1, .iconst 0, 1, [], 2), (2, .putfield 100, 3, [12, 0, 1628], 6), (5, .aload_n 0, 1, [], 0), (6, .iload_n 1, 1, [], 0), (7, .iconst 0, 1, [], 2), (8, .bipush 63, 2, [], 2), (10, .invokestatic 134, 3, [4, 161, 1625, 1626, 133, 1627], 7), (13, .ifCond .ne 7, 3, [11], 4), (16, .iconst 1, 1, [], 2), (17, .goto 4, 3, [12], 4), (20, .iconst 0, 1, [], 2), (21, .iconst 1, 1, [], 2), (22, .iconst 1, 1, [], 2), (23, .invokevirtual 173, 3, [3, 136, 12, 1788, 1790, 64, 133, 1791], 7), (26, .ifCond .eq 5, 3, [18], 4), (29, .iconst 0, 1, [], 2), (30, .ireturn, 1, [], 8), (31, .aload_n 0, 1, [], 0), (32, .invokevirtual 350, 3, [3, 181, 12, 2086, 2088, 110, 133, 2089], 7), (35, .lstore_n 2, 1, [], 9), (36, .iconst 0, 1, [], 2), (37, .istore 4, 2, [], 1), (39, .iload 4, 2, [], 0), (41, .bipush 64, 2, [], 2), (43, .if_icmp .gt 28, 3, [42], 4), (46, .lload_n 2, 1, [], 9), (47, .iload_n 1, 1, [], 0), (48, .lshr, 1, [], 9), (49, .lconst 1, 1, [], 9), (50, .land, 1, [], 9), (51, .lconst 1, 1, [], 9), (52, .lcmp, 1, [], 9), (53, .ifCond .ne 6, 3, [36], 4), (56, .iload 4, 2, [], 0), (58, .ireturn, 1, [], 8), (59, .aload_n 0, 1, [], 0), (60, .lload_n 2, 1, [], 9), (61, .invokevirtual 354, 3, [3, 173, 12, 2090, 2092, 111, 133, 2093], 7), (64, .lstore_n 2, 1, [], 9), (65, .iinc 4 1, 3, [], 1), (68, .goto (-29), 3, [23], 4), (71, .iconst (-1), 1, [], 2), (72, .ireturn, 1, [], 8)])
def xm_158 : xr_M := (yX12_goes, cX12_goes, 5, none, [], 2, [(0, .iload_n 1, 1, [], 0), (1, .istore_n 3, 1, [], 1), (2, .iload_n 3, 1, [], 0), (3, .iload_n 2, 1, [], 0), (4, .if_icmp .ge 151, 3, [88], 4), (7, .aload_n 0, 1, [], 0), (8, .getfield 292, 3, [12, 40, 1668], 5), (11, .sipush 200, 3, [], 2), (14, .if_icmp .ge 141, 3, [88], 4), (17, .aload_n 0, 1, [], 0), (18, .dup, 1, [], 9), (19, .getfield 292, 3, [12, 40, 1668], 5), (22, .iconst 1, 1, [], 2), (23, .iadd, 1, [], 3), (24, .putfield 292, 3, [12, 40, 1668], 6), (27, .aload_n 0, 1, [], 0), (28, .getfield 67, 3, [12, 28, 1656], 5), (31, .iload_n 3, 1, [], 0), (32, .aaload, 1, [], 5), (33, .iconst 0, 1, [], 2), (34, .iaload, 1, [], 5), (35, .iconst 4, 1, [], 2), (36, .if_icmp .ne 53, 3, [51], 4), (39, .iconst 0, 1, [], 2), (40, .istore 4, 2, [], 1), (42, .iload 4, 2, [], 0), (44, .aload_n 0, 1, [], 0), (45, .getfield 67, 3, [12, 28, 1656], 5), (48, .iload_n 3, 1, [], 0), (49, .aaload, 1, [], 5), (50, .iconst 1, 1, [], 2), (51, .iaload, 1, [], 5), (52, .if_icmp .ge 34, 3, [50], 4), (55, .aload_n 0, 1, [], 0), (56, .getfield 292, 3, [12, 40, 1668], 5), (59, .sipush 200, 3, [], 2), (62, .if_icmp .ge 24, 3, [50], 4), (65, .aload_n 0, 1, [], 0), (66, .iload_n 3, 1, [], 0), (67, .iconst 1, 1, [], 2), (68, .iadd, 1, [], 3), (69, .aload_n 0, 1, [], 0), (70, .getfield 67, 3, [12, 28, 1656], 5), (73, .iload_n 3, 1, [], 0), (74, .aaload, 1, [], 5), (75, .iconst 3, 1, [], 2), (76, .iaload, 1, [], 5), (77, .invokevirtual 295, 3, [3, 158, 12, 1930, 1932, 91, 133, 1933], 7), (80, .iinc 4 1, 3, [], 1), (83, .goto (-41), 3, [25], 4), (86, .goto 57, 3, [80], 4), (89, .aload_n 0, 1, [], 0), (90, .aload_n 0, 1, [], 0), (91, .getfield 70, 3, [12, 30, 1658], 5), (94, .aload_n 0, 1, [], 0), (95, .getfield 67, 3, [12, 28, 1656], 5), (98, .iload_n 3, 1, [], 0), (99, .aaload, 1, [], 5), (100, .invokevirtual 298, 3, [], 7), (103, .istore 4, 2, [], 1), (105, .aload_n 0, 1, [], 0), (106, .dup, 1, [], 9), (107, .getfield 302, 3, [12, 41, 1669], 5), (110, .iload 4, 2, [], 0), (112, .ifCond .eq 7, 3, [67], 4), (115, .iconst 1, 1, [], 2), (116, .goto 4, 3, [68], 4), (119, .iconst 0, 1, [], 2), (120, .iadd, 1, [], 3), (121, .putfield 302, 3, [12, 41, 1669], 6), (124, .aload_n 0, 1, [], 0), (125, .dup, 1, [], 9), (126, .getfield 199, 3, [12, 36, 1664], 5), (129, .iload 4, 2, [], 0), (131, .ifCond .eq 7, 3, [77], 4), (134, .iconst 0, 1, [], 2), (135, .goto 4, 3, [78], 4), (138, .iconst 1, 1, [], 2), (139, .iadd, 1, [], 3), (140, .putfield 199, 3, [12, 36, 1664], 6), (143, .aload_n 0, 1, [], 0), (144, .getfield 67, 3, [12, 28, 1656], 5), (147, .iload_n 3, 1, [], 0), (148, .aaload, 1, [], 5), (149, .iconst 3, 1, [], 2), (150, .iaload, 1, [], 5), (151, .istore_n 3, 1, [], 1), (152, .goto (-150), 3, [2], 4), (155, .return_, 1, [], 8)])
def xm_159 : xr_M := (yX12_heard, cX12_heard, 5, (some .int), [], 1, [(0, .aload_n 0, 1, [], 0), (1, .iconst 0, 1, [], 2), (2, .putfield 100, 3, [12, 0, 1628], 6), (5, .aload_n 0, 1, [], 0), (6, .iload_n 1, 1, [], 0), (7, .iconst 0, 1, [], 2), (8, .iconst 1, 1, [], 2), (9, .invokestatic 134, 3, [4, 161, 1625, 1626, 133, 1627], 7), (12, .ifCond .ne 7, 3, [11], 4), (15, .iconst 1, 1, [], 2), (16, .goto 4, 3, [12], 4), (19, .iconst 0, 1, [], 2), (20, .iconst 1, 1, [], 2), (21, .iconst 1, 1, [], 2), (22, .invokevirtual 173, 3, [3, 136, 12, 1788, 1790, 64, 133, 1791], 7), (25, .ifCond .eq 5, 3, [18], 4), (28, .iconst 0, 1, [], 2), (29, .ireturn, 1, [], 8), (30, .iconst 0, 1, [], 2), (31, .istore_n 2, 1, [], 1), (32, .iconst (-1), 1, [], 2), (33, .istore_n 3, 1, [], 1), (34, .aload_n 0, 1, [], 0), (35, .getfield 70, 3, [12, 30, 1658], 5), (38, .aload_n 0, 1, [], 0), (39, .getfield 73, 3, [12, 31, 1659], 5), (42, .invokestatic 305, 3, [4, 145, 1927, 1928, 133, 1929], 7), (45, .iconst 0, 1, [], 2), (46, .istore 4, 2, [], 1), (48, .iload 4, 2, [], 0), (50, .aload_n 0, 1, [], 0), (51, .getfield 23, 3, [12, 12, 1640], 5), (54, .iconst 1, 1, [], 2), (55, .iaload, 1, [], 5), (56, .iconst 1, 1, [], 2), (57, .iadd, 1, [], 3), (58, .aload_n 0, 1, [], 0), (59, .getfield 23, 3, [12, 12, 1640], 5), (62, .iconst 0, 1, [], 2), (63, .iaload, 1, [], 5), (64, .invokestatic 327, 3, [4, 176, 2043, 2044, 133, 2045], 7), (67, .if_icmp .ge 53, 3, [65], 4), (70, .aload_n 0, 1, [], 0), (71, .aload_n 0, 1, [], 0), (72, .getfield 73, 3, [12, 31, 1659], 5), (75, .iload 4, 2, [], 0), (77, .invokevirtual 330, 3, [3, 184, 12, 2046, 2048, 104, 133, 2049], 7), (80, .aload_n 0, 1, [], 0), (81, .aload_n 0, 1, [], 0), (82, .getfield 73, 3, [12, 31, 1659], 5), (85, .invokevirtual 358, 3, [3, 163, 12, 2106, 2108, 112, 133, 2109], 7), (88, .ifCond .ne 6, 3, [53], 4), (91, .goto 23, 3, [63], 4), (94, .iload_n 2, 1, [], 0), (95, .ifCond .ne 14, 3, [60], 4), (98, .aload_n 0, 1, [], 0), (99, .aload_n 0, 1, [], 0), (100, .getfield 73, 3, [12, 31, 1659], 5), (103, .invokevirtual 337, 3, [3, 149, 12, 2054, 2056, 106, 133, 2057], 7), (106, .goto 4, 3, [61], 4), (109, .iload_n 3, 1, [], 0), (110, .istore_n 3, 1, [], 1), (111, .iinc 2 1, 3, [], 1), (114, .iinc 4 1, 3, [], 1), (117, .goto (-69), 3, [29], 4), (120, .iload_n 1, 1, [], 0), (121, .ifCond .ne 7, 3, [69], 4), (124, .iload_n 2, 1, [], 0), (125, .goto 4, 3, [70], 4), (128, .iload_n 3, 1, [], 0), (129, .ireturn, 1, [], 8)])
def xm_160 : xr_M := (yX12_image, cX12_image, 1, (some .int), [], 0, [(0, .aload_n 0, 1, [], 0), (1, .iconst 0, 1, [], 2), (2, .putfield 100, 3, [12, 0, 1628], 6), (5, .aload_n 0, 1, [], 0), (6, .getfield 202, 3, [12, 37, 1665], 5), (9, .iconst 3, 1, [], 2), (10, .if_icmp .ne 5, 3, [9], 4), (13, .iconst (-1), 1, [], 2), (14, .ireturn, 1, [], 8), (15, .aload_n 0, 1, [], 0), (16, .aload_n 0, 1, [], 0), (17, .getfield 79, 3, [12, 33, 1661], 5), (20, .aload_n 0, 1, [], 0), (21, .getfield 202, 3, [12, 37, 1665], 5), (24, .aaload, 1, [], 5), (25, .iconst 0, 1, [], 2), (26, .invokevirtual 395, 3, [3, 178, 12, 2155, 2157, 117, 133, 2158], 7), (29, .aload_n 0, 1, [], 0), (30, .dup, 1, [], 9), (31, .getfield 202, 3, [12, 37, 1665], 5), (34, .iconst 1, 1, [], 2), (35, .iadd, 1, [], 3), (36, .putfield 202, 3, [12, 37, 1665], 6), (39, .aload_n 0, 1, [], 0), (40, .getfield 202, 3, [12, 37, 1665], 5), (43, .ireturn, 1, [], 8)])
def xm_161 : xr_M := (yX12_in, cX12_in, 3, (some .boolean), [], 3, [(0, .iload_n 0, 1, [], 0), (1, .iload_n 1, 1, [], 0), (2, .if_icmp .lt 12, 3, [8], 4), (5, .iload_n 0, 1, [], 0), (6, .iload_n 2, 1, [], 0), (7, .if_icmp .gt 7, 3, [8], 4), (10, .iconst 1, 1, [], 2), (11, .goto 4, 3, [9], 4), (14, .iconst 0, 1, [], 2), (15, .ireturn, 1, [], 8)])
def xm_162 : xr_M := (yX12_isField, cX12_isField, 2, (some .boolean), [], 1, [(0, .iload_n 1, 1, [], 0), (1, .iconst 0, 1, [], 2), (2, .aload_n 0, 1, [], 0), (3, .getfield 23, 3, [12, 12, 1640], 5), (6, .iconst 0, 1, [], 2), (7, .iaload, 1, [], 5), (8, .iconst 1, 1, [], 2), (9, .isub, 1, [], 3), (10, .invokestatic 134, 3, [4, 161, 1625, 1626, 133, 1627], 7), (13, .ireturn, 1, [], 8)])
def xm_163 : xr_M := (yX12_isHeard, cX12_isHeard, 3, (some .boolean), [], 1, [(0, .iconst 0, 1, [], 2), (1, .istore_n 2, 1, [], 1), (2, .iload_n 2, 1, [], 0), (3, .aload_n 0, 1, [], 0), (4, .getfield 193, 3, [12, 34, 1662], 5), (7, .if_icmp .ge 35, 3, [26], 4), (10, .aload_n 0, 1, [], 0), (11, .aload_n 1, 1, [], 0), (12, .aload_n 0, 1, [], 0), (13, .getfield 55, 3, [12, 24, 1652], 5), (16, .iload_n 2, 1, [], 0), (17, .aaload, 1, [], 5), (18, .iconst 0, 1, [], 2), (19, .iaload, 1, [], 5), (20, .invokevirtual 315, 3, [], 7), (23, .aload_n 0, 1, [], 0), (24, .getfield 55, 3, [12, 24, 1652], 5), (27, .iload_n 2, 1, [], 0), (28, .aaload, 1, [], 5), (29, .iconst 1, 1, [], 2), (30, .iaload, 1, [], 5), (31, .if_icmp .eq 5, 3, [24], 4), (34, .iconst 0, 1, [], 2), (35, .ireturn, 1, [], 8), (36, .iinc 2 1, 3, [], 1), (39, .goto (-37), 3, [2], 4), (42, .iconst 1, 1, [], 2), (43, .ireturn, 1, [], 8)])
def xm_164 : xr_M := (yX12_isSound, cX12_isSound, 2, (some .boolean), [], 1, [(0, .iload_n 1, 1, [], 0), (1, .iconst 0, 1, [], 2), (2, .aload_n 0, 1, [], 0), (3, .getfield 23, 3, [12, 12, 1640], 5), (6, .iconst 1, 1, [], 2), (7, .iaload, 1, [], 5), (8, .iconst 1, 1, [], 2), (9, .isub, 1, [], 3), (10, .invokestatic 134, 3, [4, 161, 1625, 1626, 133, 1627], 7), (13, .ireturn, 1, [], 8)])
def xm_165 : xr_M := (yX12_isWanted, cX12_isWanted, 5, (some .boolean), [], 1, [(0, .iconst 0, 1, [], 2), (1, .istore_n 2, 1, [], 1), (2, .iload_n 2, 1, [], 0), (3, .aload_n 0, 1, [], 0), (4, .getfield 23, 3, [12, 12, 1640], 5), (7, .iconst 1, 1, [], 2), (8, .iaload, 1, [], 5), (9, .if_icmp .ge 62, 3, [43], 4), (12, .iconst 0, 1, [], 2), (13, .istore_n 3, 1, [], 1), (14, .iconst 0, 1, [], 2), (15, .istore 4, 2, [], 1), (17, .iload 4, 2, [], 0), (19, .aload_n 0, 1, [], 0), (20, .getfield 23, 3, [12, 12, 1640], 5), (23, .iconst 0, 1, [], 2), (24, .iaload, 1, [], 5), (25, .if_icmp .ge 28, 3, [33], 4), (28, .iload_n 3, 1, [], 0), (29, .aload_n 1, 1, [], 0), (30, .bipush 6, 2, [], 2), (32, .iload 4, 2, [], 0), (34, .iadd, 1, [], 3), (35, .iaload, 1, [], 5), (36, .iload_n 2, 1, [], 0), (37, .if_icmp .ne 7, 3, [28], 4), (40, .iconst 1, 1, [], 2), (41, .goto 4, 3, [29], 4), (44, .iconst 0, 1, [], 2), (45, .iadd, 1, [], 3), (46, .istore_n 3, 1, [], 1), (47, .iinc 4 1, 3, [], 1), (50, .goto (-33), 3, [12], 4), (53, .iload_n 3, 1, [], 0), (54, .aload_n 0, 1, [], 0), (55, .getfield 85, 3, [12, 42, 1670], 5), (58, .iload_n 2, 1, [], 0), (59, .iaload, 1, [], 5), (60, .if_icmp .eq 5, 3, [41], 4), (63, .iconst 0, 1, [], 2), (64, .ireturn, 1, [], 8), (65, .iinc 2 1, 3, [], 1), (68, .goto (-66), 3, [2], 4), (71, .iconst 1, 1, [], 2), (72, .ireturn, 1, [], 8)])
def xm_166 : xr_M := (yX12_keeps, cX12_keeps, 5, (some .int), [], 2, [(0, .aload_n 0, 1, [], 0), (1, .iconst 0, 1, [], 2), (2, .putfield 100, 3, [12, 0, 1628], 6), (5, .aload_n 0, 1, [], 0), (6, .aload_n 0, 1, [], 0), (7, .iload_n 1, 1, [], 0), (8, .invokevirtual 312, 3, [3, 164, 12, 1996, 1998, 100, 133, 1999], 7), (11, .ifCond .ne 7, 3, [10], 4), (14, .iconst 1, 1, [], 2), (15, .goto 4, 3, [11], 4), (18, .iconst 0, 1, [], 2), (19, .iconst 1, 1, [], 2), (20, .iconst 0, 1, [], 2), (21, .invokevirtual 173, 3, [3, 136, 12, 1788, 1790, 64, 133, 1791], 7), (24, .ifCond .ne 27, 3, [28], 4), (27, .aload_n 0, 1, [], 0), (28, .iload_n 2, 1, [], 0), (29, .iconst 0, 1, [], 2), (30, .bipush 40, 2, [], 2), (32, .invokestatic 134, 3, [4, 161, 1625, 1626, 133, 1627], 7), (35, .ifCond .ne 7, 3, [23], 4), (38, .iconst 1, 1, [], 2), (39, .goto 4, 3, [24], 4), (42, .iconst 0, 1, [], 2), (43, .iconst 2, 1, [], 2), (44, .iconst 1, 1, [], 2), (45, .invokevirtual 173, 3, [3, 136, 12, 1788, 1790, 64, 133, 1791], 7), (48, .ifCond .eq 5, 3, [30], 4), (51, .iconst 0, 1, [], 2), (52, .ireturn, 1, [], 8), (53, .aload_n 0, 1, [], 0), (54, .getfield 70, 3, [12, 30, 1658], 5), (57, .bipush 24, 2, [], 2), (59, .iload_n 1, 1, [], 0), (60, .iadd, 1, [], 3), (61, .iaload, 1, [], 5), (62, .istore_n 3, 1, [], 1), (63, .iconst 0, 1, [], 2), (64, .istore 4, 2, [], 1), (66, .iload 4, 2, [], 0), (68, .iload_n 2, 1, [], 0), (69, .if_icmp .ge 23, 3, [55], 4), (72, .iload_n 3, 1, [], 0), (73, .iload_n 3, 1, [], 0), (74, .aload_n 0, 1, [], 0), (75, .getfield 23, 3, [12, 12, 1640], 5), (78, .iconst 4, 1, [], 2), (79, .iaload, 1, [], 5), (80, .imul, 1, [], 3), (81, .bipush 8, 2, [], 2), (83, .idiv, 1, [], 9), (84, .isub, 1, [], 3), (85, .istore_n 3, 1, [], 1), (86, .iinc 4 1, 3, [], 1), (89, .goto (-23), 3, [39], 4), (92, .iload_n 3, 1, [], 0), (93, .ireturn, 1, [], 8)])
def xm_167 : xr_M := (yX12_law, cX12_law, 2, (some .int), [], 1, [(0, .aload_n 0, 1, [], 0), (1, .iconst 0, 1, [], 2), (2, .putfield 100, 3, [12, 0, 1628], 6), (5, .aload_n 0, 1, [], 0), (6, .iload_n 1, 1, [], 0), (7, .iconst 0, 1, [], 2), (8, .aload_n 0, 1, [], 0), (9, .getfield 103, 3, [12, 1, 1629], 5), (12, .invokestatic 134, 3, [4, 161, 1625, 1626, 133, 1627], 7), (15, .ifCond .eq 10, 3, [13], 4), (18, .iload_n 1, 1, [], 0), (19, .sipush 150, 3, [], 2), (22, .if_icmp .le 7, 3, [15], 4), (25, .iconst 1, 1, [], 2), (26, .goto 4, 3, [16], 4), (29, .iconst 0, 1, [], 2), (30, .iconst 1, 1, [], 2), (31, .iconst 1, 1, [], 2), (32, .invokevirtual 173, 3, [3, 136, 12, 1788, 1790, 64, 133, 1791], 7), (35, .ifCond .eq 5, 3, [22], 4), (38, .iconst 0, 1, [], 2), (39, .ireturn, 1, [], 8), (40, .aload_n 0, 1, [], 0), (41, .iload_n 1, 1, [], 0), (42, .invokevirtual 177, 3, [3, 188, 12, 1792, 1794, 65, 133, 1795], 7), (45, .aload_n 0, 1, [], 0), (46, .iconst 0, 1, [], 2), (47, .putfield 205, 3, [12, 21, 1649], 6), (50, .aload_n 0, 1, [], 0), (51, .invokevirtual 227, 3, [], 7), (54, .aload_n 0, 1, [], 0), (55, .invokevirtual 122, 3, [3, 139, 12, 1796, 1798, 66, 133, 1799], 7), (58, .aload_n 0, 1, [], 0), (59, .getfield 116, 3, [12, 5, 1633], 5), (62, .ifCond .ne 23, 3, [45], 4), (65, .aload_n 0, 1, [], 0), (66, .getfield 109, 3, [12, 4, 1632], 5), (69, .aload_n 0, 1, [], 0), (70, .getfield 106, 3, [12, 2, 1630], 5), (73, .if_icmp .ge 12, 3, [45], 4), (76, .aload_n 0, 1, [], 0), (77, .iconst 1, 1, [], 2), (78, .aload_n 0, 1, [], 0), (79, .getfield 109, 3, [12, 4, 1632], 5), (82, .invokevirtual 129, 3, [], 7), (85, .aload_n 0, 1, [], 0), (86, .getfield 116, 3, [12, 5, 1633], 5), (89, .ifCond .eq 8, 3, [51], 4), (92, .aload_n 0, 1, [], 0), (93, .invokevirtual 183, 3, [], 7), (96, .ireturn, 1, [], 8), (97, .aload_n 0, 1, [], 0), (98, .iconst (-1), 1, [], 2), (99, .putfield 9, 3, [12, 3, 1631], 6), (102, .aload_n 0, 1, [], 0), (103, .aload_n 0, 1, [], 0), (104, .getfield 205, 3, [12, 21, 1649], 5), (107, .putfield 190, 3, [12, 20, 1648], 6), (110, .aload_n 0, 1, [], 0), (111, .getfield 52, 3, [12, 23, 1651], 5), (114, .aload_n 0, 1, [], 0), (115, .getfield 49, 3, [12, 22, 1650], 5), (118, .aload_n 0, 1, [], 0), (119, .getfield 190, 3, [12, 20, 1648], 5), (122, .invokestatic 186, 3, [4, 168, 1622, 1623, 133, 1624], 7), (125, .iconst 1, 1, [], 2), (126, .ireturn, 1, [], 8)])
def xm_168 : xr_M := (yX12_lays, cX12_lays, 5, none, [], 3, [(0, .iconst 0, 1, [], 2), (1, .istore_n 3, 1, [], 1), (2, .iload_n 3, 1, [], 0), (3, .iload_n 2, 1, [], 0), (4, .if_icmp .ge 39, 3, [27], 4), (7, .iconst 0, 1, [], 2), (8, .istore 4, 2, [], 1), (10, .iload 4, 2, [], 0), (12, .aload_n 1, 1, [], 0), (13, .iload_n 3, 1, [], 0), (14, .aaload, 1, [], 5), (15, .arraylength, 1, [], 5), (16, .if_icmp .ge 21, 3, [25], 4), (19, .aload_n 1, 1, [], 0), (20, .iload_n 3, 1, [], 0), (21, .aaload, 1, [], 5), (22, .iload 4, 2, [], 0), (24, .aload_n 0, 1, [], 0), (25, .iload_n 3, 1, [], 0), (26, .aaload, 1, [], 5), (27, .iload 4, 2, [], 0), (29, .iaload, 1, [], 5), (30, .iastore, 1, [], 6), (31, .iinc 4 1, 3, [], 1), (34, .goto (-24), 3, [7], 4), (37, .iinc 3 1, 3, [], 1), (40, .goto (-38), 3, [2], 4), (43, .return_, 1, [], 8)])
def xm_169 : xr_M := (yX12_laysYields, cX12_laysYields, 3, none, [], 1, [(0, .iconst 0, 1, [], 2), (1, .istore_n 2, 1, [], 1), (2, .iload_n 2, 1, [], 0), (3, .aload_n 0, 1, [], 0), (4, .getfield 23, 3, [12, 12, 1640], 5), (7, .iconst 0, 1, [], 2), (8, .iaload, 1, [], 5), (9, .if_icmp .ge 41, 3, [32], 4), (12, .aload_n 0, 1, [], 0), (13, .getfield 82, 3, [12, 39, 1667], 5), (16, .iload_n 2, 1, [], 0), (17, .aload_n 1, 1, [], 0), (18, .bipush 6, 2, [], 2), (20, .iload_n 2, 1, [], 0), (21, .iadd, 1, [], 3), (22, .iaload, 1, [], 5), (23, .iconst (-1), 1, [], 2), (24, .if_icmp .ne 7, 3, [20], 4), (27, .iconst 0, 1, [], 2), (28, .goto 15, 3, [29], 4), (31, .aload_n 0, 1, [], 0), (32, .aload_n 1, 1, [], 0), (33, .iload_n 2, 1, [], 0), (34, .aload_n 1, 1, [], 0), (35, .bipush 6, 2, [], 2), (37, .iload_n 2, 1, [], 0), (38, .iadd, 1, [], 3), (39, .iaload, 1, [], 5), (40, .invokevirtual 274, 3, [], 7), (43, .iastore, 1, [], 6), (44, .iinc 2 1, 3, [], 1), (47, .goto (-45), 3, [2], 4), (50, .return_, 1, [], 8)])
def xm_170 : xr_M := (yX12_less, cX12_less, 2, (some .int), [], 2, [(0, .iload_n 0, 1, [], 0), (1, .iload_n 1, 1, [], 0), (2, .if_icmp .ge 7, 3, [5], 4), (5, .iload_n 0, 1, [], 0), (6, .goto 4, 3, [6], 4), (9, .iload_n 1, 1, [], 0), (10, .ireturn, 1, [], 8)])
def xm_171 : xr_M := (yX12_loud, cX12_loud, 2, (some .int), [], 1, [(0, .aload_n 0, 1, [], 0), (1, .iconst 0, 1, [], 2), (2, .putfield 100, 3, [12, 0, 1628], 6), (5, .aload_n 0, 1, [], 0), (6, .aload_n 0, 1, [], 0), (7, .iload_n 1, 1, [], 0), (8, .invokevirtual 309, 3, [3, 162, 12, 1988, 1990, 99, 133, 1991], 7), (11, .ifCond .ne 7, 3, [10], 4), (14, .iconst 1, 1, [], 2), (15, .goto 4, 3, [11], 4), (18, .iconst 0, 1, [], 2), (19, .iconst 1, 1, [], 2), (20, .iconst 0, 1, [], 2), (21, .invokevirtual 173, 3, [3, 136, 12, 1788, 1790, 64, 133, 1791], 7), (24, .ifCond .eq 5, 3, [17], 4), (27, .iconst 0, 1, [], 2), (28, .ireturn, 1, [], 8), (29, .aload_n 0, 1, [], 0), (30, .aload_n 0, 1, [], 0), (31, .getfield 70, 3, [12, 30, 1658], 5), (34, .iload_n 1, 1, [], 0), (35, .invokevirtual 315, 3, [], 7), (38, .ireturn, 1, [], 8)])
def xm_172 : xr_M := (yX12_more, cX12_more, 2, (some .int), [], 2, [(0, .iload_n 0, 1, [], 0), (1, .iload_n 1, 1, [], 0), (2, .if_icmp .le 7, 3, [5], 4), (5, .iload_n 0, 1, [], 0), (6, .goto 4, 3, [6], 4), (9, .iload_n 1, 1, [], 0), (10, .ireturn, 1, [], 8)])
def xm_173 : xr_M := (yX12_nextRows, cX12_nextRows, 7, (some .long), [], 1, [(0, .lload_n 1, 1, [], 9), (1, .lstore_n 3, 1, [], 9), (2, .iconst 0, 1, [], 2), (3, .istore 5, 2, [], 1), (5, .iload 5, 2, [], 0), (7, .bipush 64, 2, [], 2), (9, .if_icmp .ge 54, 3, [37], 4), (12, .iconst 0, 1, [], 2), (13, .istore 6, 2, [], 1), (15, .iload 6, 2, [], 0), (17, .bipush 64, 2, [], 2), (19, .if_icmp .ge 38, 3, [35], 4), (22, .lload_n 1, 1, [], 9), (23, .iload 5, 2, [], 0), (25, .lshr, 1, [], 9), (26, .lload_n 1, 1, [], 9), (27, .iload 6, 2, [], 0), (29, .lshr, 1, [], 9), (30, .land, 1, [], 9), (31, .lconst 1, 1, [], 9), (32, .land, 1, [], 9), (33, .lconst 1, 1, [], 9), (34, .lcmp, 1, [], 9), (35, .ifCond .ne 16, 3, [33], 4), (38, .lload_n 3, 1, [], 9), (39, .lconst 1, 1, [], 9), (40, .aload_n 0, 1, [], 0), (41, .iload 5, 2, [], 0), (43, .iload 6, 2, [], 0), (45, .invokevirtual 347, 3, [3, 147, 12, 2078, 2080, 109, 133, 2081], 7), (48, .lshl, 1, [], 9), (49, .lor, 1, [], 9), (50, .lstore_n 3, 1, [], 9), (51, .iinc 6 1, 3, [], 1), (54, .goto (-39), 3, [9], 4), (57, .iinc 5 1, 3, [], 1), (60, .goto (-55), 3, [4], 4), (63, .lload_n 3, 1, [], 9), (64, .lreturn, 1, [], 8)])
def xm_174 : xr_M := (yX12_order, cX12_order, 3, (some .int), [], 2, [(0, .aload_n 0, 1, [], 0), (1, .iconst 0, 1, [], 2), (2, .putfield 100, 3, [12, 0, 1628], 6), (5, .aload_n 0, 1, [], 0), (6, .iload_n 1, 1, [], 0), (7, .iconst 0, 1, [], 2), (8, .aload_n 0, 1, [], 0), (9, .getfield 23, 3, [12, 12, 1640], 5), (12, .iconst 2, 1, [], 2), (13, .iaload, 1, [], 5), (14, .iconst 1, 1, [], 2), (15, .isub, 1, [], 3), (16, .invokestatic 134, 3, [4, 161, 1625, 1626, 133, 1627], 7), (19, .ifCond .ne 7, 3, [16], 4), (22, .iconst 1, 1, [], 2), (23, .goto 4, 3, [17], 4), (26, .iconst 0, 1, [], 2), (27, .iconst 1, 1, [], 2), (28, .iconst 0, 1, [], 2), (29, .invokevirtual 173, 3, [3, 136, 12, 1788, 1790, 64, 133, 1791], 7), (32, .ifCond .ne 26, 3, [34], 4), (35, .aload_n 0, 1, [], 0), (36, .iload_n 2, 1, [], 0), (37, .iconst 0, 1, [], 2), (38, .iconst 4, 1, [], 2), (39, .invokestatic 134, 3, [4, 161, 1625, 1626, 133, 1627], 7), (42, .ifCond .ne 7, 3, [29], 4), (45, .iconst 1, 1, [], 2), (46, .goto 4, 3, [30], 4), (49, .iconst 0, 1, [], 2), (50, .iconst 2, 1, [], 2), (51, .iconst 1, 1, [], 2), (52, .invokevirtual 173, 3, [3, 136, 12, 1788, 1790, 64, 133, 1791], 7), (55, .ifCond .eq 5, 3, [36], 4), (58, .iconst 0, 1, [], 2), (59, .ireturn, 1, [], 8), (60, .iload_n 2, 1, [], 0), (61, .iconst 4, 1, [], 2), (62, .if_icmp .ge 14, 3, [46], 4), (65, .aload_n 0, 1, [], 0), (66, .getfield 46, 3, [12, 19, 1647], 5), (69, .iload_n 1, 1, [], 0), (70, .aaload, 1, [], 5), (71, .iload_n 2, 1, [], 0), (72, .iaload, 1, [], 5), (73, .goto 12, 3, [52], 4), (76, .aload_n 0, 1, [], 0), (77, .getfield 70, 3, [12, 30, 1658], 5), (80, .bipush 60, 2, [], 2), (82, .iload_n 1, 1, [], 0), (83, .iadd, 1, [], 3), (84, .iaload, 1, [], 5), (85, .ireturn, 1, [], 8)])
def xm_175 : xr_M := (yX12_ordersOf, cX12_ordersOf, 5, (some .int), [], 2, [(0, .iconst 0, 1, [], 2), (1, .istore_n 3, 1, [], 1), (2, .iconst 0, 1, [], 2), (3, .istore 4, 2, [], 1), (5, .iload 4, 2, [], 0), (7, .aload_n 0, 1, [], 0), (8, .getfield 23, 3, [12, 12, 1640], 5), (11, .iconst 2, 1, [], 2), (12, .iaload, 1, [], 5), (13, .if_icmp .ge 28, 3, [25], 4), (16, .iload_n 3, 1, [], 0), (17, .aload_n 1, 1, [], 0), (18, .bipush 60, 2, [], 2), (20, .iload 4, 2, [], 0), (22, .iadd, 1, [], 3), (23, .iaload, 1, [], 5), (24, .iload_n 2, 1, [], 0), (25, .if_icmp .ne 7, 3, [20], 4), (28, .iconst 1, 1, [], 2), (29, .goto 4, 3, [21], 4), (32, .iconst 0, 1, [], 2), (33, .iadd, 1, [], 3), (34, .istore_n 3, 1, [], 1), (35, .iinc 4 1, 3, [], 1), (38, .goto (-33), 3, [4], 4), (41, .iload_n 3, 1, [], 0), (42, .ireturn, 1, [], 8)])
def xm_176 : xr_M := (yX12_power, cX12_power, 4, (some .int), [], 2, [(0, .iconst 1, 1, [], 2), (1, .istore_n 2, 1, [], 1), (2, .iconst 0, 1, [], 2), (3, .istore_n 3, 1, [], 1), (4, .iload_n 3, 1, [], 0), (5, .iload_n 1, 1, [], 0), (6, .if_icmp .ge 13, 3, [13], 4), (9, .iload_n 2, 1, [], 0), (10, .iload_n 0, 1, [], 0), (11, .imul, 1, [], 3), (12, .istore_n 2, 1, [], 1), (13, .iinc 3 1, 3, [], 1), (16, .goto (-12), 3, [4], 4), (19, .iload_n 2, 1, [], 0), (20, .ireturn, 1, [], 8)])
def xm_177 : xr_M := (yX12_puts, cX12_puts, 4, (some .int), [], 3, [(0, .iload_n 3, 1, [], 0), (1, .ifCond .ne 10, 3, [7], 4), (4, .aload_n 1, 1, [], 0), (5, .aload_n 0, 1, [], 0), (6, .getfield 388, 3, [12, 38, 1666], 5), (9, .iload_n 2, 1, [], 0), (10, .iastore, 1, [], 6), (11, .aload_n 0, 1, [], 0), (12, .dup, 1, [], 9), (13, .getfield 388, 3, [12, 38, 1666], 5), (16, .iconst 1, 1, [], 2), (17, .iadd, 1, [], 3), (18, .putfield 388, 3, [12, 38, 1666], 6), (21, .aload_n 1, 1, [], 0), (22, .aload_n 0, 1, [], 0), (23, .getfield 388, 3, [12, 38, 1666], 5), (26, .iconst 1, 1, [], 2), (27, .isub, 1, [], 3), (28, .iaload, 1, [], 5), (29, .ireturn, 1, [], 8)])
def xm_178 : xr_M := (yX12_putsAll, cX12_putsAll, 5, none, [], 2, [(0, .aload_n 0, 1, [], 0), (1, .iconst 0, 1, [], 2), (2, .putfield 388, 3, [12, 38, 1666], 6), (5, .aload_n 0, 1, [], 0), (6, .aload_n 0, 1, [], 0), (7, .aload_n 1, 1, [], 0), (8, .aload_n 0, 1, [], 0), (9, .getfield 196, 3, [12, 35, 1663], 5), (12, .iload_n 2, 1, [], 0), (13, .invokevirtual 391, 3, [3, 177, 12, 2159, 2161, 118, 133, 2162], 7), (16, .putfield 196, 3, [12, 35, 1663], 6), (19, .iconst 0, 1, [], 2), (20, .istore_n 3, 1, [], 1), (21, .iload_n 3, 1, [], 0), (22, .bipush 72, 2, [], 2), (24, .if_icmp .ge 27, 3, [30], 4), (27, .aload_n 0, 1, [], 0), (28, .getfield 70, 3, [12, 30, 1658], 5), (31, .iload_n 3, 1, [], 0), (32, .aload_n 0, 1, [], 0), (33, .aload_n 1, 1, [], 0), (34, .aload_n 0, 1, [], 0), (35, .getfield 70, 3, [12, 30, 1658], 5), (38, .iload_n 3, 1, [], 0), (39, .iaload, 1, [], 5), (40, .iload_n 2, 1, [], 0), (41, .invokevirtual 391, 3, [3, 177, 12, 2159, 2161, 118, 133, 2162], 7), (44, .iastore, 1, [], 6), (45, .iinc 3 1, 3, [], 1), (48, .goto (-27), 3, [13], 4), (51, .iconst 0, 1, [], 2), (52, .istore_n 3, 1, [], 1), (53, .iload_n 3, 1, [], 0), (54, .bipush 20, 2, [], 2), (56, .if_icmp .ge 49, 3, [60], 4), (59, .iconst 0, 1, [], 2), (60, .istore 4, 2, [], 1), (62, .iload 4, 2, [], 0), (64, .bipush 72, 2, [], 2), (66, .if_icmp .ge 33, 3, [58], 4), (69, .aload_n 0, 1, [], 0), (70, .getfield 76, 3, [12, 32, 1660], 5), (73, .iload_n 3, 1, [], 0), (74, .aaload, 1, [], 5), (75, .iload 4, 2, [], 0), (77, .aload_n 0, 1, [], 0), (78, .aload_n 1, 1, [], 0), (79, .aload_n 0, 1, [], 0), (80, .getfield 76, 3, [12, 32, 1660], 5), (83, .iload_n 3, 1, [], 0), (84, .aaload, 1, [], 5), (85, .iload 4, 2, [], 0), (87, .iaload, 1, [], 5), (88, .iload_n 2, 1, [], 0), (89, .invokevirtual 391, 3, [3, 177, 12, 2159, 2161, 118, 133, 2162], 7), (92, .iastore, 1, [], 6), (93, .iinc 4 1, 3, [], 1), (96, .goto (-34), 3, [37], 4), (99, .iinc 3 1, 3, [], 1), (102, .goto (-49), 3, [32], 4), (105, .return_, 1, [], 8)])
def xm_179 : xr_M := (yX12_restore, cX12_restore, 1, (some .int), [], 0, [(0, .aload_n 0, 1, [], 0), (1, .iconst 0, 1, [], 2), (2, .putfield 100, 3, [12, 0, 1628], 6), (5, .aload_n 0, 1, [], 0), (6, .getfield 202, 3, [12, 37, 1665], 5), (9, .ifCond .ne 5, 3, [8], 4), (12, .iconst (-1), 1, [], 2), (13, .ireturn, 1, [], 8), (14, .aload_n 0, 1, [], 0), (15, .dup, 1, [], 9), (16, .getfield 202, 3, [12, 37, 1665], 5), (19, .iconst 1, 1, [], 2), (20, .isub, 1, [], 3), (21, .putfield 202, 3, [12, 37, 1665], 6), (24, .aload_n 0, 1, [], 0), (25, .aload_n 0, 1, [], 0), (26, .getfield 79, 3, [12, 33, 1661], 5), (29, .aload_n 0, 1, [], 0), (30, .getfield 202, 3, [12, 37, 1665], 5), (33, .aaload, 1, [], 5), (34, .iconst 1, 1, [], 2), (35, .invokevirtual 395, 3, [3, 178, 12, 2155, 2157, 117, 133, 2158], 7), (38, .aload_n 0, 1, [], 0), (39, .iconst 0, 1, [], 2), (40, .putfield 199, 3, [12, 36, 1664], 6), (43, .aload_n 0, 1, [], 0), (44, .getfield 202, 3, [12, 37, 1665], 5), (47, .ireturn, 1, [], 8)])
def xm_180 : xr_M := (yX12_rows, cX12_rows, 5, (some .long), [], 1, [(0, .aload_n 0, 1, [], 0), (1, .iconst 0, 1, [], 2), (2, .putfield 100, 3, [12, 0, 1628], 6), (5, .aload_n 0, 1, [], 0), (6, .iload_n 1, 1, [], 0), (7, .iconst 0, 1, [], 2), (8, .bipush 64, 2, [], 2), (10, .invokestatic 134, 3, [4, 161, 1625, 1626, 133, 1627], 7), (13, .ifCond .ne 7, 3, [11], 4), (16, .iconst 1, 1, [], 2), (17, .goto 4, 3, [12], 4), (20, .iconst 0, 1, [], 2), (21, .iconst 1, 1, [], 2), (22, .iconst 1, 1, [], 2), (23, .invokevirtual 173, 3, [3, 136, 12, 1788, 1790, 64, 133, 1791], 7), (26, .ifCond .eq 5, 3, [18], 4), (29, .lconst 0, 1, [], 9), (30, .lreturn, 1, [], 8), (31, .aload_n 0, 1, [], 0), (32, .invokevirtual 350, 3, [3, 181, 12, 2086, 2088, 110, 133, 2089], 7), (35, .lstore_n 2, 1, [], 9), (36, .iconst 0, 1, [], 2), (37, .istore 4, 2, [], 1), (39, .iload 4, 2, [], 0), (41, .iload_n 1, 1, [], 0), (42, .if_icmp .ge 15, 3, [32], 4), (45, .aload_n 0, 1, [], 0), (46, .lload_n 2, 1, [], 9), (47, .invokevirtual 354, 3, [3, 173, 12, 2090, 2092, 111, 133, 2093], 7), (50, .lstore_n 2, 1, [], 9), (51, .iinc 4 1, 3, [], 1), (54, .goto (-15), 3, [23], 4), (57, .lload_n 2, 1, [], 9), (58, .lreturn, 1, [], 8)])
def xm_181 : xr_M := (yX12_rowsAtFirst, cX12_rowsAtFirst, 4, (some .long), [], 0, [(0, .lconst 0, 1, [], 9), (1, .lstore_n 1, 1, [], 9), (2, .iconst 0, 1, [], 2), (3, .istore_n 3, 1, [], 1), (4, .iload_n 3, 1, [], 0), (5, .aload_n 0, 1, [], 0), (6, .getfield 23, 3, [12, 12, 1640], 5), (9, .iconst 1, 1, [], 2), (10, .iaload, 1, [], 5), (11, .if_icmp .ge 22, 3, [23], 4), (14, .lload_n 1, 1, [], 9), (15, .lconst 1, 1, [], 9), (16, .aload_n 0, 1, [], 0), (17, .getfield 40, 3, [12, 17, 1645], 5), (20, .iload_n 3, 1, [], 0), (21, .aaload, 1, [], 5), (22, .iconst 0, 1, [], 2), (23, .iaload, 1, [], 5), (24, .lshl, 1, [], 9), (25, .lor, 1, [], 9), (26, .lstore_n 1, 1, [], 9), (27, .iinc 3 1, 3, [], 1), (30, .goto (-26), 3, [4], 4), (33, .lload_n 1, 1, [], 9), (34, .lreturn, 1, [], 8)])
def xm_182 : xr_M := (yX12_sets, cX12_sets, 6, (some .int), [], 2, [(0, .aload_n 0, 1, [], 0), (1, .iconst 0, 1, [], 2), (2, .putfield 100, 3, [12, 0, 1628], 6), (5, .aload_n 0, 1, [], 0), (6, .aload_n 0, 1, [], 0), (7, .iload_n 1, 1, [], 0), (8, .invokevirtual 340, 3, [3, 197, 12, 2066, 2068, 107, 133, 2069], 7), (11, .ifCond .eq 12, 3, [13], 4), (14, .iload_n 2, 1, [], 0), (15, .iconst 0, 1, [], 2), (16, .iconst 1, 1, [], 2), (17, .invokestatic 134, 3, [4, 161, 1625, 1626, 133, 1627], 7), (20, .ifCond .ne 7, 3, [15], 4), (23, .iconst 1, 1, [], 2), (24, .goto 4, 3, [16], 4), (27, .iconst 0, 1, [], 2), (28, .iconst 1, 1, [], 2), (29, .iconst 1, 1, [], 2), (30, .invokevirtual 173, 3, [3, 136, 12, 1788, 1790, 64, 133, 1791], 7), (33, .ifCond .eq 5, 3, [22], 4), (36, .iconst 0, 1, [], 2), (37, .ireturn, 1, [], 8), (38, .iconst 0, 1, [], 2), (39, .istore_n 3, 1, [], 1), (40, .iconst (-1), 1, [], 2), (41, .istore 4, 2, [], 1), (43, .aload_n 0, 1, [], 0), (44, .getfield 70, 3, [12, 30, 1658], 5), (47, .aload_n 0, 1, [], 0), (48, .getfield 73, 3, [12, 31, 1659], 5), (51, .invokestatic 305, 3, [4, 145, 1927, 1928, 133, 1929], 7), (54, .iconst 0, 1, [], 2), (55, .istore 5, 2, [], 1), (57, .iload 5, 2, [], 0), (59, .aload_n 0, 1, [], 0), (60, .getfield 23, 3, [12, 12, 1640], 5), (63, .iconst 1, 1, [], 2), (64, .iaload, 1, [], 5), (65, .iconst 1, 1, [], 2), (66, .iadd, 1, [], 3), (67, .aload_n 0, 1, [], 0), (68, .getfield 23, 3, [12, 12, 1640], 5), (71, .iconst 0, 1, [], 2), (72, .iaload, 1, [], 5), (73, .invokestatic 327, 3, [4, 176, 2043, 2044, 133, 2045], 7), (76, .if_icmp .ge 66, 3, [74], 4), (79, .aload_n 0, 1, [], 0), (80, .aload_n 0, 1, [], 0), (81, .getfield 73, 3, [12, 31, 1659], 5), (84, .iload 5, 2, [], 0), (86, .invokevirtual 330, 3, [3, 184, 12, 2046, 2048, 104, 133, 2049], 7), (89, .aload_n 0, 1, [], 0), (90, .aload_n 0, 1, [], 0), (91, .getfield 73, 3, [12, 31, 1659], 5), (94, .invokevirtual 343, 3, [3, 165, 12, 2070, 2072, 108, 133, 2073], 7), (97, .ifCond .eq 39, 3, [72], 4), (100, .aload_n 0, 1, [], 0), (101, .aload_n 0, 1, [], 0), (102, .getfield 73, 3, [12, 31, 1659], 5), (105, .invokevirtual 318, 3, [3, 151, 12, 2020, 2022, 102, 133, 2023], 7), (108, .ifCond .eq 6, 3, [62], 4), (111, .goto 25, 3, [72], 4), (114, .iload_n 3, 1, [], 0), (115, .ifCond .ne 14, 3, [69], 4), (118, .aload_n 0, 1, [], 0), (119, .aload_n 0, 1, [], 0), (120, .getfield 73, 3, [12, 31, 1659], 5), (123, .invokevirtual 337, 3, [3, 149, 12, 2054, 2056, 106, 133, 2057], 7), (126, .goto 5, 3, [70], 4), (129, .iload 4, 2, [], 0), (131, .istore 4, 2, [], 1), (133, .iinc 3 1, 3, [], 1), (136, .iinc 5 1, 3, [], 1), (139, .goto (-82), 3, [33], 4), (142, .iload_n 2, 1, [], 0), (143, .ifCond .ne 7, 3, [78], 4), (146, .iload_n 3, 1, [], 0), (147, .goto 5, 3, [79], 4), (150, .iload 4, 2, [], 0), (152, .ireturn, 1, [], 8)])
def xm_183 : xr_M := (yX12_sound, cX12_sound, 3, (some .int), [], 2, [(0, .aload_n 0, 1, [], 0), (1, .iconst 0, 1, [], 2), (2, .putfield 100, 3, [12, 0, 1628], 6), (5, .aload_n 0, 1, [], 0), (6, .aload_n 0, 1, [], 0), (7, .iload_n 1, 1, [], 0), (8, .invokevirtual 312, 3, [3, 164, 12, 1996, 1998, 100, 133, 1999], 7), (11, .ifCond .ne 7, 3, [10], 4), (14, .iconst 1, 1, [], 2), (15, .goto 4, 3, [11], 4), (18, .iconst 0, 1, [], 2), (19, .iconst 1, 1, [], 2), (20, .iconst 0, 1, [], 2), (21, .invokevirtual 173, 3, [3, 136, 12, 1788, 1790, 64, 133, 1791], 7), (24, .ifCond .ne 27, 3, [28], 4), (27, .aload_n 0, 1, [], 0), (28, .iload_n 2, 1, [], 0), (29, .iconst 0, 1, [], 2), (30, .bipush 8, 2, [], 2), (32, .invokestatic 134, 3, [4, 161, 1625, 1626, 133, 1627], 7), (35, .ifCond .ne 7, 3, [23], 4), (38, .iconst 1, 1, [], 2), (39, .goto 4, 3, [24], 4), (42, .iconst 0, 1, [], 2), (43, .iconst 2, 1, [], 2), (44, .iconst 1, 1, [], 2), (45, .invokevirtual 173, 3, [3, 136, 12, 1788, 1790, 64, 133, 1791], 7), (48, .ifCond .eq 5, 3, [30], 4), (51, .iconst 0, 1, [], 2), (52, .ireturn, 1, [], 8), (53, .iload_n 2, 1, [], 0), (54, .iconst 3, 1, [], 2), (55, .if_icmp .ge 14, 3, [40], 4), (58, .aload_n 0, 1, [], 0), (59, .getfield 40, 3, [12, 17, 1645], 5), (62, .iload_n 1, 1, [], 0), (63, .aaload, 1, [], 5), (64, .iload_n 2, 1, [], 0), (65, .iaload, 1, [], 5), (66, .goto 19, 3, [52], 4), (69, .aload_n 0, 1, [], 0), (70, .getfield 70, 3, [12, 30, 1658], 5), (73, .bipush 24, 2, [], 2), (75, .bipush 6, 2, [], 2), (77, .iload_n 2, 1, [], 0), (78, .iconst 3, 1, [], 2), (79, .isub, 1, [], 3), (80, .imul, 1, [], 3), (81, .iadd, 1, [], 3), (82, .iload_n 1, 1, [], 0), (83, .iadd, 1, [], 3), (84, .iaload, 1, [], 5), (85, .ireturn, 1, [], 8)])
def xm_184 : xr_M := (yX12_sows, cX12_sows, 5, none, [], 2, [(0, .iload_n 2, 1, [], 0), (1, .istore_n 3, 1, [], 1), (2, .aload_n 0, 1, [], 0), (3, .getfield 23, 3, [12, 12, 1640], 5), (6, .iconst 0, 1, [], 2), (7, .iaload, 1, [], 5), (8, .iconst 1, 1, [], 2), (9, .isub, 1, [], 3), (10, .istore 4, 2, [], 1), (12, .iload 4, 2, [], 0), (14, .ifCond .lt 39, 3, [37], 4), (17, .aload_n 1, 1, [], 0), (18, .bipush 6, 2, [], 2), (20, .iload 4, 2, [], 0), (22, .iadd, 1, [], 3), (23, .iload_n 3, 1, [], 0), (24, .aload_n 0, 1, [], 0), (25, .getfield 23, 3, [12, 12, 1640], 5), (28, .iconst 1, 1, [], 2), (29, .iaload, 1, [], 5), (30, .iconst 1, 1, [], 2), (31, .iadd, 1, [], 3), (32, .irem, 1, [], 9), (33, .iconst 1, 1, [], 2), (34, .isub, 1, [], 3), (35, .iastore, 1, [], 6), (36, .iload_n 3, 1, [], 0), (37, .aload_n 0, 1, [], 0), (38, .getfield 23, 3, [12, 12, 1640], 5), (41, .iconst 1, 1, [], 2), (42, .iaload, 1, [], 5), (43, .iconst 1, 1, [], 2), (44, .iadd, 1, [], 3), (45, .idiv, 1, [], 9), (46, .istore_n 3, 1, [], 1), (47, .iinc 4 (-1), 3, [], 1), (50, .goto (-38), 3, [9], 4), (53, .return_, 1, [], 8)])
def xm_185 : xr_M := (yX12_span, cX12_span, 10, (some .int), [], 5, [(0, .aload_n 0, 1, [], 0), (1, .iconst 0, 1, [], 2), (2, .putfield 100, 3, [12, 0, 1628], 6), (5, .aload_n 0, 1, [], 0), (6, .iload_n 2, 1, [], 0), (7, .iconst 1, 1, [], 2), (8, .bipush 20, 2, [], 2), (10, .invokestatic 134, 3, [4, 161, 1625, 1626, 133, 1627], 7), (13, .ifCond .eq 34, 3, [24], 4), (16, .iload_n 3, 1, [], 0), (17, .iconst 0, 1, [], 2), (18, .bipush 16, 2, [], 2), (20, .invokestatic 134, 3, [4, 161, 1625, 1626, 133, 1627], 7), (23, .ifCond .eq 24, 3, [24], 4), (26, .iload 4, 2, [], 0), (28, .iconst 1, 1, [], 2), (29, .bipush 20, 2, [], 2), (31, .invokestatic 134, 3, [4, 161, 1625, 1626, 133, 1627], 7), (34, .ifCond .eq 13, 3, [24], 4), (37, .iload 5, 2, [], 0), (39, .iconst 0, 1, [], 2), (40, .iconst 2, 1, [], 2), (41, .invokestatic 134, 3, [4, 161, 1625, 1626, 133, 1627], 7), (44, .ifCond .ne 7, 3, [26], 4), (47, .iconst 1, 1, [], 2), (48, .goto 4, 3, [27], 4), (51, .iconst 0, 1, [], 2), (52, .iconst 1, 1, [], 2), (53, .iconst 1, 1, [], 2), (54, .invokevirtual 173, 3, [3, 136, 12, 1788, 1790, 64, 133, 1791], 7), (57, .ifCond .eq 5, 3, [33], 4), (60, .iconst 0, 1, [], 2), (61, .ireturn, 1, [], 8), (62, .iconst (-1), 1, [], 2), (63, .istore 6, 2, [], 1), (65, .iconst 0, 1, [], 2), (66, .istore 7, 2, [], 1), (68, .iconst 0, 1, [], 2), (69, .istore 8, 2, [], 1), (71, .iconst 0, 1, [], 2), (72, .istore 9, 2, [], 1), (74, .iload 9, 2, [], 0), (76, .iload_n 2, 1, [], 0), (77, .if_icmp .ge 64, 3, [74], 4), (80, .aload_n 0, 1, [], 0), (81, .iload_n 1, 1, [], 0), (82, .iload 9, 2, [], 0), (84, .iadd, 1, [], 3), (85, .iload_n 3, 1, [], 0), (86, .iload 4, 2, [], 0), (88, .invokevirtual 384, 3, [3, 141, 12, 2142, 2144, 116, 133, 2145], 7), (91, .iload 6, 2, [], 0), (93, .iconst (-1), 1, [], 2), (94, .if_icmp .ne 10, 3, [57], 4), (97, .aload_n 0, 1, [], 0), (98, .getfield 374, 3, [12, 46, 1674], 5), (101, .goto 12, 3, [61], 4), (104, .iload 6, 2, [], 0), (106, .aload_n 0, 1, [], 0), (107, .getfield 374, 3, [12, 46, 1674], 5), (110, .invokestatic 233, 3, [4, 170, 1901, 1902, 133, 1903], 7), (113, .istore 6, 2, [], 1), (115, .iload 7, 2, [], 0), (117, .aload_n 0, 1, [], 0), (118, .getfield 374, 3, [12, 46, 1674], 5), (121, .invokestatic 236, 3, [4, 172, 1904, 1905, 133, 1906], 7), (124, .istore 7, 2, [], 1), (126, .iload 8, 2, [], 0), (128, .aload_n 0, 1, [], 0), (129, .getfield 374, 3, [12, 46, 1674], 5), (132, .iadd, 1, [], 3), (133, .istore 8, 2, [], 1), (135, .iinc 9 1, 3, [], 1), (138, .goto (-64), 3, [41], 4), (141, .iload 5, 2, [], 0), (143, .ifCond .ne 8, 3, [78], 4), (146, .iload 6, 2, [], 0), (148, .goto 16, 3, [84], 4), (151, .iload 5, 2, [], 0), (153, .iconst 1, 1, [], 2), (154, .if_icmp .ne 8, 3, [83], 4), (157, .iload 7, 2, [], 0), (159, .goto 5, 3, [84], 4), (162, .iload 8, 2, [], 0), (164, .ireturn, 1, [], 8)])
def xm_186 : xr_M := (yX12_stable, cX12_stable, 4, (some .int), [], 0, [(0, .aload_n 0, 1, [], 0), (1, .iconst 0, 1, [], 2), (2, .putfield 100, 3, [12, 0, 1628], 6), (5, .aload_n 0, 1, [], 0), (6, .invokevirtual 350, 3, [3, 181, 12, 2086, 2088, 110, 133, 2089], 7), (9, .lstore_n 1, 1, [], 9), (10, .iconst 0, 1, [], 2), (11, .istore_n 3, 1, [], 1), (12, .aload_n 0, 1, [], 0), (13, .lload_n 1, 1, [], 9), (14, .invokevirtual 354, 3, [3, 173, 12, 2090, 2092, 111, 133, 2093], 7), (17, .lload_n 1, 1, [], 9), (18, .lcmp, 1, [], 9), (19, .ifCond .eq 15, 3, [20], 4), (22, .aload_n 0, 1, [], 0), (23, .lload_n 1, 1, [], 9), (24, .invokevirtual 354, 3, [3, 173, 12, 2090, 2092, 111, 133, 2093], 7), (27, .lstore_n 1, 1, [], 9), (28, .iinc 3 1, 3, [], 1), (31, .goto (-19), 3, [8], 4), (34, .iload_n 3, 1, [], 0), (35, .ireturn, 1, [], 8)])
def xm_187 : xr_M := (yX12_stands, cX12_stands, 2, none, [], 0, [(0, .iconst 0, 1, [], 2), (1, .istore_n 1, 1, [], 1), (2, .iload_n 1, 1, [], 0), (3, .bipush 7, 2, [], 2), (5, .if_icmp .ge 21, 3, [15], 4), (8, .aload_n 0, 1, [], 0), (9, .getfield 23, 3, [12, 12, 1640], 5), (12, .iload_n 1, 1, [], 0), (13, .aload_n 0, 1, [], 0), (14, .getfield 20, 3, [12, 11, 1639], 5), (17, .iload_n 1, 1, [], 0), (18, .iaload, 1, [], 5), (19, .iastore, 1, [], 6), (20, .iinc 1 1, 3, [], 1), (23, .goto (-21), 3, [2], 4), (26, .aload_n 0, 1, [], 0), (27, .getfield 37, 3, [12, 16, 1644], 5), (30, .aload_n 0, 1, [], 0), (31, .getfield 40, 3, [12, 17, 1645], 5), (34, .aload_n 0, 1, [], 0), (35, .getfield 23, 3, [12, 12, 1640], 5), (38, .iconst 1, 1, [], 2), (39, .iaload, 1, [], 5), (40, .invokestatic 186, 3, [4, 168, 1622, 1623, 133, 1624], 7), (43, .aload_n 0, 1, [], 0), (44, .getfield 43, 3, [12, 18, 1646], 5), (47, .aload_n 0, 1, [], 0), (48, .getfield 46, 3, [12, 19, 1647], 5), (51, .aload_n 0, 1, [], 0), (52, .getfield 23, 3, [12, 12, 1640], 5), (55, .iconst 2, 1, [], 2), (56, .iaload, 1, [], 5), (57, .invokestatic 186, 3, [4, 168, 1622, 1623, 133, 1624], 7), (60, .iconst 0, 1, [], 2), (61, .istore_n 1, 1, [], 1), (62, .iload_n 1, 1, [], 0), (63, .aload_n 0, 1, [], 0), (64, .getfield 23, 3, [12, 12, 1640], 5), (67, .bipush 6, 2, [], 2), (69, .iaload, 1, [], 5), (70, .if_icmp .ge 21, 3, [51], 4), (73, .aload_n 0, 1, [], 0), (74, .getfield 32, 3, [12, 15, 1643], 5), (77, .iload_n 1, 1, [], 0), (78, .aload_n 0, 1, [], 0), (79, .getfield 29, 3, [12, 14, 1642], 5), (82, .iload_n 1, 1, [], 0), (83, .iaload, 1, [], 5), (84, .iastore, 1, [], 6), (85, .iinc 1 1, 3, [], 1), (88, .goto (-26), 3, [35], 4), (91, .iconst 0, 1, [], 2), (92, .istore_n 1, 1, [], 1), (93, .iload_n 1, 1, [], 0), (94, .bipush 72, 2, [], 2), (96, .if_icmp .ge 31, 3, [70], 4), (99, .aload_n 0, 1, [], 0), (100, .getfield 70, 3, [12, 30, 1658], 5), (103, .iload_n 1, 1, [], 0), (104, .iload_n 1, 1, [], 0), (105, .bipush 6, 2, [], 2), (107, .bipush 23, 2, [], 2), (109, .invokestatic 134, 3, [4, 161, 1625, 1626, 133, 1627], 7), (112, .ifCond .eq 7, 3, [66], 4), (115, .iconst (-1), 1, [], 2), (116, .goto 4, 3, [67], 4), (119, .iconst 0, 1, [], 2), (120, .iastore, 1, [], 6), (121, .iinc 1 1, 3, [], 1), (124, .goto (-31), 3, [53], 4), (127, .iconst 0, 1, [], 2), (128, .istore_n 1, 1, [], 1), (129, .iload_n 1, 1, [], 0), (130, .aload_n 0, 1, [], 0), (131, .getfield 23, 3, [12, 12, 1640], 5), (134, .iconst 0, 1, [], 2), (135, .iaload, 1, [], 5), (136, .if_icmp .ge 23, 3, [90], 4), (139, .aload_n 0, 1, [], 0), (140, .getfield 70, 3, [12, 30, 1658], 5), (143, .iconst 0, 1, [], 2), (144, .iload_n 1, 1, [], 0), (145, .iadd, 1, [], 3), (146, .aload_n 0, 1, [], 0), (147, .getfield 26, 3, [12, 13, 1641], 5), (150, .iload_n 1, 1, [], 0), (151, .iaload, 1, [], 5), (152, .iastore, 1, [], 6), (153, .iinc 1 1, 3, [], 1), (156, .goto (-27), 3, [72], 4), (159, .aload_n 0, 1, [], 0), (160, .getfield 70, 3, [12, 30, 1658], 5), (163, .bipush 70, 2, [], 2), (165, .iconst 1, 1, [], 2), (166, .iastore, 1, [], 6), (167, .aload_n 0, 1, [], 0), (168, .iconst 0, 1, [], 2), (169, .putfield 190, 3, [12, 20, 1648], 6), (172, .aload_n 0, 1, [], 0), (173, .iconst 0, 1, [], 2), (174, .putfield 193, 3, [12, 34, 1662], 6), (177, .aload_n 0, 1, [], 0), (178, .iconst 0, 1, [], 2), (179, .putfield 196, 3, [12, 35, 1663], 6), (182, .aload_n 0, 1, [], 0), (183, .iconst 0, 1, [], 2), (184, .putfield 199, 3, [12, 36, 1664], 6), (187, .aload_n 0, 1, [], 0), (188, .iconst 0, 1, [], 2), (189, .putfield 202, 3, [12, 37, 1665], 6), (192, .return_, 1, [], 8)])
def xm_188 : xr_M := (yX12_starts, cX12_starts, 2, none, [], 1, [(0, .aload_n 0, 1, [], 0), (1, .iconst 0, 1, [], 2), (2, .putfield 103, 3, [12, 1, 1629], 6), (5, .aload_n 0, 1, [], 0), (6, .iload_n 1, 1, [], 0), (7, .putfield 106, 3, [12, 2, 1630], 6), (10, .aload_n 0, 1, [], 0), (11, .iconst 0, 1, [], 2), (12, .putfield 109, 3, [12, 4, 1632], 6), (15, .aload_n 0, 1, [], 0), (16, .iconst 0, 1, [], 2), (17, .putfield 116, 3, [12, 5, 1633], 6), (20, .aload_n 0, 1, [], 0), (21, .iconst (-1), 1, [], 2), (22, .putfield 119, 3, [12, 6, 1634], 6), (25, .aload_n 0, 1, [], 0), (26, .iconst 0, 1, [], 2), (27, .putfield 156, 3, [12, 7, 1635], 6), (30, .aload_n 0, 1, [], 0), (31, .iconst 0, 1, [], 2), (32, .putfield 159, 3, [12, 8, 1636], 6), (35, .aload_n 0, 1, [], 0), (36, .invokevirtual 122, 3, [3, 139, 12, 1796, 1798, 66, 133, 1799], 7), (39, .return_, 1, [], 8)])
def xm_189 : xr_M := (yX12_status, cX12_status, 2, (some .int), [], 1, [(0, .aload_n 0, 1, [], 0), (1, .iconst 0, 1, [], 2), (2, .putfield 100, 3, [12, 0, 1628], 6), (5, .iload_n 1, 1, [], 0), (6, .iconst 0, 1, [], 2), (7, .iconst 1, 1, [], 2), (8, .invokestatic 134, 3, [4, 161, 1625, 1626, 133, 1627], 7), (11, .ifCond .eq 12, 3, [13], 4), (14, .aload_n 0, 1, [], 0), (15, .getfield 17, 3, [12, 10, 1638], 5), (18, .iload_n 1, 1, [], 0), (19, .iaload, 1, [], 5), (20, .goto 4, 3, [14], 4), (23, .iconst (-1), 1, [], 2), (24, .ireturn, 1, [], 8)])
def xm_190 : xr_M := (yX12_sums, cX12_sums, 2, (some .int), [], 1, [(0, .aload_n 0, 1, [], 0), (1, .iconst 0, 1, [], 2), (2, .putfield 100, 3, [12, 0, 1628], 6), (5, .aload_n 0, 1, [], 0), (6, .iload_n 1, 1, [], 0), (7, .iconst 0, 1, [], 2), (8, .bipush 6, 2, [], 2), (10, .invokestatic 134, 3, [4, 161, 1625, 1626, 133, 1627], 7), (13, .ifCond .ne 7, 3, [11], 4), (16, .iconst 1, 1, [], 2), (17, .goto 4, 3, [12], 4), (20, .iconst 0, 1, [], 2), (21, .iconst 1, 1, [], 2), (22, .iconst 1, 1, [], 2), (23, .invokevirtual 173, 3, [3, 136, 12, 1788, 1790, 64, 133, 1791], 7), (26, .ifCond .eq 5, 3, [18], 4), (29, .iconst 0, 1, [], 2), (30, .ireturn, 1, [], 8), (31, .iload_n 1, 1, [], 0), (32, .iconst 5, 1, [], 2), (33, .if_icmp .ge 22, 3, [31], 4), (36, .aload_n 0, 1, [], 0), (37, .getfield 70, 3, [12, 30, 1658], 5), (40, .bipush 30, 2, [], 2), (42, .bipush 6, 2, [], 2), (44, .iload_n 1, 1, [], 0), (45, .imul, 1, [], 3), (46, .iadd, 1, [], 3), (47, .bipush 6, 2, [], 2), (49, .invokestatic 321, 3, [4, 135, 2028, 2029, 133, 2030], 7), (52, .goto 14, 3, [38], 4), (55, .aload_n 0, 1, [], 0), (56, .aload_n 0, 1, [], 0), (57, .getfield 70, 3, [12, 30, 1658], 5), (60, .iload_n 1, 1, [], 0), (61, .iconst 4, 1, [], 2), (62, .isub, 1, [], 3), (63, .invokevirtual 324, 3, [3, 175, 12, 2031, 2033, 103, 133, 2034], 7), (66, .ireturn, 1, [], 8)])
def xm_191 : xr_M := (yX12_sure, cX12_sure, 5, (some .int), [], 1, [(0, .aload_n 0, 1, [], 0), (1, .iconst 0, 1, [], 2), (2, .putfield 100, 3, [12, 0, 1628], 6), (5, .aload_n 0, 1, [], 0), (6, .aload_n 0, 1, [], 0), (7, .iload_n 1, 1, [], 0), (8, .invokevirtual 309, 3, [3, 162, 12, 1988, 1990, 99, 133, 1991], 7), (11, .ifCond .ne 7, 3, [10], 4), (14, .iconst 1, 1, [], 2), (15, .goto 4, 3, [11], 4), (18, .iconst 0, 1, [], 2), (19, .iconst 1, 1, [], 2), (20, .iconst 0, 1, [], 2), (21, .invokevirtual 173, 3, [3, 136, 12, 1788, 1790, 64, 133, 1791], 7), (24, .ifCond .eq 5, 3, [17], 4), (27, .iconst 0, 1, [], 2), (28, .ireturn, 1, [], 8), (29, .bipush (-9), 2, [], 2), (31, .istore_n 2, 1, [], 1), (32, .aload_n 0, 1, [], 0), (33, .getfield 70, 3, [12, 30, 1658], 5), (36, .aload_n 0, 1, [], 0), (37, .getfield 73, 3, [12, 31, 1659], 5), (40, .invokestatic 305, 3, [4, 145, 1927, 1928, 133, 1929], 7), (43, .iconst 0, 1, [], 2), (44, .istore_n 3, 1, [], 1), (45, .iload_n 3, 1, [], 0), (46, .aload_n 0, 1, [], 0), (47, .getfield 23, 3, [12, 12, 1640], 5), (50, .iconst 1, 1, [], 2), (51, .iaload, 1, [], 5), (52, .iconst 1, 1, [], 2), (53, .iadd, 1, [], 3), (54, .aload_n 0, 1, [], 0), (55, .getfield 23, 3, [12, 12, 1640], 5), (58, .iconst 0, 1, [], 2), (59, .iaload, 1, [], 5), (60, .invokestatic 327, 3, [4, 176, 2043, 2044, 133, 2045], 7), (63, .if_icmp .ge 61, 3, [69], 4), (66, .aload_n 0, 1, [], 0), (67, .aload_n 0, 1, [], 0), (68, .getfield 73, 3, [12, 31, 1659], 5), (71, .iload_n 3, 1, [], 0), (72, .invokevirtual 330, 3, [3, 184, 12, 2046, 2048, 104, 133, 2049], 7), (75, .aload_n 0, 1, [], 0), (76, .aload_n 0, 1, [], 0), (77, .getfield 73, 3, [12, 31, 1659], 5), (80, .invokevirtual 358, 3, [3, 163, 12, 2106, 2108, 112, 133, 2109], 7), (83, .ifCond .ne 6, 3, [50], 4), (86, .goto 32, 3, [67], 4), (89, .aload_n 0, 1, [], 0), (90, .getfield 73, 3, [12, 31, 1659], 5), (93, .bipush 6, 2, [], 2), (95, .iload_n 1, 1, [], 0), (96, .iadd, 1, [], 3), (97, .iaload, 1, [], 5), (98, .istore 4, 2, [], 1), (100, .iload_n 2, 1, [], 0), (101, .bipush (-9), 2, [], 2), (103, .if_icmp .eq 12, 3, [65], 4), (106, .iload_n 2, 1, [], 0), (107, .iload 4, 2, [], 0), (109, .if_icmp .eq 6, 3, [65], 4), (112, .bipush (-3), 2, [], 2), (114, .ireturn, 1, [], 8), (115, .iload 4, 2, [], 0), (117, .istore_n 2, 1, [], 1), (118, .iinc 3 1, 3, [], 1), (121, .goto (-76), 3, [26], 4), (124, .iload_n 2, 1, [], 0), (125, .bipush (-9), 2, [], 2), (127, .if_icmp .ne 7, 3, [74], 4), (130, .iconst (-1), 1, [], 2), (131, .goto 14, 3, [80], 4), (134, .iload_n 2, 1, [], 0), (135, .iconst (-1), 1, [], 2), (136, .if_icmp .ne 8, 3, [79], 4), (139, .bipush (-2), 2, [], 2), (141, .goto 4, 3, [80], 4), (144, .iload_n 2, 1, [], 0), (145, .ireturn, 1, [], 8)])
def xm_192 : xr_M := (yX12_tellsNothing, cX12_tellsNothing, 2, none, [], 0, [(0, .iconst 0, 1, [], 2), (1, .istore_n 1, 1, [], 1), (2, .iload_n 1, 1, [], 0), (3, .bipush 7, 2, [], 2), (5, .if_icmp .ge 16, 3, [12], 4), (8, .aload_n 0, 1, [], 0), (9, .getfield 20, 3, [12, 11, 1639], 5), (12, .iload_n 1, 1, [], 0), (13, .iconst 0, 1, [], 2), (14, .iastore, 1, [], 6), (15, .iinc 1 1, 3, [], 1), (18, .goto (-16), 3, [2], 4), (21, .aload_n 0, 1, [], 0), (22, .getfield 20, 3, [12, 11, 1639], 5), (25, .iconst 3, 1, [], 2), (26, .bipush 20, 2, [], 2), (28, .iastore, 1, [], 6), (29, .return_, 1, [], 8)])
def xm_193 : xr_M := (yX12_thrown, cX12_thrown, 1, (some .int), [], 0, [(0, .aload_n 0, 1, [], 0), (1, .getfield 100, 3, [12, 0, 1628], 5), (4, .ireturn, 1, [], 8)])
def xm_194 : xr_M := (yX12_told, cX12_told, 2, (some .int), [], 1, [(0, .aload_n 0, 1, [], 0), (1, .iconst 0, 1, [], 2), (2, .putfield 100, 3, [12, 0, 1628], 6), (5, .aload_n 0, 1, [], 0), (6, .iload_n 1, 1, [], 0), (7, .iconst 0, 1, [], 2), (8, .bipush 8, 2, [], 2), (10, .invokestatic 134, 3, [4, 161, 1625, 1626, 133, 1627], 7), (13, .ifCond .ne 7, 3, [11], 4), (16, .iconst 1, 1, [], 2), (17, .goto 4, 3, [12], 4), (20, .iconst 0, 1, [], 2), (21, .iconst 1, 1, [], 2), (22, .iconst 1, 1, [], 2), (23, .invokevirtual 173, 3, [3, 136, 12, 1788, 1790, 64, 133, 1791], 7), (26, .ifCond .eq 5, 3, [18], 4), (29, .iconst 0, 1, [], 2), (30, .ireturn, 1, [], 8), (31, .iload_n 1, 1, [], 0), (32, .tableswitch 89 0 7 #[48, 48, 48, 55, 63, 71, 79, 84], 48, [45, 20, 20, 20, 25, 30, 35, 39, 42], 9), (80, .aload_n 0, 1, [], 0), (81, .getfield 23, 3, [12, 12, 1640], 5), (84, .iload_n 1, 1, [], 0), (85, .iaload, 1, [], 5), (86, .ireturn, 1, [], 8), (87, .aload_n 0, 1, [], 0), (88, .getfield 70, 3, [12, 30, 1658], 5), (91, .bipush 70, 2, [], 2), (93, .iaload, 1, [], 5), (94, .ireturn, 1, [], 8), (95, .aload_n 0, 1, [], 0), (96, .getfield 70, 3, [12, 30, 1658], 5), (99, .bipush 71, 2, [], 2), (101, .iaload, 1, [], 5), (102, .ireturn, 1, [], 8), (103, .aload_n 0, 1, [], 0), (104, .getfield 70, 3, [12, 30, 1658], 5), (107, .invokestatic 285, 3, [4, 137, 1965, 1966, 133, 1967], 7), (110, .ireturn, 1, [], 8), (111, .aload_n 0, 1, [], 0), (112, .getfield 193, 3, [12, 34, 1662], 5), (115, .ireturn, 1, [], 8), (116, .aload_n 0, 1, [], 0), (117, .getfield 199, 3, [12, 36, 1664], 5), (120, .ireturn, 1, [], 8), (121, .aload_n 0, 1, [], 0), (122, .getfield 23, 3, [12, 12, 1640], 5), (125, .iconst 3, 1, [], 2), (126, .iaload, 1, [], 5), (127, .ireturn, 1, [], 8)])
def xm_195 : xr_M := (yX12_turnsOf, cX12_turnsOf, 11, (some .int), [], 3, [(0, .aload_n 0, 1, [], 0), (1, .iconst 0, 1, [], 2), (2, .putfield 100, 3, [12, 0, 1628], 6), (5, .aload_n 0, 1, [], 0), (6, .aload_n 0, 1, [], 0), (7, .iload_n 1, 1, [], 0), (8, .invokevirtual 309, 3, [3, 162, 12, 1988, 1990, 99, 133, 1991], 7), (11, .ifCond .ne 7, 3, [10], 4), (14, .iconst 1, 1, [], 2), (15, .goto 4, 3, [11], 4), (18, .iconst 0, 1, [], 2), (19, .iconst 1, 1, [], 2), (20, .iconst 0, 1, [], 2), (21, .invokevirtual 173, 3, [3, 136, 12, 1788, 1790, 64, 133, 1791], 7), (24, .ifCond .ne 35, 3, [33], 4), (27, .aload_n 0, 1, [], 0), (28, .iload_n 2, 1, [], 0), (29, .iconst 1, 1, [], 2), (30, .iconst 5, 1, [], 2), (31, .invokestatic 134, 3, [4, 161, 1625, 1626, 133, 1627], 7), (34, .ifCond .eq 12, 3, [26], 4), (37, .iload_n 3, 1, [], 0), (38, .iconst 0, 1, [], 2), (39, .iconst 1, 1, [], 2), (40, .invokestatic 134, 3, [4, 161, 1625, 1626, 133, 1627], 7), (43, .ifCond .ne 7, 3, [28], 4), (46, .iconst 1, 1, [], 2), (47, .goto 4, 3, [29], 4), (50, .iconst 0, 1, [], 2), (51, .iconst 2, 1, [], 2), (52, .iconst 1, 1, [], 2), (53, .invokevirtual 173, 3, [3, 136, 12, 1788, 1790, 64, 133, 1791], 7), (56, .ifCond .eq 5, 3, [35], 4), (59, .iconst 0, 1, [], 2), (60, .ireturn, 1, [], 8), (61, .iconst (-1), 1, [], 2), (62, .istore 4, 2, [], 1), (64, .iconst 0, 1, [], 2), (65, .istore 5, 2, [], 1), (67, .iconst 0, 1, [], 2), (68, .istore 6, 2, [], 1), (70, .iload 6, 2, [], 0), (72, .aload_n 0, 1, [], 0), (73, .getfield 23, 3, [12, 12, 1640], 5), (76, .iconst 1, 1, [], 2), (77, .iaload, 1, [], 5), (78, .iconst 1, 1, [], 2), (79, .iadd, 1, [], 3), (80, .iload_n 2, 1, [], 0), (81, .invokestatic 327, 3, [4, 176, 2043, 2044, 133, 2045], 7), (84, .if_icmp .ge 170, 3, [149], 4), (87, .iconst 0, 1, [], 2), (88, .istore 7, 2, [], 1), (90, .iconst 0, 1, [], 2), (91, .istore 8, 2, [], 1), (93, .aload_n 0, 1, [], 0), (94, .getfield 70, 3, [12, 30, 1658], 5), (97, .aload_n 0, 1, [], 0), (98, .getfield 73, 3, [12, 31, 1659], 5), (101, .invokestatic 305, 3, [4, 145, 1927, 1928, 133, 1929], 7), (104, .iconst 0, 1, [], 2), (105, .istore 9, 2, [], 1), (107, .iload 9, 2, [], 0), (109, .iload_n 2, 1, [], 0), (110, .if_icmp .ge 120, 3, [139], 4), (113, .iload 6, 2, [], 0), (115, .aload_n 0, 1, [], 0), (116, .getfield 23, 3, [12, 12, 1640], 5), (119, .iconst 1, 1, [], 2), (120, .iaload, 1, [], 5), (121, .iconst 1, 1, [], 2), (122, .iadd, 1, [], 3), (123, .iload_n 2, 1, [], 0), (124, .iconst 1, 1, [], 2), (125, .isub, 1, [], 3), (126, .iload 9, 2, [], 0), (128, .isub, 1, [], 3), (129, .invokestatic 327, 3, [4, 176, 2043, 2044, 133, 2045], 7), (132, .idiv, 1, [], 9), (133, .aload_n 0, 1, [], 0), (134, .getfield 23, 3, [12, 12, 1640], 5), (137, .iconst 1, 1, [], 2), (138, .iaload, 1, [], 5), (139, .iconst 1, 1, [], 2), (140, .iadd, 1, [], 3), (141, .irem, 1, [], 9), (142, .iconst 1, 1, [], 2), (143, .isub, 1, [], 3), (144, .istore 10, 2, [], 1), (146, .aload_n 0, 1, [], 0), (147, .getfield 73, 3, [12, 31, 1659], 5), (150, .bipush 6, 2, [], 2), (152, .iload_n 1, 1, [], 0), (153, .iadd, 1, [], 3), (154, .iload 10, 2, [], 0), (156, .iastore, 1, [], 6), (157, .iload 7, 2, [], 0), (159, .iload 10, 2, [], 0), (161, .iconst (-1), 1, [], 2), (162, .if_icmp .ne 7, 3, [102], 4), (165, .iconst 0, 1, [], 2), (166, .goto 24, 3, [115], 4), (169, .aload_n 0, 1, [], 0), (170, .aload_n 0, 1, [], 0), (171, .getfield 73, 3, [12, 31, 1659], 5), (174, .iload_n 1, 1, [], 0), (175, .iload 10, 2, [], 0), (177, .invokevirtual 274, 3, [], 7), (180, .aload_n 0, 1, [], 0), (181, .getfield 40, 3, [12, 17, 1645], 5), (184, .iload 10, 2, [], 0), (186, .aaload, 1, [], 5), (187, .iconst 2, 1, [], 2), (188, .iaload, 1, [], 5), (189, .imul, 1, [], 3), (190, .iadd, 1, [], 3), (191, .istore 7, 2, [], 1), (193, .bipush 10, 2, [], 2), (195, .iload 8, 2, [], 0), (197, .imul, 1, [], 3), (198, .iload 10, 2, [], 0), (200, .iadd, 1, [], 3), (201, .iconst 1, 1, [], 2), (202, .iadd, 1, [], 3), (203, .istore 8, 2, [], 1), (205, .aload_n 0, 1, [], 0), (206, .aload_n 0, 1, [], 0), (207, .getfield 73, 3, [12, 31, 1659], 5), (210, .invokevirtual 282, 3, [3, 133, 12, 1961, 1963, 98, 133, 1964], 7), (213, .aload_n 0, 1, [], 0), (214, .getfield 73, 3, [12, 31, 1659], 5), (217, .bipush 70, 2, [], 2), (219, .dup2, 1, [], 9), (220, .iaload, 1, [], 5), (221, .iconst 1, 1, [], 2), (222, .iadd, 1, [], 3), (223, .iastore, 1, [], 6), (224, .iinc 9 1, 3, [], 1), (227, .goto (-120), 3, [62], 4), (230, .iload 7, 2, [], 0), (232, .iload 4, 2, [], 0), (234, .if_icmp .gt 6, 3, [143], 4), (237, .goto 11, 3, [147], 4), (240, .iload 7, 2, [], 0), (242, .istore 4, 2, [], 1), (244, .iload 8, 2, [], 0), (246, .istore 5, 2, [], 1), (248, .iinc 6 1, 3, [], 1), (251, .goto (-181), 3, [41], 4), (254, .iload_n 3, 1, [], 0), (255, .ifCond .ne 8, 3, [153], 4), (258, .iload 4, 2, [], 0), (260, .goto 5, 3, [154], 4), (263, .iload 5, 2, [], 0), (265, .ireturn, 1, [], 8)])
def xm_196 : xr_M := (yX12_undo, cX12_undo, 1, (some .int), [], 0, [(0, .aload_n 0, 1, [], 0), (1, .iconst 0, 1, [], 2), (2, .putfield 100, 3, [12, 0, 1628], 6), (5, .aload_n 0, 1, [], 0), (6, .getfield 196, 3, [12, 35, 1663], 5), (9, .ifCond .ne 5, 3, [8], 4), (12, .iconst (-1), 1, [], 2), (13, .ireturn, 1, [], 8), (14, .aload_n 0, 1, [], 0), (15, .dup, 1, [], 9), (16, .getfield 196, 3, [12, 35, 1663], 5), (19, .iconst 1, 1, [], 2), (20, .isub, 1, [], 3), (21, .putfield 196, 3, [12, 35, 1663], 6), (24, .aload_n 0, 1, [], 0), (25, .getfield 76, 3, [12, 32, 1660], 5), (28, .aload_n 0, 1, [], 0), (29, .getfield 196, 3, [12, 35, 1663], 5), (32, .aaload, 1, [], 5), (33, .aload_n 0, 1, [], 0), (34, .getfield 70, 3, [12, 30, 1658], 5), (37, .invokestatic 305, 3, [4, 145, 1927, 1928, 133, 1929], 7), (40, .aload_n 0, 1, [], 0), (41, .iconst 0, 1, [], 2), (42, .putfield 199, 3, [12, 36, 1664], 6), (45, .aload_n 0, 1, [], 0), (46, .getfield 196, 3, [12, 35, 1663], 5), (49, .ireturn, 1, [], 8)])
def xm_197 : xr_M := (yX12_wants, cX12_wants, 5, (some .boolean), [], 1, [(0, .iload_n 1, 1, [], 0), (1, .istore_n 2, 1, [], 1), (2, .iconst 0, 1, [], 2), (3, .istore_n 3, 1, [], 1), (4, .iconst 0, 1, [], 2), (5, .istore 4, 2, [], 1), (7, .iload 4, 2, [], 0), (9, .bipush 6, 2, [], 2), (11, .if_icmp .ge 17, 3, [16], 4), (14, .aload_n 0, 1, [], 0), (15, .getfield 85, 3, [12, 42, 1670], 5), (18, .iload 4, 2, [], 0), (20, .iconst 0, 1, [], 2), (21, .iastore, 1, [], 6), (22, .iinc 4 1, 3, [], 1), (25, .goto (-18), 3, [6], 4), (28, .iload_n 2, 1, [], 0), (29, .ifCond .le 44, 3, [44], 4), (32, .iload_n 2, 1, [], 0), (33, .bipush 10, 2, [], 2), (35, .irem, 1, [], 9), (36, .iconst 1, 1, [], 2), (37, .isub, 1, [], 3), (38, .istore 4, 2, [], 1), (40, .iload_n 2, 1, [], 0), (41, .bipush 10, 2, [], 2), (43, .idiv, 1, [], 9), (44, .istore_n 2, 1, [], 1), (45, .aload_n 0, 1, [], 0), (46, .iload 4, 2, [], 0), (48, .invokevirtual 312, 3, [3, 164, 12, 1996, 1998, 100, 133, 1999], 7), (51, .ifCond .ne 5, 3, [34], 4), (54, .iconst 0, 1, [], 2), (55, .ireturn, 1, [], 8), (56, .aload_n 0, 1, [], 0), (57, .getfield 85, 3, [12, 42, 1670], 5), (60, .iload 4, 2, [], 0), (62, .dup2, 1, [], 9), (63, .iaload, 1, [], 5), (64, .iconst 1, 1, [], 2), (65, .iadd, 1, [], 3), (66, .iastore, 1, [], 6), (67, .iinc 3 1, 3, [], 1), (70, .goto (-42), 3, [16], 4), (73, .iload_n 1, 1, [], 0), (74, .ifCond .lt 17, 3, [54], 4), (77, .iload_n 3, 1, [], 0), (78, .aload_n 0, 1, [], 0), (79, .getfield 23, 3, [12, 12, 1640], 5), (82, .iconst 0, 1, [], 2), (83, .iaload, 1, [], 5), (84, .if_icmp .gt 7, 3, [54], 4), (87, .iconst 1, 1, [], 2), (88, .goto 4, 3, [55], 4), (91, .iconst 0, 1, [], 2), (92, .ireturn, 1, [], 8)])
def xm_198 : xr_M := (yX12_work, cX12_work, 2, (some .int), [], 1, [(0, .aload_n 0, 1, [], 0), (1, .iconst 0, 1, [], 2), (2, .putfield 100, 3, [12, 0, 1628], 6), (5, .aload_n 0, 1, [], 0), (6, .iload_n 1, 1, [], 0), (7, .iconst 0, 1, [], 2), (8, .aload_n 0, 1, [], 0), (9, .getfield 103, 3, [12, 1, 1629], 5), (12, .invokestatic 134, 3, [4, 161, 1625, 1626, 133, 1627], 7), (15, .ifCond .eq 10, 3, [13], 4), (18, .iload_n 1, 1, [], 0), (19, .sipush 200, 3, [], 2), (22, .if_icmp .le 7, 3, [15], 4), (25, .iconst 1, 1, [], 2), (26, .goto 4, 3, [16], 4), (29, .iconst 0, 1, [], 2), (30, .iconst 1, 1, [], 2), (31, .iconst 1, 1, [], 2), (32, .invokevirtual 173, 3, [3, 136, 12, 1788, 1790, 64, 133, 1791], 7), (35, .ifCond .eq 5, 3, [22], 4), (38, .iconst 0, 1, [], 2), (39, .ireturn, 1, [], 8), (40, .aload_n 0, 1, [], 0), (41, .getfield 196, 3, [12, 35, 1663], 5), (44, .bipush 20, 2, [], 2), (46, .if_icmp .ne 16, 3, [34], 4), (49, .aload_n 0, 1, [], 0), (50, .iconst 0, 1, [], 2), (51, .putfield 103, 3, [12, 1, 1629], 6), (54, .aload_n 0, 1, [], 0), (55, .iconst (-1), 1, [], 2), (56, .putfield 9, 3, [12, 3, 1631], 6), (59, .bipush (-20), 2, [], 2), (61, .ireturn, 1, [], 8), (62, .aload_n 0, 1, [], 0), (63, .iload_n 1, 1, [], 0), (64, .invokevirtual 177, 3, [3, 188, 12, 1792, 1794, 65, 133, 1795], 7), (67, .aload_n 0, 1, [], 0), (68, .iconst 0, 1, [], 2), (69, .putfield 262, 3, [12, 29, 1657], 6), (72, .aload_n 0, 1, [], 0), (73, .getfield 116, 3, [12, 5, 1633], 5), (76, .ifCond .ne 25, 3, [53], 4), (79, .aload_n 0, 1, [], 0), (80, .getfield 109, 3, [12, 4, 1632], 5), (83, .aload_n 0, 1, [], 0), (84, .getfield 106, 3, [12, 2, 1630], 5), (87, .if_icmp .ge 14, 3, [53], 4), (90, .aload_n 0, 1, [], 0), (91, .invokevirtual 271, 3, [], 7), (94, .aload_n 0, 1, [], 0), (95, .invokevirtual 122, 3, [3, 139, 12, 1796, 1798, 66, 133, 1799], 7), (98, .goto (-26), 3, [40], 4), (101, .aload_n 0, 1, [], 0), (102, .getfield 116, 3, [12, 5, 1633], 5), (105, .ifCond .eq 8, 3, [59], 4), (108, .aload_n 0, 1, [], 0), (109, .invokevirtual 183, 3, [], 7), (112, .ireturn, 1, [], 8), (113, .aload_n 0, 1, [], 0), (114, .iconst (-1), 1, [], 2), (115, .putfield 9, 3, [12, 3, 1631], 6), (118, .aload_n 0, 1, [], 0), (119, .getfield 70, 3, [12, 30, 1658], 5), (122, .aload_n 0, 1, [], 0), (123, .getfield 76, 3, [12, 32, 1660], 5), (126, .aload_n 0, 1, [], 0), (127, .getfield 196, 3, [12, 35, 1663], 5), (130, .aaload, 1, [], 5), (131, .invokestatic 305, 3, [4, 145, 1927, 1928, 133, 1929], 7), (134, .aload_n 0, 1, [], 0), (135, .dup, 1, [], 9), (136, .getfield 196, 3, [12, 35, 1663], 5), (139, .iconst 1, 1, [], 2), (140, .iadd, 1, [], 3), (141, .putfield 196, 3, [12, 35, 1663], 6), (144, .aload_n 0, 1, [], 0), (145, .iconst 0, 1, [], 2), (146, .putfield 292, 3, [12, 40, 1668], 6), (149, .aload_n 0, 1, [], 0), (150, .iconst 0, 1, [], 2), (151, .putfield 302, 3, [12, 41, 1669], 6), (154, .aload_n 0, 1, [], 0), (155, .iconst 0, 1, [], 2), (156, .putfield 199, 3, [12, 36, 1664], 6), (159, .aload_n 0, 1, [], 0), (160, .iconst 0, 1, [], 2), (161, .aload_n 0, 1, [], 0), (162, .getfield 262, 3, [12, 29, 1657], 5), (165, .invokevirtual 295, 3, [3, 158, 12, 1930, 1932, 91, 133, 1933], 7), (168, .aload_n 0, 1, [], 0), (169, .getfield 302, 3, [12, 41, 1669], 5), (172, .ireturn, 1, [], 8)])
def xm_199 : xr_M := (yX12_worthOf, cX12_worthOf, 4, (some .int), [], 1, [(0, .iconst 0, 1, [], 2), (1, .istore_n 2, 1, [], 1), (2, .aload_n 0, 1, [], 0), (3, .aload_n 1, 1, [], 0), (4, .invokevirtual 278, 3, [3, 169, 12, 1942, 1944, 94, 133, 1945], 7), (7, .iconst 0, 1, [], 2), (8, .istore_n 3, 1, [], 1), (9, .iload_n 3, 1, [], 0), (10, .aload_n 0, 1, [], 0), (11, .getfield 23, 3, [12, 12, 1640], 5), (14, .iconst 0, 1, [], 2), (15, .iaload, 1, [], 5), (16, .if_icmp .ge 46, 3, [42], 4), (19, .iload_n 2, 1, [], 0), (20, .aload_n 1, 1, [], 0), (21, .bipush 6, 2, [], 2), (23, .iload_n 3, 1, [], 0), (24, .iadd, 1, [], 3), (25, .iaload, 1, [], 5), (26, .iconst (-1), 1, [], 2), (27, .if_icmp .ne 7, 3, [23], 4), (30, .iconst 0, 1, [], 2), (31, .goto 23, 3, [38], 4), (34, .aload_n 0, 1, [], 0), (35, .getfield 82, 3, [12, 39, 1667], 5), (38, .iload_n 3, 1, [], 0), (39, .iaload, 1, [], 5), (40, .aload_n 0, 1, [], 0), (41, .getfield 40, 3, [12, 17, 1645], 5), (44, .aload_n 1, 1, [], 0), (45, .bipush 6, 2, [], 2), (47, .iload_n 3, 1, [], 0), (48, .iadd, 1, [], 3), (49, .iaload, 1, [], 5), (50, .aaload, 1, [], 5), (51, .iconst 2, 1, [], 2), (52, .iaload, 1, [], 5), (53, .imul, 1, [], 3), (54, .iadd, 1, [], 3), (55, .istore_n 2, 1, [], 1), (56, .iinc 3 1, 3, [], 1), (59, .goto (-50), 3, [7], 4), (62, .iload_n 2, 1, [], 0), (63, .ireturn, 1, [], 8)])
def xm_200 : xr_M := (yX12_would, cX12_would, 8, (some .int), [], 6, [(0, .aload_n 0, 1, [], 0), (1, .iconst 0, 1, [], 2), (2, .putfield 100, 3, [12, 0, 1628], 6), (5, .aload_n 0, 1, [], 0), (6, .iload_n 1, 1, [], 0), (7, .iconst 0, 1, [], 2), (8, .bipush 9, 2, [], 2), (10, .invokestatic 134, 3, [4, 161, 1625, 1626, 133, 1627], 7), (13, .ifCond .eq 54, 3, [34], 4), (16, .iload_n 2, 1, [], 0), (17, .iconst 0, 1, [], 2), (18, .bipush 9, 2, [], 2), (20, .invokestatic 134, 3, [4, 161, 1625, 1626, 133, 1627], 7), (23, .ifCond .eq 44, 3, [34], 4), (26, .iload_n 3, 1, [], 0), (27, .iconst 0, 1, [], 2), (28, .iconst 1, 1, [], 2), (29, .invokestatic 134, 3, [4, 161, 1625, 1626, 133, 1627], 7), (32, .ifCond .eq 35, 3, [34], 4), (35, .iload 4, 2, [], 0), (37, .iconst 1, 1, [], 2), (38, .bipush 9, 2, [], 2), (40, .invokestatic 134, 3, [4, 161, 1625, 1626, 133, 1627], 7), (43, .ifCond .eq 24, 3, [34], 4), (46, .iload 5, 2, [], 0), (48, .iconst 0, 1, [], 2), (49, .bipush 18, 2, [], 2), (51, .invokestatic 134, 3, [4, 161, 1625, 1626, 133, 1627], 7), (54, .ifCond .eq 13, 3, [34], 4), (57, .iload 6, 2, [], 0), (59, .iconst 0, 1, [], 2), (60, .iconst 1, 1, [], 2), (61, .invokestatic 134, 3, [4, 161, 1625, 1626, 133, 1627], 7), (64, .ifCond .ne 7, 3, [36], 4), (67, .iconst 1, 1, [], 2), (68, .goto 4, 3, [37], 4), (71, .iconst 0, 1, [], 2), (72, .iconst 1, 1, [], 2), (73, .iconst 1, 1, [], 2), (74, .invokevirtual 173, 3, [3, 136, 12, 1788, 1790, 64, 133, 1791], 7), (77, .ifCond .eq 5, 3, [43], 4), (80, .iconst 0, 1, [], 2), (81, .ireturn, 1, [], 8), (82, .iconst 0, 1, [], 2), (83, .istore 7, 2, [], 1), (85, .iload 7, 2, [], 0), (87, .bipush 9, 2, [], 2), (89, .if_icmp .ge 17, 3, [55], 4), (92, .aload_n 0, 1, [], 0), (93, .getfield 64, 3, [12, 27, 1655], 5), (96, .iload 7, 2, [], 0), (98, .iconst 0, 1, [], 2), (99, .iastore, 1, [], 6), (100, .iinc 7 1, 3, [], 1), (103, .goto (-18), 3, [45], 4), (106, .aload_n 0, 1, [], 0), (107, .getfield 64, 3, [12, 27, 1655], 5), (110, .iconst 0, 1, [], 2), (111, .iload_n 1, 1, [], 0), (112, .iastore, 1, [], 6), (113, .aload_n 0, 1, [], 0), (114, .getfield 64, 3, [12, 27, 1655], 5), (117, .iconst 1, 1, [], 2), (118, .iload_n 2, 1, [], 0), (119, .iastore, 1, [], 6), (120, .aload_n 0, 1, [], 0), (121, .getfield 64, 3, [12, 27, 1655], 5), (124, .iconst 2, 1, [], 2), (125, .iload_n 3, 1, [], 0), (126, .iastore, 1, [], 6), (127, .aload_n 0, 1, [], 0), (128, .getfield 64, 3, [12, 27, 1655], 5), (131, .iconst 3, 1, [], 2), (132, .iload 4, 2, [], 0), (134, .iastore, 1, [], 6), (135, .aload_n 0, 1, [], 0), (136, .getfield 64, 3, [12, 27, 1655], 5), (139, .iconst 5, 1, [], 2), (140, .iload 5, 2, [], 0), (142, .iastore, 1, [], 6), (143, .aload_n 0, 1, [], 0), (144, .getfield 64, 3, [12, 27, 1655], 5), (147, .bipush 7, 2, [], 2), (149, .iload 6, 2, [], 0), (151, .iastore, 1, [], 6), (152, .aload_n 0, 1, [], 0), (153, .invokevirtual 256, 3, [3, 202, 12, 1890, 1892, 85, 133, 1893], 7), (156, .ireturn, 1, [], 8)])
def xm_201 : xr_M := (yX12_yearEnds, cX12_yearEnds, 5, none, [], 1, [(0, .aload_n 0, 1, [], 0), (1, .aload_n 1, 1, [], 0), (2, .invokevirtual 278, 3, [3, 169, 12, 1942, 1944, 94, 133, 1945], 7), (5, .aload_n 0, 1, [], 0), (6, .aload_n 1, 1, [], 0), (7, .invokevirtual 282, 3, [3, 133, 12, 1961, 1963, 98, 133, 1964], 7), (10, .iconst 0, 1, [], 2), (11, .istore_n 2, 1, [], 1), (12, .iload_n 2, 1, [], 0), (13, .aload_n 0, 1, [], 0), (14, .getfield 23, 3, [12, 12, 1640], 5), (17, .iconst 0, 1, [], 2), (18, .iaload, 1, [], 5), (19, .if_icmp .ge 95, 3, [78], 4), (22, .aload_n 1, 1, [], 0), (23, .bipush 6, 2, [], 2), (25, .iload_n 2, 1, [], 0), (26, .iadd, 1, [], 3), (27, .iaload, 1, [], 5), (28, .iconst (-1), 1, [], 2), (29, .if_icmp .ne 6, 3, [22], 4), (32, .goto 76, 3, [76], 4), (35, .aload_n 1, 1, [], 0), (36, .bipush 6, 2, [], 2), (38, .iload_n 2, 1, [], 0), (39, .iadd, 1, [], 3), (40, .iaload, 1, [], 5), (41, .istore_n 3, 1, [], 1), (42, .aload_n 0, 1, [], 0), (43, .getfield 82, 3, [12, 39, 1667], 5), (46, .iload_n 2, 1, [], 0), (47, .iaload, 1, [], 5), (48, .aload_n 0, 1, [], 0), (49, .getfield 23, 3, [12, 12, 1640], 5), (52, .iconst 3, 1, [], 2), (53, .iaload, 1, [], 5), (54, .aload_n 1, 1, [], 0), (55, .invokestatic 285, 3, [4, 137, 1965, 1966, 133, 1967], 7), (58, .isub, 1, [], 3), (59, .invokestatic 233, 3, [4, 170, 1901, 1902, 133, 1903], 7), (62, .istore 4, 2, [], 1), (64, .aload_n 1, 1, [], 0), (65, .bipush 30, 2, [], 2), (67, .iload_n 3, 1, [], 0), (68, .iadd, 1, [], 3), (69, .dup2, 1, [], 9), (70, .iaload, 1, [], 5), (71, .aload_n 0, 1, [], 0), (72, .getfield 82, 3, [12, 39, 1667], 5), (75, .iload_n 2, 1, [], 0), (76, .iaload, 1, [], 5), (77, .iadd, 1, [], 3), (78, .iastore, 1, [], 6), (79, .aload_n 1, 1, [], 0), (80, .bipush 24, 2, [], 2), (82, .iload_n 3, 1, [], 0), (83, .iadd, 1, [], 3), (84, .dup2, 1, [], 9), (85, .iaload, 1, [], 5), (86, .iload 4, 2, [], 0), (88, .iadd, 1, [], 3), (89, .iastore, 1, [], 6), (90, .aload_n 1, 1, [], 0), (91, .bipush 48, 2, [], 2), (93, .iload_n 3, 1, [], 0), (94, .iadd, 1, [], 3), (95, .dup2, 1, [], 9), (96, .iaload, 1, [], 5), (97, .aload_n 0, 1, [], 0), (98, .getfield 82, 3, [12, 39, 1667], 5), (101, .iload_n 2, 1, [], 0), (102, .iaload, 1, [], 5), (103, .iload 4, 2, [], 0), (105, .isub, 1, [], 3), (106, .iadd, 1, [], 3), (107, .iastore, 1, [], 6), (108, .iinc 2 1, 3, [], 1), (111, .goto (-99), 3, [8], 4), (114, .iconst 0, 1, [], 2), (115, .istore_n 2, 1, [], 1), (116, .iload_n 2, 1, [], 0), (117, .aload_n 0, 1, [], 0), (118, .getfield 23, 3, [12, 12, 1640], 5), (121, .iconst 2, 1, [], 2), (122, .iaload, 1, [], 5), (123, .if_icmp .ge 111, 3, [163], 4), (126, .aload_n 0, 1, [], 0), (127, .getfield 46, 3, [12, 19, 1647], 5), (130, .iload_n 2, 1, [], 0), (131, .aaload, 1, [], 5), (132, .iconst 0, 1, [], 2), (133, .iaload, 1, [], 5), (134, .aload_n 1, 1, [], 0), (135, .bipush 70, 2, [], 2), (137, .iaload, 1, [], 5), (138, .if_icmp .eq 6, 3, [97], 4), (141, .goto 87, 3, [161], 4), (144, .aload_n 0, 1, [], 0), (145, .getfield 46, 3, [12, 19, 1647], 5), (148, .iload_n 2, 1, [], 0), (149, .aaload, 1, [], 5), (150, .iconst 1, 1, [], 2), (151, .iaload, 1, [], 5), (152, .istore_n 3, 1, [], 1), (153, .aload_n 0, 1, [], 0), (154, .getfield 46, 3, [12, 19, 1647], 5), (157, .iload_n 2, 1, [], 0), (158, .aaload, 1, [], 5), (159, .iconst 2, 1, [], 2), (160, .iaload, 1, [], 5), (161, .istore 4, 2, [], 1), (163, .aload_n 1, 1, [], 0), (164, .bipush 24, 2, [], 2), (166, .iload_n 3, 1, [], 0), (167, .iadd, 1, [], 3), (168, .iaload, 1, [], 5), (169, .iload 4, 2, [], 0), (171, .if_icmp .ge 13, 3, [125], 4), (174, .aload_n 1, 1, [], 0), (175, .bipush 60, 2, [], 2), (177, .iload_n 2, 1, [], 0), (178, .iadd, 1, [], 3), (179, .iconst 2, 1, [], 2), (180, .iastore, 1, [], 6), (181, .goto 47, 3, [161], 4), (184, .aload_n 1, 1, [], 0), (185, .bipush 60, 2, [], 2), (187, .iload_n 2, 1, [], 0), (188, .iadd, 1, [], 3), (189, .iconst 1, 1, [], 2), (190, .iastore, 1, [], 6), (191, .aload_n 1, 1, [], 0), (192, .bipush 24, 2, [], 2), (194, .iload_n 3, 1, [], 0), (195, .iadd, 1, [], 3), (196, .dup2, 1, [], 9), (197, .iaload, 1, [], 5), (198, .iload 4, 2, [], 0), (200, .isub, 1, [], 3), (201, .iastore, 1, [], 6), (202, .aload_n 1, 1, [], 0), (203, .bipush 54, 2, [], 2), (205, .iload_n 3, 1, [], 0), (206, .iadd, 1, [], 3), (207, .dup2, 1, [], 9), (208, .iaload, 1, [], 5), (209, .iload 4, 2, [], 0), (211, .iadd, 1, [], 3), (212, .iastore, 1, [], 6), (213, .aload_n 1, 1, [], 0), (214, .bipush 71, 2, [], 2), (216, .dup2, 1, [], 9), (217, .iaload, 1, [], 5), (218, .aload_n 0, 1, [], 0), (219, .getfield 46, 3, [12, 19, 1647], 5), (222, .iload_n 2, 1, [], 0), (223, .aaload, 1, [], 5), (224, .iconst 3, 1, [], 2), (225, .iaload, 1, [], 5), (226, .iadd, 1, [], 3), (227, .iastore, 1, [], 6), (228, .iinc 2 1, 3, [], 1), (231, .goto (-115), 3, [80], 4), (234, .iconst 0, 1, [], 2), (235, .istore_n 2, 1, [], 1), (236, .iload_n 2, 1, [], 0), (237, .aload_n 0, 1, [], 0), (238, .getfield 23, 3, [12, 12, 1640], 5), (241, .iconst 1, 1, [], 2), (242, .iaload, 1, [], 5), (243, .if_icmp .ge 46, 3, [204], 4), (246, .aload_n 1, 1, [], 0), (247, .bipush 24, 2, [], 2), (249, .iload_n 2, 1, [], 0), (250, .iadd, 1, [], 3), (251, .iaload, 1, [], 5), (252, .aload_n 0, 1, [], 0), (253, .getfield 23, 3, [12, 12, 1640], 5), (256, .iconst 4, 1, [], 2), (257, .iaload, 1, [], 5), (258, .imul, 1, [], 3), (259, .bipush 8, 2, [], 2), (261, .idiv, 1, [], 9), (262, .istore_n 3, 1, [], 1), (263, .aload_n 1, 1, [], 0), (264, .bipush 24, 2, [], 2), (266, .iload_n 2, 1, [], 0), (267, .iadd, 1, [], 3), (268, .dup2, 1, [], 9), (269, .iaload, 1, [], 5), (270, .iload_n 3, 1, [], 0), (271, .isub, 1, [], 3), (272, .iastore, 1, [], 6), (273, .aload_n 1, 1, [], 0), (274, .bipush 42, 2, [], 2), (276, .iload_n 2, 1, [], 0), (277, .iadd, 1, [], 3), (278, .dup2, 1, [], 9), (279, .iaload, 1, [], 5), (280, .iload_n 3, 1, [], 0), (281, .iadd, 1, [], 3), (282, .iastore, 1, [], 6), (283, .iinc 2 1, 3, [], 1), (286, .goto (-50), 3, [165], 4), (289, .aload_n 1, 1, [], 0), (290, .bipush 70, 2, [], 2), (292, .dup2, 1, [], 9), (293, .iaload, 1, [], 5), (294, .iconst 1, 1, [], 2), (295, .iadd, 1, [], 3), (296, .iastore, 1, [], 6), (297, .return_, 1, [], 8)])
def xm_202 : xr_M := (yX12_yieldNow, cX12_yieldNow, 1, (some .int), [], 0, [(0, .iconst 0, 1, [], 2), (1, .bipush 99, 2, [], 2), (3, .aload_n 0, 1, [], 0), (4, .invokevirtual 243, 3, [3, 143, 12, 1894, 1896, 86, 133, 1897], 7), (7, .invokestatic 233, 3, [4, 170, 1901, 1902, 133, 1903], 7), (10, .invokestatic 236, 3, [4, 172, 1904, 1905, 133, 1906], 7), (13, .ireturn, 1, [], 8)])
def xm_203 : xr_M := (yX12_yields, cX12_yields, 3, (some .int), [], 2, [(0, .aload_n 0, 1, [], 0), (1, .iconst 0, 1, [], 2), (2, .putfield 100, 3, [12, 0, 1628], 6), (5, .aload_n 0, 1, [], 0), (6, .aload_n 0, 1, [], 0), (7, .iload_n 1, 1, [], 0), (8, .invokevirtual 309, 3, [3, 162, 12, 1988, 1990, 99, 133, 1991], 7), (11, .ifCond .eq 11, 3, [12], 4), (14, .aload_n 0, 1, [], 0), (15, .iload_n 2, 1, [], 0), (16, .invokevirtual 312, 3, [3, 164, 12, 1996, 1998, 100, 133, 1999], 7), (19, .ifCond .ne 7, 3, [14], 4), (22, .iconst 1, 1, [], 2), (23, .goto 4, 3, [15], 4), (26, .iconst 0, 1, [], 2), (27, .iconst 1, 1, [], 2), (28, .iconst 0, 1, [], 2), (29, .invokevirtual 173, 3, [3, 136, 12, 1788, 1790, 64, 133, 1791], 7), (32, .ifCond .eq 5, 3, [21], 4), (35, .iconst 0, 1, [], 2), (36, .ireturn, 1, [], 8), (37, .aload_n 0, 1, [], 0), (38, .aload_n 0, 1, [], 0), (39, .getfield 70, 3, [12, 30, 1658], 5), (42, .iload_n 1, 1, [], 0), (43, .iload_n 2, 1, [], 0), (44, .invokevirtual 274, 3, [], 7), (47, .ireturn, 1, [], 8)])
def xm_204 : xr_M := (yJ7_copyOf_9075b, cJ7_copyOf_9075b, 3, (some (.array .byte)), [], 2, [(0, .iload_n 1, 1, [], 0), (1, .aload_n 0, 1, [], 0), (2, .arraylength, 1, [], 5), (3, .if_icmp .ne 11, 3, [8], 4), (6, .aload_n 0, 1, [], 0), (7, .invokevirtual 310, 3, [], 7), (10, .checkcast 311, 3, [], 11), (13, .areturn, 1, [], 8), (14, .iload_n 1, 1, [], 0), (15, .newarray .byte, 2, [198], 10), (17, .astore_n 2, 1, [], 9), (18, .aload_n 0, 1, [], 0), (19, .iconst 0, 1, [], 2), (20, .aload_n 2, 1, [], 0), (21, .iconst 0, 1, [], 2), (22, .aload_n 0, 1, [], 0), (23, .arraylength, 1, [], 5), (24, .iload_n 1, 1, [], 0), (25, .invokestatic 304, 3, [20, 734, 735, 134, 736], 11), (28, .invokestatic 150, 3, [0, 737, 591, 590, 132], 11), (31, .aload_n 2, 1, [], 0), (32, .areturn, 1, [], 8)])
def xm_205 : xr_M := (yJ7_fill_53178, cJ7_fill_53178, 4, none, [], 2, [(0, .iconst 0, 1, [], 2), (1, .istore_n 2, 1, [], 1), (2, .aload_n 0, 1, [], 0), (3, .arraylength, 1, [], 5), (4, .istore_n 3, 1, [], 1), (5, .iload_n 2, 1, [], 0), (6, .iload_n 3, 1, [], 0), (7, .if_icmp .ge 13, 3, [14], 4), (10, .aload_n 0, 1, [], 0), (11, .iload_n 2, 1, [], 0), (12, .iload_n 1, 1, [], 0), (13, .iastore, 1, [], 6), (14, .iinc 2 1, 3, [], 1), (17, .goto (-12), 3, [5], 4), (20, .return_, 1, [], 8)])
set_option maxRecDepth 100000 in
def xm_law : xr_M := (yL_law_, code, 8, (some .boolean), [], 1, [(0, .new 8, 3, [11, 146, 147, 120], 10), (3, .dup, 1, [], 9), (4, .invokespecial 98, 3, [5, 0, 148, 149, 120, 150], 7), (7, .astore_n 1, 1, [], 9), (8, .new 99, 3, [12, 1606, 1607, 133], 10), (11, .dup, 1, [], 9), (12, .invokespecial 101, 3, [5, 131, 1608, 1609, 133, 1610], 7), (15, .astore_n 2, 1, [], 9), (16, .iconst 1, 1, [], 2), (17, .newarray .long, 2, [2175], 10), (19, .astore_n 3, 1, [], 9), (20, .iconst 0, 1, [], 2), (21, .istore 4, 2, [], 1), (23, .iload 4, 2, [], 0), (25, .aload_n 0, 1, [], 0), (26, .arraylength, 1, [], 5), (27, .bipush 7, 2, [], 2), (29, .isub, 1, [], 3), (30, .if_icmp .gt 2094, 3, [1289], 4), (33, .aload_n 0, 1, [], 0), (34, .iload 4, 2, [], 0), (36, .iaload, 1, [], 5), (37, .bipush 63, 2, [], 2), (39, .iand, 1, [], 3), (40, .tableswitch 2078 0 34 #[156, 229, 285, 341, 397, 453, 466, 479, 535, 603, 671, 739, 807, 925, 981, 994, 1050, 1106, 1186, 1254, 1322, 1378, 1433, 1446, 1502, 1558, 1614, 1682, 1750, 1842, 1946, 2002, 2015, 2028, 2053], 156, [1287, 25, 82, 117, 152, 187, 222, 229, 236, 271, 316, 361, 406, 451, 536, 571, 578, 613, 648, 703, 748, 793, 828, 862, 869, 904, 939, 974, 1019, 1064, 1129, 1204, 1239, 1246, 1253, 1270], 9), (196, .aload_n 1, 1, [], 0), (197, .aload_n 0, 1, [], 0), (198, .iload 4, 2, [], 0), (200, .iconst 1, 1, [], 2), (201, .iadd, 1, [], 3), (202, .iaload, 1, [], 5), (203, .aload_n 0, 1, [], 0), (204, .iload 4, 2, [], 0), (206, .iconst 2, 1, [], 2), (207, .iadd, 1, [], 3), (208, .iaload, 1, [], 5), (209, .aload_n 0, 1, [], 0), (210, .iload 4, 2, [], 0), (212, .iconst 3, 1, [], 2), (213, .iadd, 1, [], 3), (214, .iaload, 1, [], 5), (215, .aload_n 0, 1, [], 0), (216, .iload 4, 2, [], 0), (218, .iconst 4, 1, [], 2), (219, .iadd, 1, [], 3), (220, .iaload, 1, [], 5), (221, .aload_n 0, 1, [], 0), (222, .iload 4, 2, [], 0), (224, .iconst 5, 1, [], 2), (225, .iadd, 1, [], 3), (226, .iaload, 1, [], 5), (227, .invokevirtual 102, 3, [3, 13, 11, 653, 654, 655, 120, 656], 7), (230, .aload_n 2, 1, [], 0), (231, .aload_n 0, 1, [], 0), (232, .iload 4, 2, [], 0), (234, .iconst 1, 1, [], 2), (235, .iadd, 1, [], 3), (236, .iaload, 1, [], 5), (237, .aload_n 0, 1, [], 0), (238, .iload 4, 2, [], 0), (240, .iconst 2, 1, [], 2), (241, .iadd, 1, [], 3), (242, .iaload, 1, [], 5), (243, .aload_n 0, 1, [], 0), (244, .iload 4, 2, [], 0), (246, .iconst 3, 1, [], 2), (247, .iadd, 1, [], 3), (248, .iaload, 1, [], 5), (249, .aload_n 0, 1, [], 0), (250, .iload 4, 2, [], 0), (252, .iconst 4, 1, [], 2), (253, .iadd, 1, [], 3), (254, .iaload, 1, [], 5), (255, .aload_n 0, 1, [], 0), (256, .iload 4, 2, [], 0), (258, .iconst 5, 1, [], 2), (259, .iadd, 1, [], 3), (260, .iaload, 1, [], 5), (261, .invokevirtual 105, 3, [3, 155, 12, 1780, 1781, 1782, 133, 1783], 7), (264, .if_icmp .eq 1854, 3, [1287], 4), (267, .iconst 0, 1, [], 2), (268, .ireturn, 1, [], 8), (269, .aload_n 1, 1, [], 0), (270, .aload_n 0, 1, [], 0), (271, .iload 4, 2, [], 0), (273, .iconst 1, 1, [], 2), (274, .iadd, 1, [], 3), (275, .iaload, 1, [], 5), (276, .aload_n 3, 1, [], 0), (277, .invokestatic 106, 3, [4, 112, 787, 788, 119, 789], 7), (280, .istore 5, 2, [], 1), (282, .aload_n 2, 1, [], 0), (283, .aload_n 0, 1, [], 0), (284, .iload 4, 2, [], 0), (286, .iconst 1, 1, [], 2), (287, .iadd, 1, [], 3), (288, .iaload, 1, [], 5), (289, .invokevirtual 111, 3, [3, 153, 12, 1784, 1785, 1786, 133, 1787], 7), (292, .istore 6, 2, [], 1), (294, .aload_n 2, 1, [], 0), (295, .invokevirtual 112, 3, [3, 193, 12, 1776, 1777, 1778, 133, 1779], 7), (298, .iload 5, 2, [], 0), (300, .if_icmp .eq 5, 3, [105], 4), (303, .iconst 0, 1, [], 2), (304, .ireturn, 1, [], 8), (305, .iload 5, 2, [], 0), (307, .ifCond .ne 15, 3, [116], 4), (310, .aload_n 3, 1, [], 0), (311, .iconst 0, 1, [], 2), (312, .laload, 1, [], 5), (313, .iload 6, 2, [], 0), (315, .i2l, 1, [], 9), (316, .lcmp, 1, [], 9), (317, .ifCond .eq 5, 3, [116], 4), (320, .iconst 0, 1, [], 2), (321, .ireturn, 1, [], 8), (322, .goto 1796, 3, [1287], 4), (325, .aload_n 1, 1, [], 0), (326, .aload_n 0, 1, [], 0), (327, .iload 4, 2, [], 0), (329, .iconst 1, 1, [], 2), (330, .iadd, 1, [], 3), (331, .iaload, 1, [], 5), (332, .aload_n 3, 1, [], 0), (333, .invokestatic 116, 3, [4, 117, 986, 987, 119, 988], 7), (336, .istore 5, 2, [], 1), (338, .aload_n 2, 1, [], 0), (339, .aload_n 0, 1, [], 0), (340, .iload 4, 2, [], 0), (342, .iconst 1, 1, [], 2), (343, .iadd, 1, [], 3), (344, .iaload, 1, [], 5), (345, .invokevirtual 118, 3, [3, 167, 12, 1850, 1851, 1852, 133, 1853], 7), (348, .istore 6, 2, [], 1), (350, .aload_n 2, 1, [], 0), (351, .invokevirtual 112, 3, [3, 193, 12, 1776, 1777, 1778, 133, 1779], 7), (354, .iload 5, 2, [], 0), (356, .if_icmp .eq 5, 3, [140], 4), (359, .iconst 0, 1, [], 2), (360, .ireturn, 1, [], 8), (361, .iload 5, 2, [], 0), (363, .ifCond .ne 15, 3, [151], 4), (366, .aload_n 3, 1, [], 0), (367, .iconst 0, 1, [], 2), (368, .laload, 1, [], 5), (369, .iload 6, 2, [], 0), (371, .i2l, 1, [], 9), (372, .lcmp, 1, [], 9), (373, .ifCond .eq 5, 3, [151], 4), (376, .iconst 0, 1, [], 2), (377, .ireturn, 1, [], 8), (378, .goto 1740, 3, [1287], 4), (381, .aload_n 1, 1, [], 0), (382, .aload_n 0, 1, [], 0), (383, .iload 4, 2, [], 0), (385, .iconst 1, 1, [], 2), (386, .iadd, 1, [], 3), (387, .iaload, 1, [], 5), (388, .aload_n 3, 1, [], 0), (389, .invokestatic 119, 3, [4, 128, 1047, 1048, 119, 1049], 7), (392, .istore 5, 2, [], 1), (394, .aload_n 2, 1, [], 0), (395, .aload_n 0, 1, [], 0), (396, .iload 4, 2, [], 0), (398, .iconst 1, 1, [], 2), (399, .iadd, 1, [], 3), (400, .iaload, 1, [], 5), (401, .invokevirtual 121, 3, [3, 198, 12, 1907, 1908, 1909, 133, 1910], 7), (404, .istore 6, 2, [], 1), (406, .aload_n 2, 1, [], 0), (407, .invokevirtual 112, 3, [3, 193, 12, 1776, 1777, 1778, 133, 1779], 7), (410, .iload 5, 2, [], 0), (412, .if_icmp .eq 5, 3, [175], 4), (415, .iconst 0, 1, [], 2), (416, .ireturn, 1, [], 8), (417, .iload 5, 2, [], 0), (419, .ifCond .ne 15, 3, [186], 4), (422, .aload_n 3, 1, [], 0), (423, .iconst 0, 1, [], 2), (424, .laload, 1, [], 5), (425, .iload 6, 2, [], 0), (427, .i2l, 1, [], 9), (428, .lcmp, 1, [], 9), (429, .ifCond .eq 5, 3, [186], 4), (432, .iconst 0, 1, [], 2), (433, .ireturn, 1, [], 8), (434, .goto 1684, 3, [1287], 4), (437, .aload_n 1, 1, [], 0), (438, .aload_n 0, 1, [], 0), (439, .iload 4, 2, [], 0), (441, .iconst 1, 1, [], 2), (442, .iadd, 1, [], 3), (443, .iaload, 1, [], 5), (444, .aload_n 3, 1, [], 0), (445, .invokestatic 122, 3, [4, 109, 1176, 1177, 119, 1178], 7), (448, .istore 5, 2, [], 1), (450, .aload_n 2, 1, [], 0), (451, .aload_n 0, 1, [], 0), (452, .iload 4, 2, [], 0), (454, .iconst 1, 1, [], 2), (455, .iadd, 1, [], 3), (456, .iaload, 1, [], 5), (457, .invokevirtual 124, 3, [3, 142, 12, 1972, 1973, 1974, 133, 1975], 7), (460, .istore 6, 2, [], 1), (462, .aload_n 2, 1, [], 0), (463, .invokevirtual 112, 3, [3, 193, 12, 1776, 1777, 1778, 133, 1779], 7), (466, .iload 5, 2, [], 0), (468, .if_icmp .eq 5, 3, [210], 4), (471, .iconst 0, 1, [], 2), (472, .ireturn, 1, [], 8), (473, .iload 5, 2, [], 0), (475, .ifCond .ne 15, 3, [221], 4), (478, .aload_n 3, 1, [], 0), (479, .iconst 0, 1, [], 2), (480, .laload, 1, [], 5), (481, .iload 6, 2, [], 0), (483, .i2l, 1, [], 9), (484, .lcmp, 1, [], 9), (485, .ifCond .eq 5, 3, [221], 4), (488, .iconst 0, 1, [], 2), (489, .ireturn, 1, [], 8), (490, .goto 1628, 3, [1287], 4), (493, .aload_n 1, 1, [], 0), (494, .invokevirtual 125, 3, [3, 12, 11, 661, 662, 663, 120, 664], 7), (497, .aload_n 2, 1, [], 0), (498, .invokevirtual 128, 3, [3, 154, 12, 1976, 1977, 1978, 133, 1979], 7), (501, .if_icmp .eq 1617, 3, [1287], 4), (504, .iconst 0, 1, [], 2), (505, .ireturn, 1, [], 8), (506, .aload_n 1, 1, [], 0), (507, .invokevirtual 129, 3, [3, 40, 11, 665, 666, 667, 120, 668], 7), (510, .aload_n 2, 1, [], 0), (511, .invokevirtual 132, 3, [3, 196, 12, 1968, 1969, 1970, 133, 1971], 7), (514, .if_icmp .eq 1604, 3, [1287], 4), (517, .iconst 0, 1, [], 2), (518, .ireturn, 1, [], 8), (519, .aload_n 1, 1, [], 0), (520, .aload_n 0, 1, [], 0), (521, .iload 4, 2, [], 0), (523, .iconst 1, 1, [], 2), (524, .iadd, 1, [], 3), (525, .iaload, 1, [], 5), (526, .aload_n 3, 1, [], 0), (527, .invokestatic 133, 3, [4, 126, 1201, 1202, 119, 1203], 7), (530, .istore 5, 2, [], 1), (532, .aload_n 2, 1, [], 0), (533, .aload_n 0, 1, [], 0), (534, .iload 4, 2, [], 0), (536, .iconst 1, 1, [], 2), (537, .iadd, 1, [], 3), (538, .iaload, 1, [], 5), (539, .invokevirtual 135, 3, [3, 194, 12, 1980, 1981, 1982, 133, 1983], 7), (542, .istore 6, 2, [], 1), (544, .aload_n 2, 1, [], 0), (545, .invokevirtual 112, 3, [3, 193, 12, 1776, 1777, 1778, 133, 1779], 7), (548, .iload 5, 2, [], 0), (550, .if_icmp .eq 5, 3, [259], 4), (553, .iconst 0, 1, [], 2), (554, .ireturn, 1, [], 8), (555, .iload 5, 2, [], 0), (557, .ifCond .ne 15, 3, [270], 4), (560, .aload_n 3, 1, [], 0), (561, .iconst 0, 1, [], 2), (562, .laload, 1, [], 5), (563, .iload 6, 2, [], 0), (565, .i2l, 1, [], 9), (566, .lcmp, 1, [], 9), (567, .ifCond .eq 5, 3, [270], 4), (570, .iconst 0, 1, [], 2), (571, .ireturn, 1, [], 8), (572, .goto 1546, 3, [1287], 4), (575, .aload_n 1, 1, [], 0), (576, .aload_n 0, 1, [], 0), (577, .iload 4, 2, [], 0), (579, .iconst 1, 1, [], 2), (580, .iadd, 1, [], 3), (581, .iaload, 1, [], 5), (582, .aload_n 0, 1, [], 0), (583, .iload 4, 2, [], 0), (585, .iconst 2, 1, [], 2), (586, .iadd, 1, [], 3), (587, .iaload, 1, [], 5), (588, .aload_n 3, 1, [], 0), (589, .invokestatic 136, 3, [4, 113, 1209, 1210, 119, 1211], 7), (592, .istore 5, 2, [], 1), (594, .aload_n 2, 1, [], 0), (595, .aload_n 0, 1, [], 0), (596, .iload 4, 2, [], 0), (598, .iconst 1, 1, [], 2), (599, .iadd, 1, [], 3), (600, .iaload, 1, [], 5), (601, .aload_n 0, 1, [], 0), (602, .iload 4, 2, [], 0), (604, .iconst 2, 1, [], 2), (605, .iadd, 1, [], 3), (606, .iaload, 1, [], 5), (607, .invokevirtual 139, 3, [3, 156, 12, 1984, 1985, 1986, 133, 1987], 7), (610, .istore 6, 2, [], 1), (612, .aload_n 2, 1, [], 0), (613, .invokevirtual 112, 3, [3, 193, 12, 1776, 1777, 1778, 133, 1779], 7), (616, .iload 5, 2, [], 0), (618, .if_icmp .eq 5, 3, [304], 4), (621, .iconst 0, 1, [], 2), (622, .ireturn, 1, [], 8), (623, .iload 5, 2, [], 0), (625, .ifCond .ne 15, 3, [315], 4), (628, .aload_n 3, 1, [], 0), (629, .iconst 0, 1, [], 2), (630, .laload, 1, [], 5), (631, .iload 6, 2, [], 0), (633, .i2l, 1, [], 9), (634, .lcmp, 1, [], 9), (635, .ifCond .eq 5, 3, [315], 4), (638, .iconst 0, 1, [], 2), (639, .ireturn, 1, [], 8), (640, .goto 1478, 3, [1287], 4), (643, .aload_n 1, 1, [], 0), (644, .aload_n 0, 1, [], 0), (645, .iload 4, 2, [], 0), (647, .iconst 1, 1, [], 2), (648, .iadd, 1, [], 3), (649, .iaload, 1, [], 5), (650, .aload_n 0, 1, [], 0), (651, .iload 4, 2, [], 0), (653, .iconst 2, 1, [], 2), (654, .iadd, 1, [], 3), (655, .iaload, 1, [], 5), (656, .aload_n 3, 1, [], 0), (657, .invokestatic 140, 3, [4, 122, 1241, 1242, 119, 1243], 7), (660, .istore 5, 2, [], 1), (662, .aload_n 2, 1, [], 0), (663, .aload_n 0, 1, [], 0), (664, .iload 4, 2, [], 0), (666, .iconst 1, 1, [], 2), (667, .iadd, 1, [], 3), (668, .iaload, 1, [], 5), (669, .aload_n 0, 1, [], 0), (670, .iload 4, 2, [], 0), (672, .iconst 2, 1, [], 2), (673, .iadd, 1, [], 3), (674, .iaload, 1, [], 5), (675, .invokevirtual 142, 3, [3, 183, 12, 1992, 1993, 1994, 133, 1995], 7), (678, .istore 6, 2, [], 1), (680, .aload_n 2, 1, [], 0), (681, .invokevirtual 112, 3, [3, 193, 12, 1776, 1777, 1778, 133, 1779], 7), (684, .iload 5, 2, [], 0), (686, .if_icmp .eq 5, 3, [349], 4), (689, .iconst 0, 1, [], 2), (690, .ireturn, 1, [], 8), (691, .iload 5, 2, [], 0), (693, .ifCond .ne 15, 3, [360], 4), (696, .aload_n 3, 1, [], 0), (697, .iconst 0, 1, [], 2), (698, .laload, 1, [], 5), (699, .iload 6, 2, [], 0), (701, .i2l, 1, [], 9), (702, .lcmp, 1, [], 9), (703, .ifCond .eq 5, 3, [360], 4), (706, .iconst 0, 1, [], 2), (707, .ireturn, 1, [], 8), (708, .goto 1410, 3, [1287], 4), (711, .aload_n 1, 1, [], 0), (712, .aload_n 0, 1, [], 0), (713, .iload 4, 2, [], 0), (715, .iconst 1, 1, [], 2), (716, .iadd, 1, [], 3), (717, .iaload, 1, [], 5), (718, .aload_n 0, 1, [], 0), (719, .iload 4, 2, [], 0), (721, .iconst 2, 1, [], 2), (722, .iadd, 1, [], 3), (723, .iaload, 1, [], 5), (724, .aload_n 3, 1, [], 0), (725, .invokestatic 143, 3, [4, 119, 1252, 1253, 119, 1254], 7), (728, .istore 5, 2, [], 1), (730, .aload_n 2, 1, [], 0), (731, .aload_n 0, 1, [], 0), (732, .iload 4, 2, [], 0), (734, .iconst 1, 1, [], 2), (735, .iadd, 1, [], 3), (736, .iaload, 1, [], 5), (737, .aload_n 0, 1, [], 0), (738, .iload 4, 2, [], 0), (740, .iconst 2, 1, [], 2), (741, .iadd, 1, [], 3), (742, .iaload, 1, [], 5), (743, .invokevirtual 145, 3, [3, 174, 12, 2000, 2001, 2002, 133, 2003], 7), (746, .istore 6, 2, [], 1), (748, .aload_n 2, 1, [], 0), (749, .invokevirtual 112, 3, [3, 193, 12, 1776, 1777, 1778, 133, 1779], 7), (752, .iload 5, 2, [], 0), (754, .if_icmp .eq 5, 3, [394], 4), (757, .iconst 0, 1, [], 2), (758, .ireturn, 1, [], 8), (759, .iload 5, 2, [], 0), (761, .ifCond .ne 15, 3, [405], 4), (764, .aload_n 3, 1, [], 0), (765, .iconst 0, 1, [], 2), (766, .laload, 1, [], 5), (767, .iload 6, 2, [], 0), (769, .i2l, 1, [], 9), (770, .lcmp, 1, [], 9), (771, .ifCond .eq 5, 3, [405], 4), (774, .iconst 0, 1, [], 2), (775, .ireturn, 1, [], 8), (776, .goto 1342, 3, [1287], 4), (779, .aload_n 1, 1, [], 0), (780, .aload_n 0, 1, [], 0), (781, .iload 4, 2, [], 0), (783, .iconst 1, 1, [], 2), (784, .iadd, 1, [], 3), (785, .iaload, 1, [], 5), (786, .aload_n 0, 1, [], 0), (787, .iload 4, 2, [], 0), (789, .iconst 2, 1, [], 2), (790, .iadd, 1, [], 3), (791, .iaload, 1, [], 5), (792, .aload_n 3, 1, [], 0), (793, .invokestatic 146, 3, [4, 130, 1259, 1260, 119, 1261], 7), (796, .istore 5, 2, [], 1), (798, .aload_n 2, 1, [], 0), (799, .aload_n 0, 1, [], 0), (800, .iload 4, 2, [], 0), (802, .iconst 1, 1, [], 2), (803, .iadd, 1, [], 3), (804, .iaload, 1, [], 5), (805, .aload_n 0, 1, [], 0), (806, .iload 4, 2, [], 0), (808, .iconst 2, 1, [], 2), (809, .iadd, 1, [], 3), (810, .iaload, 1, [], 5), (811, .invokevirtual 148, 3, [3, 203, 12, 2004, 2005, 2006, 133, 2007], 7), (814, .istore 6, 2, [], 1), (816, .aload_n 2, 1, [], 0), (817, .invokevirtual 112, 3, [3, 193, 12, 1776, 1777, 1778, 133, 1779], 7), (820, .iload 5, 2, [], 0), (822, .if_icmp .eq 5, 3, [439], 4), (825, .iconst 0, 1, [], 2), (826, .ireturn, 1, [], 8), (827, .iload 5, 2, [], 0), (829, .ifCond .ne 15, 3, [450], 4), (832, .aload_n 3, 1, [], 0), (833, .iconst 0, 1, [], 2), (834, .laload, 1, [], 5), (835, .iload 6, 2, [], 0), (837, .i2l, 1, [], 9), (838, .lcmp, 1, [], 9), (839, .ifCond .eq 5, 3, [450], 4), (842, .iconst 0, 1, [], 2), (843, .ireturn, 1, [], 8), (844, .goto 1274, 3, [1287], 4), (847, .aload_n 1, 1, [], 0), (848, .aload_n 0, 1, [], 0), (849, .iload 4, 2, [], 0), (851, .iconst 1, 1, [], 2), (852, .iadd, 1, [], 3), (853, .iaload, 1, [], 5), (854, .aload_n 0, 1, [], 0), (855, .iload 4, 2, [], 0), (857, .iconst 2, 1, [], 2), (858, .iadd, 1, [], 3), (859, .iaload, 1, [], 5), (860, .aload_n 0, 1, [], 0), (861, .iload 4, 2, [], 0), (863, .iconst 3, 1, [], 2), (864, .iadd, 1, [], 3), (865, .iaload, 1, [], 5), (866, .aload_n 0, 1, [], 0), (867, .iload 4, 2, [], 0), (869, .iconst 4, 1, [], 2), (870, .iadd, 1, [], 3), (871, .iaload, 1, [], 5), (872, .aload_n 0, 1, [], 0), (873, .iload 4, 2, [], 0), (875, .iconst 5, 1, [], 2), (876, .iadd, 1, [], 3), (877, .iaload, 1, [], 5), (878, .aload_n 0, 1, [], 0), (879, .iload 4, 2, [], 0), (881, .bipush 6, 2, [], 2), (883, .iadd, 1, [], 3), (884, .iaload, 1, [], 5), (885, .aload_n 3, 1, [], 0), (886, .invokestatic 149, 3, [4, 129, 1267, 1268, 119, 1269], 7), (889, .istore 5, 2, [], 1), (891, .aload_n 2, 1, [], 0), (892, .aload_n 0, 1, [], 0), (893, .iload 4, 2, [], 0), (895, .iconst 1, 1, [], 2), (896, .iadd, 1, [], 3), (897, .iaload, 1, [], 5), (898, .aload_n 0, 1, [], 0), (899, .iload 4, 2, [], 0), (901, .iconst 2, 1, [], 2), (902, .iadd, 1, [], 3), (903, .iaload, 1, [], 5), (904, .aload_n 0, 1, [], 0), (905, .iload 4, 2, [], 0), (907, .iconst 3, 1, [], 2), (908, .iadd, 1, [], 3), (909, .iaload, 1, [], 5), (910, .aload_n 0, 1, [], 0), (911, .iload 4, 2, [], 0), (913, .iconst 4, 1, [], 2), (914, .iadd, 1, [], 3), (915, .iaload, 1, [], 5), (916, .aload_n 0, 1, [], 0), (917, .iload 4, 2, [], 0), (919, .iconst 5, 1, [], 2), (920, .iadd, 1, [], 3), (921, .iaload, 1, [], 5), (922, .aload_n 0, 1, [], 0), (923, .iload 4, 2, [], 0), (925, .bipush 6, 2, [], 2), (927, .iadd, 1, [], 3), (928, .iaload, 1, [], 5), (929, .invokevirtual 152, 3, [3, 200, 12, 1886, 1887, 1888, 133, 1889], 7), (932, .istore 6, 2, [], 1), (934, .aload_n 2, 1, [], 0), (935, .invokevirtual 112, 3, [3, 193, 12, 1776, 1777, 1778, 133, 1779], 7), (938, .iload 5, 2, [], 0), (940, .if_icmp .eq 5, 3, [524], 4), (943, .iconst 0, 1, [], 2), (944, .ireturn, 1, [], 8), (945, .iload 5, 2, [], 0), (947, .ifCond .ne 15, 3, [535], 4), (950, .aload_n 3, 1, [], 0), (951, .iconst 0, 1, [], 2), (952, .laload, 1, [], 5), (953, .iload 6, 2, [], 0), (955, .i2l, 1, [], 9), (956, .lcmp, 1, [], 9), (957, .ifCond .eq 5, 3, [535], 4), (960, .iconst 0, 1, [], 2), (961, .ireturn, 1, [], 8), (962, .goto 1156, 3, [1287], 4), (965, .aload_n 1, 1, [], 0), (966, .aload_n 0, 1, [], 0), (967, .iload 4, 2, [], 0), (969, .iconst 1, 1, [], 2), (970, .iadd, 1, [], 3), (971, .iaload, 1, [], 5), (972, .aload_n 3, 1, [], 0), (973, .invokestatic 153, 3, [4, 118, 1277, 1278, 119, 1279], 7), (976, .istore 5, 2, [], 1), (978, .aload_n 2, 1, [], 0), (979, .aload_n 0, 1, [], 0), (980, .iload 4, 2, [], 0), (982, .iconst 1, 1, [], 2), (983, .iadd, 1, [], 3), (984, .iaload, 1, [], 5), (985, .invokevirtual 155, 3, [3, 171, 12, 2008, 2009, 2010, 133, 2011], 7), (988, .istore 6, 2, [], 1), (990, .aload_n 2, 1, [], 0), (991, .invokevirtual 112, 3, [3, 193, 12, 1776, 1777, 1778, 133, 1779], 7), (994, .iload 5, 2, [], 0), (996, .if_icmp .eq 5, 3, [559], 4), (999, .iconst 0, 1, [], 2), (1000, .ireturn, 1, [], 8), (1001, .iload 5, 2, [], 0), (1003, .ifCond .ne 15, 3, [570], 4), (1006, .aload_n 3, 1, [], 0), (1007, .iconst 0, 1, [], 2), (1008, .laload, 1, [], 5), (1009, .iload 6, 2, [], 0), (1011, .i2l, 1, [], 9), (1012, .lcmp, 1, [], 9), (1013, .ifCond .eq 5, 3, [570], 4), (1016, .iconst 0, 1, [], 2), (1017, .ireturn, 1, [], 8), (1018, .goto 1100, 3, [1287], 4), (1021, .aload_n 1, 1, [], 0), (1022, .invokevirtual 156, 3, [3, 9, 11, 677, 678, 679, 120, 680], 7), (1025, .aload_n 2, 1, [], 0), (1026, .invokevirtual 159, 3, [3, 150, 12, 2016, 2017, 2018, 133, 2019], 7), (1029, .if_icmp .eq 1089, 3, [1287], 4), (1032, .iconst 0, 1, [], 2), (1033, .ireturn, 1, [], 8), (1034, .aload_n 1, 1, [], 0), (1035, .aload_n 0, 1, [], 0), (1036, .iload 4, 2, [], 0), (1038, .iconst 1, 1, [], 2), (1039, .iadd, 1, [], 3), (1040, .iaload, 1, [], 5), (1041, .aload_n 3, 1, [], 0), (1042, .invokestatic 160, 3, [4, 106, 1294, 1295, 119, 1296], 7), (1045, .istore 5, 2, [], 1), (1047, .aload_n 2, 1, [], 0), (1048, .aload_n 0, 1, [], 0), (1049, .iload 4, 2, [], 0), (1051, .iconst 1, 1, [], 2), (1052, .iadd, 1, [], 3), (1053, .iaload, 1, [], 5), (1054, .invokevirtual 162, 3, [3, 134, 12, 2024, 2025, 2026, 133, 2027], 7), (1057, .istore 6, 2, [], 1), (1059, .aload_n 2, 1, [], 0), (1060, .invokevirtual 112, 3, [3, 193, 12, 1776, 1777, 1778, 133, 1779], 7), (1063, .iload 5, 2, [], 0), (1065, .if_icmp .eq 5, 3, [601], 4), (1068, .iconst 0, 1, [], 2), (1069, .ireturn, 1, [], 8), (1070, .iload 5, 2, [], 0), (1072, .ifCond .ne 15, 3, [612], 4), (1075, .aload_n 3, 1, [], 0), (1076, .iconst 0, 1, [], 2), (1077, .laload, 1, [], 5), (1078, .iload 6, 2, [], 0), (1080, .i2l, 1, [], 9), (1081, .lcmp, 1, [], 9), (1082, .ifCond .eq 5, 3, [612], 4), (1085, .iconst 0, 1, [], 2), (1086, .ireturn, 1, [], 8), (1087, .goto 1031, 3, [1287], 4), (1090, .aload_n 1, 1, [], 0), (1091, .aload_n 0, 1, [], 0), (1092, .iload 4, 2, [], 0), (1094, .iconst 1, 1, [], 2), (1095, .iadd, 1, [], 3), (1096, .iaload, 1, [], 5), (1097, .aload_n 3, 1, [], 0), (1098, .invokestatic 163, 3, [4, 107, 1306, 1307, 119, 1308], 7), (1101, .istore 5, 2, [], 1), (1103, .aload_n 2, 1, [], 0), (1104, .aload_n 0, 1, [], 0), (1105, .iload 4, 2, [], 0), (1107, .iconst 1, 1, [], 2), (1108, .iadd, 1, [], 3), (1109, .iaload, 1, [], 5), (1110, .invokevirtual 165, 3, [3, 138, 12, 2039, 2040, 2041, 133, 2042], 7), (1113, .istore 6, 2, [], 1), (1115, .aload_n 2, 1, [], 0), (1116, .invokevirtual 112, 3, [3, 193, 12, 1776, 1777, 1778, 133, 1779], 7), (1119, .iload 5, 2, [], 0), (1121, .if_icmp .eq 5, 3, [636], 4), (1124, .iconst 0, 1, [], 2), (1125, .ireturn, 1, [], 8), (1126, .iload 5, 2, [], 0), (1128, .ifCond .ne 15, 3, [647], 4), (1131, .aload_n 3, 1, [], 0), (1132, .iconst 0, 1, [], 2), (1133, .laload, 1, [], 5), (1134, .iload 6, 2, [], 0), (1136, .i2l, 1, [], 9), (1137, .lcmp, 1, [], 9), (1138, .ifCond .eq 5, 3, [647], 4), (1141, .iconst 0, 1, [], 2), (1142, .ireturn, 1, [], 8), (1143, .goto 975, 3, [1287], 4), (1146, .aload_n 1, 1, [], 0), (1147, .aload_n 0, 1, [], 0), (1148, .iload 4, 2, [], 0), (1150, .iconst 1, 1, [], 2), (1151, .iadd, 1, [], 3), (1152, .iaload, 1, [], 5), (1153, .aload_n 0, 1, [], 0), (1154, .iload 4, 2, [], 0), (1156, .iconst 2, 1, [], 2), (1157, .iadd, 1, [], 3), (1158, .iaload, 1, [], 5), (1159, .aload_n 0, 1, [], 0), (1160, .iload 4, 2, [], 0), (1162, .iconst 3, 1, [], 2), (1163, .iadd, 1, [], 3), (1164, .iaload, 1, [], 5), (1165, .aload_n 3, 1, [], 0), (1166, .invokestatic 166, 3, [4, 127, 1354, 1355, 119, 1356], 7), (1169, .istore 5, 2, [], 1), (1171, .aload_n 2, 1, [], 0), (1172, .aload_n 0, 1, [], 0), (1173, .iload 4, 2, [], 0), (1175, .iconst 1, 1, [], 2), (1176, .iadd, 1, [], 3), (1177, .iaload, 1, [], 5), (1178, .aload_n 0, 1, [], 0), (1179, .iload 4, 2, [], 0), (1181, .iconst 2, 1, [], 2), (1182, .iadd, 1, [], 3), (1183, .iaload, 1, [], 5), (1184, .aload_n 0, 1, [], 0), (1185, .iload 4, 2, [], 0), (1187, .iconst 3, 1, [], 2), (1188, .iadd, 1, [], 3), (1189, .iaload, 1, [], 5), (1190, .invokevirtual 169, 3, [3, 195, 12, 2058, 2059, 2060, 133, 2061], 7), (1193, .istore 6, 2, [], 1), (1195, .aload_n 2, 1, [], 0), (1196, .invokevirtual 112, 3, [3, 193, 12, 1776, 1777, 1778, 133, 1779], 7), (1199, .iload 5, 2, [], 0), (1201, .if_icmp .eq 5, 3, [691], 4), (1204, .iconst 0, 1, [], 2), (1205, .ireturn, 1, [], 8), (1206, .iload 5, 2, [], 0), (1208, .ifCond .ne 15, 3, [702], 4), (1211, .aload_n 3, 1, [], 0), (1212, .iconst 0, 1, [], 2), (1213, .laload, 1, [], 5), (1214, .iload 6, 2, [], 0), (1216, .i2l, 1, [], 9), (1217, .lcmp, 1, [], 9), (1218, .ifCond .eq 5, 3, [702], 4), (1221, .iconst 0, 1, [], 2), (1222, .ireturn, 1, [], 8), (1223, .goto 895, 3, [1287], 4), (1226, .aload_n 1, 1, [], 0), (1227, .aload_n 0, 1, [], 0), (1228, .iload 4, 2, [], 0), (1230, .iconst 1, 1, [], 2), (1231, .iadd, 1, [], 3), (1232, .iaload, 1, [], 5), (1233, .aload_n 0, 1, [], 0), (1234, .iload 4, 2, [], 0), (1236, .iconst 2, 1, [], 2), (1237, .iadd, 1, [], 3), (1238, .iaload, 1, [], 5), (1239, .aload_n 3, 1, [], 0), (1240, .invokestatic 170, 3, [4, 121, 1394, 1395, 119, 1396], 7), (1243, .istore 5, 2, [], 1), (1245, .aload_n 2, 1, [], 0), (1246, .aload_n 0, 1, [], 0), (1247, .iload 4, 2, [], 0), (1249, .iconst 1, 1, [], 2), (1250, .iadd, 1, [], 3), (1251, .iaload, 1, [], 5), (1252, .aload_n 0, 1, [], 0), (1253, .iload 4, 2, [], 0), (1255, .iconst 2, 1, [], 2), (1256, .iadd, 1, [], 3), (1257, .iaload, 1, [], 5), (1258, .invokevirtual 172, 3, [3, 182, 12, 2062, 2063, 2064, 133, 2065], 7), (1261, .istore 6, 2, [], 1), (1263, .aload_n 2, 1, [], 0), (1264, .invokevirtual 112, 3, [3, 193, 12, 1776, 1777, 1778, 133, 1779], 7), (1267, .iload 5, 2, [], 0), (1269, .if_icmp .eq 5, 3, [736], 4), (1272, .iconst 0, 1, [], 2), (1273, .ireturn, 1, [], 8), (1274, .iload 5, 2, [], 0), (1276, .ifCond .ne 15, 3, [747], 4), (1279, .aload_n 3, 1, [], 0), (1280, .iconst 0, 1, [], 2), (1281, .laload, 1, [], 5), (1282, .iload 6, 2, [], 0), (1284, .i2l, 1, [], 9), (1285, .lcmp, 1, [], 9), (1286, .ifCond .eq 5, 3, [747], 4), (1289, .iconst 0, 1, [], 2), (1290, .ireturn, 1, [], 8), (1291, .goto 827, 3, [1287], 4), (1294, .aload_n 1, 1, [], 0), (1295, .aload_n 0, 1, [], 0), (1296, .iload 4, 2, [], 0), (1298, .iconst 1, 1, [], 2), (1299, .iadd, 1, [], 3), (1300, .iaload, 1, [], 5), (1301, .aload_n 0, 1, [], 0), (1302, .iload 4, 2, [], 0), (1304, .iconst 2, 1, [], 2), (1305, .iadd, 1, [], 3), (1306, .iaload, 1, [], 5), (1307, .aload_n 3, 1, [], 0), (1308, .invokestatic 173, 3, [4, 110, 1417, 1418, 119, 1419], 7), (1311, .istore 5, 2, [], 1), (1313, .aload_n 2, 1, [], 0), (1314, .aload_n 0, 1, [], 0), (1315, .iload 4, 2, [], 0), (1317, .iconst 1, 1, [], 2), (1318, .iadd, 1, [], 3), (1319, .iaload, 1, [], 5), (1320, .aload_n 0, 1, [], 0), (1321, .iload 4, 2, [], 0), (1323, .iconst 2, 1, [], 2), (1324, .iadd, 1, [], 3), (1325, .iaload, 1, [], 5), (1326, .invokevirtual 175, 3, [3, 148, 12, 2074, 2075, 2076, 133, 2077], 7), (1329, .istore 6, 2, [], 1), (1331, .aload_n 2, 1, [], 0), (1332, .invokevirtual 112, 3, [3, 193, 12, 1776, 1777, 1778, 133, 1779], 7), (1335, .iload 5, 2, [], 0), (1337, .if_icmp .eq 5, 3, [781], 4), (1340, .iconst 0, 1, [], 2), (1341, .ireturn, 1, [], 8), (1342, .iload 5, 2, [], 0), (1344, .ifCond .ne 15, 3, [792], 4), (1347, .aload_n 3, 1, [], 0), (1348, .iconst 0, 1, [], 2), (1349, .laload, 1, [], 5), (1350, .iload 6, 2, [], 0), (1352, .i2l, 1, [], 9), (1353, .lcmp, 1, [], 9), (1354, .ifCond .eq 5, 3, [792], 4), (1357, .iconst 0, 1, [], 2), (1358, .ireturn, 1, [], 8), (1359, .goto 759, 3, [1287], 4), (1362, .aload_n 1, 1, [], 0), (1363, .aload_n 0, 1, [], 0), (1364, .iload 4, 2, [], 0), (1366, .iconst 1, 1, [], 2), (1367, .iadd, 1, [], 3), (1368, .iaload, 1, [], 5), (1369, .aload_n 3, 1, [], 0), (1370, .invokestatic 176, 3, [4, 114, 1425, 1426, 119, 1427], 7), (1373, .istore 5, 2, [], 1), (1375, .aload_n 2, 1, [], 0), (1376, .aload_n 0, 1, [], 0), (1377, .iload 4, 2, [], 0), (1379, .iconst 1, 1, [], 2), (1380, .iadd, 1, [], 3), (1381, .iaload, 1, [], 5), (1382, .invokevirtual 178, 3, [3, 157, 12, 2082, 2083, 2084, 133, 2085], 7), (1385, .istore 6, 2, [], 1), (1387, .aload_n 2, 1, [], 0), (1388, .invokevirtual 112, 3, [3, 193, 12, 1776, 1777, 1778, 133, 1779], 7), (1391, .iload 5, 2, [], 0), (1393, .if_icmp .eq 5, 3, [816], 4), (1396, .iconst 0, 1, [], 2), (1397, .ireturn, 1, [], 8), (1398, .iload 5, 2, [], 0), (1400, .ifCond .ne 15, 3, [827], 4), (1403, .aload_n 3, 1, [], 0), (1404, .iconst 0, 1, [], 2), (1405, .laload, 1, [], 5), (1406, .iload 6, 2, [], 0), (1408, .i2l, 1, [], 9), (1409, .lcmp, 1, [], 9), (1410, .ifCond .eq 5, 3, [827], 4), (1413, .iconst 0, 1, [], 2), (1414, .ireturn, 1, [], 8), (1415, .goto 703, 3, [1287], 4), (1418, .aload_n 1, 1, [], 0), (1419, .aload_n 0, 1, [], 0), (1420, .iload 4, 2, [], 0), (1422, .iconst 1, 1, [], 2), (1423, .iadd, 1, [], 3), (1424, .iaload, 1, [], 5), (1425, .aload_n 3, 1, [], 0), (1426, .invokestatic 179, 3, [4, 120, 1432, 1433, 119, 1434], 7), (1429, .istore 5, 2, [], 1), (1431, .aload_n 2, 1, [], 0), (1432, .aload_n 0, 1, [], 0), (1433, .iload 4, 2, [], 0), (1435, .iconst 1, 1, [], 2), (1436, .iadd, 1, [], 3), (1437, .iaload, 1, [], 5), (1438, .invokevirtual 181, 3, [3, 180, 12, 2094, 2095, 2096, 133, 2097], 7), (1441, .lstore 6, 2, [], 9), (1443, .aload_n 2, 1, [], 0), (1444, .invokevirtual 112, 3, [3, 193, 12, 1776, 1777, 1778, 133, 1779], 7), (1447, .iload 5, 2, [], 0), (1449, .if_icmp .eq 5, 3, [851], 4), (1452, .iconst 0, 1, [], 2), (1453, .ireturn, 1, [], 8), (1454, .iload 5, 2, [], 0), (1456, .ifCond .ne 14, 3, [861], 4), (1459, .aload_n 3, 1, [], 0), (1460, .iconst 0, 1, [], 2), (1461, .laload, 1, [], 5), (1462, .lload 6, 2, [], 9), (1464, .lcmp, 1, [], 9), (1465, .ifCond .eq 5, 3, [861], 4), (1468, .iconst 0, 1, [], 2), (1469, .ireturn, 1, [], 8), (1470, .goto 648, 3, [1287], 4), (1473, .aload_n 1, 1, [], 0), (1474, .invokevirtual 182, 3, [3, 34, 11, 695, 696, 697, 120, 698], 7), (1477, .aload_n 2, 1, [], 0), (1478, .invokevirtual 185, 3, [3, 186, 12, 2098, 2099, 2100, 133, 2101], 7), (1481, .if_icmp .eq 637, 3, [1287], 4), (1484, .iconst 0, 1, [], 2), (1485, .ireturn, 1, [], 8), (1486, .aload_n 1, 1, [], 0), (1487, .aload_n 0, 1, [], 0), (1488, .iload 4, 2, [], 0), (1490, .iconst 1, 1, [], 2), (1491, .iadd, 1, [], 3), (1492, .iaload, 1, [], 5), (1493, .aload_n 3, 1, [], 0), (1494, .invokestatic 186, 3, [4, 115, 1443, 1444, 119, 1445], 7), (1497, .istore 5, 2, [], 1), (1499, .aload_n 2, 1, [], 0), (1500, .aload_n 0, 1, [], 0), (1501, .iload 4, 2, [], 0), (1503, .iconst 1, 1, [], 2), (1504, .iadd, 1, [], 3), (1505, .iaload, 1, [], 5), (1506, .invokevirtual 188, 3, [3, 159, 12, 2102, 2103, 2104, 133, 2105], 7), (1509, .istore 6, 2, [], 1), (1511, .aload_n 2, 1, [], 0), (1512, .invokevirtual 112, 3, [3, 193, 12, 1776, 1777, 1778, 133, 1779], 7), (1515, .iload 5, 2, [], 0), (1517, .if_icmp .eq 5, 3, [892], 4), (1520, .iconst 0, 1, [], 2), (1521, .ireturn, 1, [], 8), (1522, .iload 5, 2, [], 0), (1524, .ifCond .ne 15, 3, [903], 4), (1527, .aload_n 3, 1, [], 0), (1528, .iconst 0, 1, [], 2), (1529, .laload, 1, [], 5), (1530, .iload 6, 2, [], 0), (1532, .i2l, 1, [], 9), (1533, .lcmp, 1, [], 9), (1534, .ifCond .eq 5, 3, [903], 4), (1537, .iconst 0, 1, [], 2), (1538, .ireturn, 1, [], 8), (1539, .goto 579, 3, [1287], 4), (1542, .aload_n 1, 1, [], 0), (1543, .aload_n 0, 1, [], 0), (1544, .iload 4, 2, [], 0), (1546, .iconst 1, 1, [], 2), (1547, .iadd, 1, [], 3), (1548, .iaload, 1, [], 5), (1549, .aload_n 3, 1, [], 0), (1550, .invokestatic 189, 3, [4, 125, 1497, 1498, 119, 1499], 7), (1553, .istore 5, 2, [], 1), (1555, .aload_n 2, 1, [], 0), (1556, .aload_n 0, 1, [], 0), (1557, .iload 4, 2, [], 0), (1559, .iconst 1, 1, [], 2), (1560, .iadd, 1, [], 3), (1561, .iaload, 1, [], 5), (1562, .invokevirtual 191, 3, [3, 191, 12, 2110, 2111, 2112, 133, 2113], 7), (1565, .istore 6, 2, [], 1), (1567, .aload_n 2, 1, [], 0), (1568, .invokevirtual 112, 3, [3, 193, 12, 1776, 1777, 1778, 133, 1779], 7), (1571, .iload 5, 2, [], 0), (1573, .if_icmp .eq 5, 3, [927], 4), (1576, .iconst 0, 1, [], 2), (1577, .ireturn, 1, [], 8), (1578, .iload 5, 2, [], 0), (1580, .ifCond .ne 15, 3, [938], 4), (1583, .aload_n 3, 1, [], 0), (1584, .iconst 0, 1, [], 2), (1585, .laload, 1, [], 5), (1586, .iload 6, 2, [], 0), (1588, .i2l, 1, [], 9), (1589, .lcmp, 1, [], 9), (1590, .ifCond .eq 5, 3, [938], 4), (1593, .iconst 0, 1, [], 2), (1594, .ireturn, 1, [], 8), (1595, .goto 523, 3, [1287], 4), (1598, .aload_n 1, 1, [], 0), (1599, .aload_n 0, 1, [], 0), (1600, .iload 4, 2, [], 0), (1602, .iconst 1, 1, [], 2), (1603, .iadd, 1, [], 3), (1604, .iaload, 1, [], 5), (1605, .aload_n 3, 1, [], 0), (1606, .invokestatic 192, 3, [4, 111, 1514, 1515, 119, 1516], 7), (1609, .istore 5, 2, [], 1), (1611, .aload_n 2, 1, [], 0), (1612, .aload_n 0, 1, [], 0), (1613, .iload 4, 2, [], 0), (1615, .iconst 1, 1, [], 2), (1616, .iadd, 1, [], 3), (1617, .iaload, 1, [], 5), (1618, .invokevirtual 194, 3, [3, 152, 12, 2114, 2115, 2116, 133, 2117], 7), (1621, .istore 6, 2, [], 1), (1623, .aload_n 2, 1, [], 0), (1624, .invokevirtual 112, 3, [3, 193, 12, 1776, 1777, 1778, 133, 1779], 7), (1627, .iload 5, 2, [], 0), (1629, .if_icmp .eq 5, 3, [962], 4), (1632, .iconst 0, 1, [], 2), (1633, .ireturn, 1, [], 8), (1634, .iload 5, 2, [], 0), (1636, .ifCond .ne 15, 3, [973], 4), (1639, .aload_n 3, 1, [], 0), (1640, .iconst 0, 1, [], 2), (1641, .laload, 1, [], 5), (1642, .iload 6, 2, [], 0), (1644, .i2l, 1, [], 9), (1645, .lcmp, 1, [], 9), (1646, .ifCond .eq 5, 3, [973], 4), (1649, .iconst 0, 1, [], 2), (1650, .ireturn, 1, [], 8), (1651, .goto 467, 3, [1287], 4), (1654, .aload_n 1, 1, [], 0), (1655, .aload_n 0, 1, [], 0), (1656, .iload 4, 2, [], 0), (1658, .iconst 1, 1, [], 2), (1659, .iadd, 1, [], 3), (1660, .iaload, 1, [], 5), (1661, .aload_n 0, 1, [], 0), (1662, .iload 4, 2, [], 0), (1664, .iconst 2, 1, [], 2), (1665, .iadd, 1, [], 3), (1666, .iaload, 1, [], 5), (1667, .aload_n 3, 1, [], 0), (1668, .invokestatic 195, 3, [4, 105, 1539, 1540, 119, 1541], 7), (1671, .istore 5, 2, [], 1), (1673, .aload_n 2, 1, [], 0), (1674, .aload_n 0, 1, [], 0), (1675, .iload 4, 2, [], 0), (1677, .iconst 1, 1, [], 2), (1678, .iadd, 1, [], 3), (1679, .iaload, 1, [], 5), (1680, .aload_n 0, 1, [], 0), (1681, .iload 4, 2, [], 0), (1683, .iconst 2, 1, [], 2), (1684, .iadd, 1, [], 3), (1685, .iaload, 1, [], 5), (1686, .invokevirtual 197, 3, [3, 132, 12, 2122, 2123, 2124, 133, 2125], 7), (1689, .istore 6, 2, [], 1), (1691, .aload_n 2, 1, [], 0), (1692, .invokevirtual 112, 3, [3, 193, 12, 1776, 1777, 1778, 133, 1779], 7), (1695, .iload 5, 2, [], 0), (1697, .if_icmp .eq 5, 3, [1007], 4), (1700, .iconst 0, 1, [], 2), (1701, .ireturn, 1, [], 8), (1702, .iload 5, 2, [], 0), (1704, .ifCond .ne 15, 3, [1018], 4), (1707, .aload_n 3, 1, [], 0), (1708, .iconst 0, 1, [], 2), (1709, .laload, 1, [], 5), (1710, .iload 6, 2, [], 0), (1712, .i2l, 1, [], 9), (1713, .lcmp, 1, [], 9), (1714, .ifCond .eq 5, 3, [1018], 4), (1717, .iconst 0, 1, [], 2), (1718, .ireturn, 1, [], 8), (1719, .goto 399, 3, [1287], 4), (1722, .aload_n 1, 1, [], 0), (1723, .aload_n 0, 1, [], 0), (1724, .iload 4, 2, [], 0), (1726, .iconst 1, 1, [], 2), (1727, .iadd, 1, [], 3), (1728, .iaload, 1, [], 5), (1729, .aload_n 0, 1, [], 0), (1730, .iload 4, 2, [], 0), (1732, .iconst 2, 1, [], 2), (1733, .iadd, 1, [], 3), (1734, .iaload, 1, [], 5), (1735, .aload_n 3, 1, [], 0), (1736, .invokestatic 198, 3, [4, 116, 1558, 1559, 119, 1560], 7), (1739, .istore 5, 2, [], 1), (1741, .aload_n 2, 1, [], 0), (1742, .aload_n 0, 1, [], 0), (1743, .iload 4, 2, [], 0), (1745, .iconst 1, 1, [], 2), (1746, .iadd, 1, [], 3), (1747, .iaload, 1, [], 5), (1748, .aload_n 0, 1, [], 0), (1749, .iload 4, 2, [], 0), (1751, .iconst 2, 1, [], 2), (1752, .iadd, 1, [], 3), (1753, .iaload, 1, [], 5), (1754, .invokevirtual 200, 3, [3, 166, 12, 2134, 2135, 2136, 133, 2137], 7), (1757, .istore 6, 2, [], 1), (1759, .aload_n 2, 1, [], 0), (1760, .invokevirtual 112, 3, [3, 193, 12, 1776, 1777, 1778, 133, 1779], 7), (1763, .iload 5, 2, [], 0), (1765, .if_icmp .eq 5, 3, [1052], 4), (1768, .iconst 0, 1, [], 2), (1769, .ireturn, 1, [], 8), (1770, .iload 5, 2, [], 0), (1772, .ifCond .ne 15, 3, [1063], 4), (1775, .aload_n 3, 1, [], 0), (1776, .iconst 0, 1, [], 2), (1777, .laload, 1, [], 5), (1778, .iload 6, 2, [], 0), (1780, .i2l, 1, [], 9), (1781, .lcmp, 1, [], 9), (1782, .ifCond .eq 5, 3, [1063], 4), (1785, .iconst 0, 1, [], 2), (1786, .ireturn, 1, [], 8), (1787, .goto 331, 3, [1287], 4), (1790, .aload_n 1, 1, [], 0), (1791, .aload_n 0, 1, [], 0), (1792, .iload 4, 2, [], 0), (1794, .iconst 1, 1, [], 2), (1795, .iadd, 1, [], 3), (1796, .iaload, 1, [], 5), (1797, .aload_n 0, 1, [], 0), (1798, .iload 4, 2, [], 0), (1800, .iconst 2, 1, [], 2), (1801, .iadd, 1, [], 3), (1802, .iaload, 1, [], 5), (1803, .aload_n 0, 1, [], 0), (1804, .iload 4, 2, [], 0), (1806, .iconst 3, 1, [], 2), (1807, .iadd, 1, [], 3), (1808, .iaload, 1, [], 5), (1809, .aload_n 0, 1, [], 0), (1810, .iload 4, 2, [], 0), (1812, .iconst 4, 1, [], 2), (1813, .iadd, 1, [], 3), (1814, .iaload, 1, [], 5), (1815, .aload_n 3, 1, [], 0), (1816, .invokestatic 201, 3, [4, 108, 1566, 1567, 119, 1568], 7), (1819, .istore 5, 2, [], 1), (1821, .aload_n 2, 1, [], 0), (1822, .aload_n 0, 1, [], 0), (1823, .iload 4, 2, [], 0), (1825, .iconst 1, 1, [], 2), (1826, .iadd, 1, [], 3), (1827, .iaload, 1, [], 5), (1828, .aload_n 0, 1, [], 0), (1829, .iload 4, 2, [], 0), (1831, .iconst 2, 1, [], 2), (1832, .iadd, 1, [], 3), (1833, .iaload, 1, [], 5), (1834, .aload_n 0, 1, [], 0), (1835, .iload 4, 2, [], 0), (1837, .iconst 3, 1, [], 2), (1838, .iadd, 1, [], 3), (1839, .iaload, 1, [], 5), (1840, .aload_n 0, 1, [], 0), (1841, .iload 4, 2, [], 0), (1843, .iconst 4, 1, [], 2), (1844, .iadd, 1, [], 3), (1845, .iaload, 1, [], 5), (1846, .invokevirtual 204, 3, [3, 140, 12, 2138, 2139, 2140, 133, 2141], 7), (1849, .istore 6, 2, [], 1), (1851, .aload_n 2, 1, [], 0), (1852, .invokevirtual 112, 3, [3, 193, 12, 1776, 1777, 1778, 133, 1779], 7), (1855, .iload 5, 2, [], 0), (1857, .if_icmp .eq 5, 3, [1117], 4), (1860, .iconst 0, 1, [], 2), (1861, .ireturn, 1, [], 8), (1862, .iload 5, 2, [], 0), (1864, .ifCond .ne 15, 3, [1128], 4), (1867, .aload_n 3, 1, [], 0), (1868, .iconst 0, 1, [], 2), (1869, .laload, 1, [], 5), (1870, .iload 6, 2, [], 0), (1872, .i2l, 1, [], 9), (1873, .lcmp, 1, [], 9), (1874, .ifCond .eq 5, 3, [1128], 4), (1877, .iconst 0, 1, [], 2), (1878, .ireturn, 1, [], 8), (1879, .goto 239, 3, [1287], 4), (1882, .aload_n 1, 1, [], 0), (1883, .aload_n 0, 1, [], 0), (1884, .iload 4, 2, [], 0), (1886, .iconst 1, 1, [], 2), (1887, .iadd, 1, [], 3), (1888, .iaload, 1, [], 5), (1889, .aload_n 0, 1, [], 0), (1890, .iload 4, 2, [], 0), (1892, .iconst 2, 1, [], 2), (1893, .iadd, 1, [], 3), (1894, .iaload, 1, [], 5), (1895, .aload_n 0, 1, [], 0), (1896, .iload 4, 2, [], 0), (1898, .iconst 3, 1, [], 2), (1899, .iadd, 1, [], 3), (1900, .iaload, 1, [], 5), (1901, .aload_n 0, 1, [], 0), (1902, .iload 4, 2, [], 0), (1904, .iconst 4, 1, [], 2), (1905, .iadd, 1, [], 3), (1906, .iaload, 1, [], 5), (1907, .aload_n 0, 1, [], 0), (1908, .iload 4, 2, [], 0), (1910, .iconst 5, 1, [], 2), (1911, .iadd, 1, [], 3), (1912, .iaload, 1, [], 5), (1913, .aload_n 3, 1, [], 0), (1914, .invokestatic 205, 3, [4, 123, 1591, 1592, 119, 1593], 7), (1917, .istore 5, 2, [], 1), (1919, .aload_n 2, 1, [], 0), (1920, .aload_n 0, 1, [], 0), (1921, .iload 4, 2, [], 0), (1923, .iconst 1, 1, [], 2), (1924, .iadd, 1, [], 3), (1925, .iaload, 1, [], 5), (1926, .aload_n 0, 1, [], 0), (1927, .iload 4, 2, [], 0), (1929, .iconst 2, 1, [], 2), (1930, .iadd, 1, [], 3), (1931, .iaload, 1, [], 5), (1932, .aload_n 0, 1, [], 0), (1933, .iload 4, 2, [], 0), (1935, .iconst 3, 1, [], 2), (1936, .iadd, 1, [], 3), (1937, .iaload, 1, [], 5), (1938, .aload_n 0, 1, [], 0), (1939, .iload 4, 2, [], 0), (1941, .iconst 4, 1, [], 2), (1942, .iadd, 1, [], 3), (1943, .iaload, 1, [], 5), (1944, .aload_n 0, 1, [], 0), (1945, .iload 4, 2, [], 0), (1947, .iconst 5, 1, [], 2), (1948, .iadd, 1, [], 3), (1949, .iaload, 1, [], 5), (1950, .invokevirtual 208, 3, [3, 185, 12, 2147, 2148, 2149, 133, 2150], 7), (1953, .istore 6, 2, [], 1), (1955, .aload_n 2, 1, [], 0), (1956, .invokevirtual 112, 3, [3, 193, 12, 1776, 1777, 1778, 133, 1779], 7), (1959, .iload 5, 2, [], 0), (1961, .if_icmp .eq 5, 3, [1192], 4), (1964, .iconst 0, 1, [], 2), (1965, .ireturn, 1, [], 8), (1966, .iload 5, 2, [], 0), (1968, .ifCond .ne 15, 3, [1203], 4), (1971, .aload_n 3, 1, [], 0), (1972, .iconst 0, 1, [], 2), (1973, .laload, 1, [], 5), (1974, .iload 6, 2, [], 0), (1976, .i2l, 1, [], 9), (1977, .lcmp, 1, [], 9), (1978, .ifCond .eq 5, 3, [1203], 4), (1981, .iconst 0, 1, [], 2), (1982, .ireturn, 1, [], 8), (1983, .goto 135, 3, [1287], 4), (1986, .aload_n 1, 1, [], 0), (1987, .aload_n 0, 1, [], 0), (1988, .iload 4, 2, [], 0), (1990, .iconst 1, 1, [], 2), (1991, .iadd, 1, [], 3), (1992, .iaload, 1, [], 5), (1993, .aload_n 3, 1, [], 0), (1994, .invokestatic 209, 3, [4, 124, 1599, 1600, 119, 1601], 7), (1997, .istore 5, 2, [], 1), (1999, .aload_n 2, 1, [], 0), (2000, .aload_n 0, 1, [], 0), (2001, .iload 4, 2, [], 0), (2003, .iconst 1, 1, [], 2), (2004, .iadd, 1, [], 3), (2005, .iaload, 1, [], 5), (2006, .invokevirtual 211, 3, [3, 190, 12, 2035, 2036, 2037, 133, 2038], 7), (2009, .istore 6, 2, [], 1), (2011, .aload_n 2, 1, [], 0), (2012, .invokevirtual 112, 3, [3, 193, 12, 1776, 1777, 1778, 133, 1779], 7), (2015, .iload 5, 2, [], 0), (2017, .if_icmp .eq 5, 3, [1227], 4), (2020, .iconst 0, 1, [], 2), (2021, .ireturn, 1, [], 8), (2022, .iload 5, 2, [], 0), (2024, .ifCond .ne 15, 3, [1238], 4), (2027, .aload_n 3, 1, [], 0), (2028, .iconst 0, 1, [], 2), (2029, .laload, 1, [], 5), (2030, .iload 6, 2, [], 0), (2032, .i2l, 1, [], 9), (2033, .lcmp, 1, [], 9), (2034, .ifCond .eq 5, 3, [1238], 4), (2037, .iconst 0, 1, [], 2), (2038, .ireturn, 1, [], 8), (2039, .goto 79, 3, [1287], 4), (2042, .aload_n 1, 1, [], 0), (2043, .invokevirtual 212, 3, [3, 17, 11, 716, 717, 718, 120, 719], 7), (2046, .aload_n 2, 1, [], 0), (2047, .invokevirtual 215, 3, [3, 160, 12, 2151, 2152, 2153, 133, 2154], 7), (2050, .if_icmp .eq 68, 3, [1287], 4), (2053, .iconst 0, 1, [], 2), (2054, .ireturn, 1, [], 8), (2055, .aload_n 1, 1, [], 0), (2056, .invokevirtual 216, 3, [3, 29, 11, 770, 771, 772, 120, 773], 7), (2059, .aload_n 2, 1, [], 0), (2060, .invokevirtual 219, 3, [3, 179, 12, 2163, 2164, 2165, 133, 2166], 7), (2063, .if_icmp .eq 55, 3, [1287], 4), (2066, .iconst 0, 1, [], 2), (2067, .ireturn, 1, [], 8), (2068, .aload_n 1, 1, [], 0), (2069, .aload_n 0, 1, [], 0), (2070, .iload 4, 2, [], 0), (2072, .iconst 1, 1, [], 2), (2073, .iadd, 1, [], 3), (2074, .iaload, 1, [], 5), (2075, .invokevirtual 220, 3, [3, 35, 11, 779, 780, 781, 120, 782], 7), (2078, .aload_n 2, 1, [], 0), (2079, .aload_n 0, 1, [], 0), (2080, .iload 4, 2, [], 0), (2082, .iconst 1, 1, [], 2), (2083, .iadd, 1, [], 3), (2084, .iaload, 1, [], 5), (2085, .invokevirtual 223, 3, [3, 189, 12, 2167, 2168, 2169, 133, 2170], 7), (2088, .if_icmp .eq 30, 3, [1287], 4), (2091, .iconst 0, 1, [], 2), (2092, .ireturn, 1, [], 8), (2093, .aload_n 1, 1, [], 0), (2094, .aload_n 0, 1, [], 0), (2095, .iload 4, 2, [], 0), (2097, .iconst 1, 1, [], 2), (2098, .iadd, 1, [], 3), (2099, .iaload, 1, [], 5), (2100, .invokevirtual 224, 3, [3, 7, 11, 783, 784, 785, 120, 786], 7), (2103, .aload_n 2, 1, [], 0), (2104, .aload_n 0, 1, [], 0), (2105, .iload 4, 2, [], 0), (2107, .iconst 1, 1, [], 2), (2108, .iadd, 1, [], 3), (2109, .iaload, 1, [], 5), (2110, .invokevirtual 227, 3, [3, 146, 12, 2171, 2172, 2173, 133, 2174], 7), (2113, .if_icmp .eq 5, 3, [1287], 4), (2116, .iconst 0, 1, [], 2), (2117, .ireturn, 1, [], 8), (2118, .iinc 4 7, 3, [], 1), (2121, .goto (-2098), 3, [13], 4), (2124, .iconst 1, 1, [], 2), (2125, .ireturn, 1, [], 8)])
def xr_mt : List xr_M := [xm_0, xm_1, xm_2, xm_3, xm_4, xm_5, xm_6, xm_7, xm_8, xm_9, xm_10, xm_11, xm_12, xm_13, xm_14, xm_15, xm_16, xm_17, xm_18, xm_19, xm_20, xm_21, xm_22, xm_23, xm_24, xm_25, xm_26, xm_27, xm_28, xm_29, xm_30, xm_31, xm_32, xm_33, xm_34, xm_35, xm_36, xm_37, xm_38, xm_39, xm_40, xm_41, xm_42, xm_43, xm_44, xm_45, xm_46, xm_47, xm_48, xm_49, xm_50, xm_51, xm_52, xm_53, xm_54, xm_55, xm_56, xm_57, xm_58, xm_59, xm_60, xm_61, xm_62, xm_63, xm_64, xm_65, xm_66, xm_67, xm_68, xm_69, xm_70, xm_71, xm_72, xm_73, xm_74, xm_75, xm_76, xm_77, xm_78, xm_79, xm_80, xm_81, xm_82, xm_83, xm_84, xm_85, xm_86, xm_87, xm_88, xm_89, xm_90, xm_91, xm_92, xm_93, xm_94, xm_95, xm_96, xm_97, xm_98, xm_99, xm_100, xm_101, xm_102, xm_103, xm_104, xm_105, xm_106, xm_107, xm_108, xm_109, xm_110, xm_111, xm_112, xm_113, xm_114, xm_115, xm_116, xm_117, xm_118, xm_119, xm_120, xm_121, xm_122, xm_123, xm_124, xm_125, xm_126, xm_127, xm_128, xm_129, xm_130, xm_131, xm_132, xm_133, xm_134, xm_135, xm_136, xm_137, xm_138, xm_139, xm_140, xm_141, xm_142, xm_143, xm_144, xm_145, xm_146, xm_147, xm_148, xm_149, xm_150, xm_151, xm_152, xm_153, xm_154, xm_155, xm_156, xm_157, xm_158, xm_159, xm_160, xm_161, xm_162, xm_163, xm_164, xm_165, xm_166, xm_167, xm_168, xm_169, xm_170, xm_171, xm_172, xm_173, xm_174, xm_175, xm_176, xm_177, xm_178, xm_179, xm_180, xm_181, xm_182, xm_183, xm_184, xm_185, xm_186, xm_187, xm_188, xm_189, xm_190, xm_191, xm_192, xm_193, xm_194, xm_195, xm_196, xm_197, xm_198, xm_199, xm_200, xm_201, xm_202, xm_203, xm_204, xm_205]
end
section
/-! the law behind its two constructors, printed by wip/p1/genw.py -/
abbrev xr_no : Nat → Nat → List Value → List xr_C → Bool → Option xr_Out := fun _ _ _ _ _ => none
set_option maxRecDepth 100000 in
def xr_W0_0 (t : List xr_C) : List xr_C := .inl (11, [.ref 1, .ref 3, .ref 8, .ref 11, .ref 14, .ref 18, .ref 25, .ref 28, .ref 33, .ref 42, .null, .null, .int (Int32.ofNat 0), .int (Int32.ofNat 0), .int (Int32.ofNat 0)]) ::
  .inl (8, [.ref 2, .int (Int32.ofNat 0), .int (Int32.ofNat 0), .int (Int32.ofNat 4294967295), .int (Int32.ofNat 0), .int (Int32.ofNat 0), .int (Int32.ofNat 0), .int (Int32.ofNat 0), .int (Int32.ofNat 0)]) ::
  .inr (1, 600, []) ::
  .inl (6, [.ref 4, .ref 5, .ref 6, .ref 7, .int (Int32.ofNat 7), .int (Int32.ofNat 0)]) ::
  .inr (0, 150, [(6, .int (Int32.ofNat 2001)), (5, .int (Int32.ofNat 2003)), (4, .int (Int32.ofNat 4)), (3, .int (Int32.ofNat 1005)), (2, .int (Int32.ofNat 2000)), (1, .int (Int32.ofNat 1001)), (0, .int (Int32.ofNat 1000))]) ::
  .inr (0, 150, []) ::
  .inr (0, 150, []) ::
  .inr (0, 9, []) ::
  .inl (10, [.ref 9, .ref 10, .ref 44, .ref 3]) ::
  .inr (0, 72, [(70, .int (Int32.ofNat 1)), (23, .int (Int32.ofNat 4294967295)), (17, .int (Int32.ofNat 4294967295)), (11, .int (Int32.ofNat 9)), (22, .int (Int32.ofNat 4294967295)), (16, .int (Int32.ofNat 4294967295)), (10, .int (Int32.ofNat 9)), (21, .int (Int32.ofNat 4294967295)), (15, .int (Int32.ofNat 4294967295)), (9, .int (Int32.ofNat 9)), (20, .int (Int32.ofNat 4294967295)), (14, .int (Int32.ofNat 4294967295)), (8, .int (Int32.ofNat 9)), (19, .int (Int32.ofNat 4294967295)), (13, .int (Int32.ofNat 4294967295)), (7, .int (Int32.ofNat 9)), (18, .int (Int32.ofNat 4294967295)), (12, .int (Int32.ofNat 4294967295)), (6, .int (Int32.ofNat 9)), (5, .int (Int32.ofNat 0)), (4, .int (Int32.ofNat 0)), (3, .int (Int32.ofNat 0)), (2, .int (Int32.ofNat 0)), (1, .int (Int32.ofNat 0)), (0, .int (Int32.ofNat 0)), (71, .int (Int32.ofNat 0)), (70, .int (Int32.ofNat 0)), (69, .int (Int32.ofNat 0)), (68, .int (Int32.ofNat 0)), (67, .int (Int32.ofNat 0)), (66, .int (Int32.ofNat 0)), (65, .int (Int32.ofNat 0)), (64, .int (Int32.ofNat 0)), (63, .int (Int32.ofNat 0)), (62, .int (Int32.ofNat 0)), (61, .int (Int32.ofNat 0)), (60, .int (Int32.ofNat 0)), (59, .int (Int32.ofNat 0)), (58, .int (Int32.ofNat 0)), (57, .int (Int32.ofNat 0)), (56, .int (Int32.ofNat 0)), (55, .int (Int32.ofNat 0)), (54, .int (Int32.ofNat 0)), (53, .int (Int32.ofNat 0)), (52, .int (Int32.ofNat 0)), (51, .int (Int32.ofNat 0)), (50, .int (Int32.ofNat 0)), (49, .int (Int32.ofNat 0)), (48, .int (Int32.ofNat 0)), (47, .int (Int32.ofNat 0)), (46, .int (Int32.ofNat 0)), (45, .int (Int32.ofNat 0)), (44, .int (Int32.ofNat 0)), (43, .int (Int32.ofNat 0)), (42, .int (Int32.ofNat 0)), (41, .int (Int32.ofNat 0)), (40, .int (Int32.ofNat 0)), (39, .int (Int32.ofNat 0)), (38, .int (Int32.ofNat 0)), (37, .int (Int32.ofNat 0)), (36, .int (Int32.ofNat 0)), (35, .int (Int32.ofNat 0)), (34, .int (Int32.ofNat 0)), (33, .int (Int32.ofNat 0)), (32, .int (Int32.ofNat 0)), (31, .int (Int32.ofNat 0)), (30, .int (Int32.ofNat 0)), (29, .int (Int32.ofNat 0)), (28, .int (Int32.ofNat 0)), (27, .int (Int32.ofNat 0)), (26, .int (Int32.ofNat 0)), (25, .int (Int32.ofNat 0)), (24, .int (Int32.ofNat 0)), (23, .int (Int32.ofNat 0)), (22, .int (Int32.ofNat 0)), (21, .int (Int32.ofNat 0)), (20, .int (Int32.ofNat 0)), (19, .int (Int32.ofNat 0)), (18, .int (Int32.ofNat 0)), (17, .int (Int32.ofNat 0)), (16, .int (Int32.ofNat 0)), (15, .int (Int32.ofNat 0)), (14, .int (Int32.ofNat 0)), (13, .int (Int32.ofNat 0)), (12, .int (Int32.ofNat 0)), (11, .int (Int32.ofNat 0)), (10, .int (Int32.ofNat 0)), (9, .int (Int32.ofNat 0)), (8, .int (Int32.ofNat 0)), (7, .int (Int32.ofNat 0)), (6, .int (Int32.ofNat 0)), (5, .int (Int32.ofNat 0)), (4, .int (Int32.ofNat 0)), (3, .int (Int32.ofNat 0)), (2, .int (Int32.ofNat 0)), (1, .int (Int32.ofNat 0)), (0, .int (Int32.ofNat 0))]) ::
  .inr (0, 6, []) ::
  .inl (10, [.ref 12, .ref 13, .ref 44, .ref 3]) ::
  .inr (0, 72, [(70, .int (Int32.ofNat 1)), (23, .int (Int32.ofNat 4294967295)), (17, .int (Int32.ofNat 4294967295)), (11, .int (Int32.ofNat 9)), (22, .int (Int32.ofNat 4294967295)), (16, .int (Int32.ofNat 4294967295)), (10, .int (Int32.ofNat 9)), (21, .int (Int32.ofNat 4294967295)), (15, .int (Int32.ofNat 4294967295)), (9, .int (Int32.ofNat 9)), (20, .int (Int32.ofNat 4294967295)), (14, .int (Int32.ofNat 4294967295)), (8, .int (Int32.ofNat 9)), (19, .int (Int32.ofNat 4294967295)), (13, .int (Int32.ofNat 4294967295)), (7, .int (Int32.ofNat 9)), (18, .int (Int32.ofNat 4294967295)), (12, .int (Int32.ofNat 4294967295)), (6, .int (Int32.ofNat 9)), (5, .int (Int32.ofNat 0)), (4, .int (Int32.ofNat 0)), (3, .int (Int32.ofNat 0)), (2, .int (Int32.ofNat 0)), (1, .int (Int32.ofNat 0)), (0, .int (Int32.ofNat 0)), (71, .int (Int32.ofNat 0)), (70, .int (Int32.ofNat 0)), (69, .int (Int32.ofNat 0)), (68, .int (Int32.ofNat 0)), (67, .int (Int32.ofNat 0)), (66, .int (Int32.ofNat 0)), (65, .int (Int32.ofNat 0)), (64, .int (Int32.ofNat 0)), (63, .int (Int32.ofNat 0)), (62, .int (Int32.ofNat 0)), (61, .int (Int32.ofNat 0)), (60, .int (Int32.ofNat 0)), (59, .int (Int32.ofNat 0)), (58, .int (Int32.ofNat 0)), (57, .int (Int32.ofNat 0)), (56, .int (Int32.ofNat 0)), (55, .int (Int32.ofNat 0)), (54, .int (Int32.ofNat 0)), (53, .int (Int32.ofNat 0)), (52, .int (Int32.ofNat 0)), (51, .int (Int32.ofNat 0)), (50, .int (Int32.ofNat 0)), (49, .int (Int32.ofNat 0)), (48, .int (Int32.ofNat 0)), (47, .int (Int32.ofNat 0)), (46, .int (Int32.ofNat 0)), (45, .int (Int32.ofNat 0)), (44, .int (Int32.ofNat 0)), (43, .int (Int32.ofNat 0)), (42, .int (Int32.ofNat 0)), (41, .int (Int32.ofNat 0)), (40, .int (Int32.ofNat 0)), (39, .int (Int32.ofNat 0)), (38, .int (Int32.ofNat 0)), (37, .int (Int32.ofNat 0)), (36, .int (Int32.ofNat 0)), (35, .int (Int32.ofNat 0)), (34, .int (Int32.ofNat 0)), (33, .int (Int32.ofNat 0)), (32, .int (Int32.ofNat 0)), (31, .int (Int32.ofNat 0)), (30, .int (Int32.ofNat 0)), (29, .int (Int32.ofNat 0)), (28, .int (Int32.ofNat 0)), (27, .int (Int32.ofNat 0)), (26, .int (Int32.ofNat 0)), (25, .int (Int32.ofNat 0)), (24, .int (Int32.ofNat 0)), (23, .int (Int32.ofNat 0)), (22, .int (Int32.ofNat 0)), (21, .int (Int32.ofNat 0)), (20, .int (Int32.ofNat 0)), (19, .int (Int32.ofNat 0)), (18, .int (Int32.ofNat 0)), (17, .int (Int32.ofNat 0)), (16, .int (Int32.ofNat 0)), (15, .int (Int32.ofNat 0)), (14, .int (Int32.ofNat 0)), (13, .int (Int32.ofNat 0)), (12, .int (Int32.ofNat 0)), (11, .int (Int32.ofNat 0)), (10, .int (Int32.ofNat 0)), (9, .int (Int32.ofNat 0)), (8, .int (Int32.ofNat 0)), (7, .int (Int32.ofNat 0)), (6, .int (Int32.ofNat 0)), (5, .int (Int32.ofNat 0)), (4, .int (Int32.ofNat 0)), (3, .int (Int32.ofNat 0)), (2, .int (Int32.ofNat 0)), (1, .int (Int32.ofNat 0)), (0, .int (Int32.ofNat 0))]) ::
  .inr (0, 6, []) ::
  .inl (9, [.int (Int32.ofNat 0), .int (Int32.ofNat 0), .int (Int32.ofNat 0), .ref 8, .ref 15, .ref 16, .ref 17, .int (Int32.ofNat 0)]) ::
  .inr (0, 50, []) ::
  .inr (0, 50, []) ::
  .inr (0, 50, []) ::
  .inl (7, [.int (Int32.ofNat 0), .int (Int32.ofNat 0), .int (Int32.ofNat 0), .int (Int32.ofNat 0), .ref 8, .ref 3, .ref 19, .ref 20, .ref 21, .ref 22, .ref 23, .ref 24, .int (Int32.ofNat 0), .int (Int32.ofNat 0), .int (Int32.ofNat 0)]) ::
  .inr (0, 798, []) ::
  .inr (0, 294, []) ::
  .inr (0, 3500, []) ::
  .inr (0, 7, []) ::
  .inr (0, 6, []) ::
  .inr (0, 6, []) ::
  .inl (2, [.ref 26, .int (Int32.ofNat 0), .ref 27, .int (Int32.ofNat 0), .ref 44, .int (Int32.ofNat 0)]) ::
  .inr (0, 64, []) ::
  .inr (0, 64, []) ::
  .inl (1, [.int (Int32.ofNat 0), .ref 29, .ref 30, .int (Int32.ofNat 0), .ref 31, .ref 32]) ::
  .inr (0, 6, []) ::
  .inr (0, 6, []) ::
  .inr (0, 6, []) ::
  .inr (0, 6, []) ::
  .inl (4, [.int (Int32.ofNat 0), .int (Int32.ofNat 0), .int (Int32.ofNat 0), .int (Int32.ofNat 0), .ref 28, .ref 44, .int (Int32.ofNat 0), .int (Int32.ofNat 0), .int (Int32.ofNat 0), .ref 34, .ref 35, .ref 36, .int (Int32.ofNat 0), .ref 37, .ref 38, .ref 39, .ref 40, .ref 41]) ::
  .inr (0, 7, []) ::
  .inr (0, 7, []) ::
  .inr (0, 6, []) ::
  .inr (0, 4116, []) ::
  .inr (0, 686, []) ::
  .inr (0, 1600, []) ::
  .inr (0, 686, []) ::
  .inr (0, 1600, []) ::
  .inl (0, [.int (Int32.ofNat 0), .int (Int32.ofNat 0), .int (Int32.ofNat 0), .ref 11, .ref 43]) ::
  .inr (0, 120, []) :: t
set_option maxRecDepth 100000 in
def xr_W0_1 (t : List xr_C) : List xr_C := .inl (3, [.int (Int32.ofNat 0), .int (Int32.ofNat 0), .int (Int32.ofNat 0), .int (Int32.ofNat 20), .int (Int32.ofNat 0), .int (Int32.ofNat 0), .int (Int32.ofNat 0), .long (Int64.ofNat 0), .ref 45, .ref 46, .ref 47, .ref 48, .ref 49, .ref 50, .ref 51, .ref 52]) ::
  .inr (0, 6, []) ::
  .inr (0, 6, []) ::
  .inr (0, 6, []) ::
  .inr (0, 6, []) ::
  .inr (0, 10, []) ::
  .inr (0, 10, []) ::
  .inr (0, 10, []) ::
  .inr (0, 10, []) ::
  .inl (12, [.int (Int32.ofNat 0), .int (Int32.ofNat 0), .int (Int32.ofNat 0), .int (Int32.ofNat 4294967295), .int (Int32.ofNat 0), .int (Int32.ofNat 0), .int (Int32.ofNat 0), .int (Int32.ofNat 0), .int (Int32.ofNat 0), .ref 54, .ref 55, .ref 56, .ref 57, .ref 58, .ref 59, .ref 60, .ref 61, .ref 68, .ref 75, .ref 86, .int (Int32.ofNat 0), .int (Int32.ofNat 0), .ref 97, .ref 258, .ref 419, .ref 426, .ref 433, .ref 434, .ref 435, .int (Int32.ofNat 0), .ref 496, .ref 497, .ref 498, .ref 519, .int (Int32.ofNat 0), .int (Int32.ofNat 0), .int (Int32.ofNat 0), .int (Int32.ofNat 0), .int (Int32.ofNat 0), .ref 523, .int (Int32.ofNat 0), .int (Int32.ofNat 0), .ref 524, .ref 525, .ref 526, .int (Int32.ofNat 0), .int (Int32.ofNat 0), .int (Int32.ofNat 0), .int (Int32.ofNat 0)]) ::
  .inr (0, 600, []) ::
  .inr (0, 2, []) ::
  .inr (0, 7, [(3, .int (Int32.ofNat 20)), (6, .int (Int32.ofNat 0)), (5, .int (Int32.ofNat 0)), (4, .int (Int32.ofNat 0)), (3, .int (Int32.ofNat 0)), (2, .int (Int32.ofNat 0)), (1, .int (Int32.ofNat 0)), (0, .int (Int32.ofNat 0))]) ::
  .inr (0, 7, [(6, .int (Int32.ofNat 0)), (5, .int (Int32.ofNat 0)), (4, .int (Int32.ofNat 0)), (3, .int (Int32.ofNat 20)), (2, .int (Int32.ofNat 0)), (1, .int (Int32.ofNat 0)), (0, .int (Int32.ofNat 0))]) ::
  .inr (0, 6, []) ::
  .inr (0, 6, []) ::
  .inr (0, 6, []) ::
  .inr (3, 6, [(5, .ref 67), (4, .ref 66), (3, .ref 65), (2, .ref 64), (1, .ref 63), (0, .ref 62)]) ::
  .inr (0, 3, []) ::
  .inr (0, 3, []) ::
  .inr (0, 3, []) ::
  .inr (0, 3, []) ::
  .inr (0, 3, []) ::
  .inr (0, 3, []) ::
  .inr (3, 6, [(5, .ref 74), (4, .ref 73), (3, .ref 72), (2, .ref 71), (1, .ref 70), (0, .ref 69)]) ::
  .inr (0, 3, []) ::
  .inr (0, 3, []) ::
  .inr (0, 3, []) ::
  .inr (0, 3, []) ::
  .inr (0, 3, []) ::
  .inr (0, 3, []) ::
  .inr (3, 10, [(9, .ref 85), (8, .ref 84), (7, .ref 83), (6, .ref 82), (5, .ref 81), (4, .ref 80), (3, .ref 79), (2, .ref 78), (1, .ref 77), (0, .ref 76)]) ::
  .inr (0, 4, []) ::
  .inr (0, 4, []) ::
  .inr (0, 4, []) ::
  .inr (0, 4, []) ::
  .inr (0, 4, []) ::
  .inr (0, 4, []) ::
  .inr (0, 4, []) ::
  .inr (0, 4, []) ::
  .inr (0, 4, []) ::
  .inr (0, 4, []) ::
  .inr (3, 10, [(9, .ref 96), (8, .ref 95), (7, .ref 94), (6, .ref 93), (5, .ref 92), (4, .ref 91), (3, .ref 90), (2, .ref 89), (1, .ref 88), (0, .ref 87)]) ::
  .inr (0, 4, []) :: t
set_option maxRecDepth 100000 in
def xr_W0_2 (t : List xr_C) : List xr_C := .inr (0, 4, []) ::
  .inr (0, 4, []) ::
  .inr (0, 4, []) ::
  .inr (0, 4, []) ::
  .inr (0, 4, []) ::
  .inr (0, 4, []) ::
  .inr (0, 4, []) ::
  .inr (0, 4, []) ::
  .inr (0, 4, []) ::
  .inr (3, 160, [(159, .ref 257), (158, .ref 256), (157, .ref 255), (156, .ref 254), (155, .ref 253), (154, .ref 252), (153, .ref 251), (152, .ref 250), (151, .ref 249), (150, .ref 248), (149, .ref 247), (148, .ref 246), (147, .ref 245), (146, .ref 244), (145, .ref 243), (144, .ref 242), (143, .ref 241), (142, .ref 240), (141, .ref 239), (140, .ref 238), (139, .ref 237), (138, .ref 236), (137, .ref 235), (136, .ref 234), (135, .ref 233), (134, .ref 232), (133, .ref 231), (132, .ref 230), (131, .ref 229), (130, .ref 228), (129, .ref 227), (128, .ref 226), (127, .ref 225), (126, .ref 224), (125, .ref 223), (124, .ref 222), (123, .ref 221), (122, .ref 220), (121, .ref 219), (120, .ref 218), (119, .ref 217), (118, .ref 216), (117, .ref 215), (116, .ref 214), (115, .ref 213), (114, .ref 212), (113, .ref 211), (112, .ref 210), (111, .ref 209), (110, .ref 208), (109, .ref 207), (108, .ref 206), (107, .ref 205), (106, .ref 204), (105, .ref 203), (104, .ref 202), (103, .ref 201), (102, .ref 200), (101, .ref 199), (100, .ref 198), (99, .ref 197), (98, .ref 196), (97, .ref 195), (96, .ref 194), (95, .ref 193), (94, .ref 192), (93, .ref 191), (92, .ref 190), (91, .ref 189), (90, .ref 188), (89, .ref 187), (88, .ref 186), (87, .ref 185), (86, .ref 184), (85, .ref 183), (84, .ref 182), (83, .ref 181), (82, .ref 180), (81, .ref 179), (80, .ref 178), (79, .ref 177), (78, .ref 176), (77, .ref 175), (76, .ref 174), (75, .ref 173), (74, .ref 172), (73, .ref 171), (72, .ref 170), (71, .ref 169), (70, .ref 168), (69, .ref 167), (68, .ref 166), (67, .ref 165), (66, .ref 164), (65, .ref 163), (64, .ref 162), (63, .ref 161), (62, .ref 160), (61, .ref 159), (60, .ref 158), (59, .ref 157), (58, .ref 156), (57, .ref 155), (56, .ref 154), (55, .ref 153), (54, .ref 152), (53, .ref 151), (52, .ref 150), (51, .ref 149), (50, .ref 148), (49, .ref 147), (48, .ref 146), (47, .ref 145), (46, .ref 144), (45, .ref 143), (44, .ref 142), (43, .ref 141), (42, .ref 140), (41, .ref 139), (40, .ref 138), (39, .ref 137), (38, .ref 136), (37, .ref 135), (36, .ref 134), (35, .ref 133), (34, .ref 132), (33, .ref 131), (32, .ref 130), (31, .ref 129), (30, .ref 128), (29, .ref 127), (28, .ref 126), (27, .ref 125), (26, .ref 124), (25, .ref 123), (24, .ref 122), (23, .ref 121), (22, .ref 120), (21, .ref 119), (20, .ref 118), (19, .ref 117), (18, .ref 116), (17, .ref 115), (16, .ref 114), (15, .ref 113), (14, .ref 112), (13, .ref 111), (12, .ref 110), (11, .ref 109), (10, .ref 108), (9, .ref 107), (8, .ref 106), (7, .ref 105), (6, .ref 104), (5, .ref 103), (4, .ref 102), (3, .ref 101), (2, .ref 100), (1, .ref 99), (0, .ref 98)]) ::
  .inr (0, 2, []) ::
  .inr (0, 2, []) ::
  .inr (0, 2, []) ::
  .inr (0, 2, []) ::
  .inr (0, 2, []) ::
  .inr (0, 2, []) ::
  .inr (0, 2, []) ::
  .inr (0, 2, []) ::
  .inr (0, 2, []) ::
  .inr (0, 2, []) ::
  .inr (0, 2, []) ::
  .inr (0, 2, []) ::
  .inr (0, 2, []) ::
  .inr (0, 2, []) ::
  .inr (0, 2, []) ::
  .inr (0, 2, []) ::
  .inr (0, 2, []) ::
  .inr (0, 2, []) ::
  .inr (0, 2, []) ::
  .inr (0, 2, []) ::
  .inr (0, 2, []) ::
  .inr (0, 2, []) ::
  .inr (0, 2, []) ::
  .inr (0, 2, []) ::
  .inr (0, 2, []) ::
  .inr (0, 2, []) ::
  .inr (0, 2, []) ::
  .inr (0, 2, []) ::
  .inr (0, 2, []) ::
  .inr (0, 2, []) ::
  .inr (0, 2, []) ::
  .inr (0, 2, []) ::
  .inr (0, 2, []) ::
  .inr (0, 2, []) :: t
set_option maxRecDepth 100000 in
def xr_W0_3 (t : List xr_C) : List xr_C := .inr (0, 2, []) ::
  .inr (0, 2, []) ::
  .inr (0, 2, []) ::
  .inr (0, 2, []) ::
  .inr (0, 2, []) ::
  .inr (0, 2, []) ::
  .inr (0, 2, []) ::
  .inr (0, 2, []) ::
  .inr (0, 2, []) ::
  .inr (0, 2, []) ::
  .inr (0, 2, []) ::
  .inr (0, 2, []) ::
  .inr (0, 2, []) ::
  .inr (0, 2, []) ::
  .inr (0, 2, []) ::
  .inr (0, 2, []) ::
  .inr (0, 2, []) ::
  .inr (0, 2, []) ::
  .inr (0, 2, []) ::
  .inr (0, 2, []) ::
  .inr (0, 2, []) ::
  .inr (0, 2, []) ::
  .inr (0, 2, []) ::
  .inr (0, 2, []) ::
  .inr (0, 2, []) ::
  .inr (0, 2, []) ::
  .inr (0, 2, []) ::
  .inr (0, 2, []) ::
  .inr (0, 2, []) ::
  .inr (0, 2, []) ::
  .inr (0, 2, []) ::
  .inr (0, 2, []) ::
  .inr (0, 2, []) ::
  .inr (0, 2, []) ::
  .inr (0, 2, []) ::
  .inr (0, 2, []) ::
  .inr (0, 2, []) ::
  .inr (0, 2, []) ::
  .inr (0, 2, []) ::
  .inr (0, 2, []) ::
  .inr (0, 2, []) ::
  .inr (0, 2, []) ::
  .inr (0, 2, []) ::
  .inr (0, 2, []) :: t
set_option maxRecDepth 100000 in
def xr_W0_4 (t : List xr_C) : List xr_C := .inr (0, 2, []) ::
  .inr (0, 2, []) ::
  .inr (0, 2, []) ::
  .inr (0, 2, []) ::
  .inr (0, 2, []) ::
  .inr (0, 2, []) ::
  .inr (0, 2, []) ::
  .inr (0, 2, []) ::
  .inr (0, 2, []) ::
  .inr (0, 2, []) ::
  .inr (0, 2, []) ::
  .inr (0, 2, []) ::
  .inr (0, 2, []) ::
  .inr (0, 2, []) ::
  .inr (0, 2, []) ::
  .inr (0, 2, []) ::
  .inr (0, 2, []) ::
  .inr (0, 2, []) ::
  .inr (0, 2, []) ::
  .inr (0, 2, []) ::
  .inr (0, 2, []) ::
  .inr (0, 2, []) ::
  .inr (0, 2, []) ::
  .inr (0, 2, []) ::
  .inr (0, 2, []) ::
  .inr (0, 2, []) ::
  .inr (0, 2, []) ::
  .inr (0, 2, []) ::
  .inr (0, 2, []) ::
  .inr (0, 2, []) ::
  .inr (0, 2, []) ::
  .inr (0, 2, []) ::
  .inr (0, 2, []) ::
  .inr (0, 2, []) ::
  .inr (0, 2, []) ::
  .inr (0, 2, []) ::
  .inr (0, 2, []) ::
  .inr (0, 2, []) ::
  .inr (0, 2, []) ::
  .inr (0, 2, []) ::
  .inr (0, 2, []) ::
  .inr (0, 2, []) ::
  .inr (0, 2, []) ::
  .inr (0, 2, []) :: t
set_option maxRecDepth 100000 in
def xr_W0_5 (t : List xr_C) : List xr_C := .inr (0, 2, []) ::
  .inr (0, 2, []) ::
  .inr (0, 2, []) ::
  .inr (0, 2, []) ::
  .inr (0, 2, []) ::
  .inr (0, 2, []) ::
  .inr (0, 2, []) ::
  .inr (0, 2, []) ::
  .inr (0, 2, []) ::
  .inr (0, 2, []) ::
  .inr (0, 2, []) ::
  .inr (0, 2, []) ::
  .inr (0, 2, []) ::
  .inr (0, 2, []) ::
  .inr (0, 2, []) ::
  .inr (0, 2, []) ::
  .inr (0, 2, []) ::
  .inr (0, 2, []) ::
  .inr (0, 2, []) ::
  .inr (0, 2, []) ::
  .inr (0, 2, []) ::
  .inr (0, 2, []) ::
  .inr (0, 2, []) ::
  .inr (0, 2, []) ::
  .inr (0, 2, []) ::
  .inr (0, 2, []) ::
  .inr (0, 2, []) ::
  .inr (0, 2, []) ::
  .inr (0, 2, []) ::
  .inr (0, 2, []) ::
  .inr (0, 2, []) ::
  .inr (0, 2, []) ::
  .inr (0, 2, []) ::
  .inr (0, 2, []) ::
  .inr (0, 2, []) ::
  .inr (0, 2, []) ::
  .inr (0, 2, []) ::
  .inr (0, 2, []) ::
  .inr (3, 160, [(159, .ref 418), (158, .ref 417), (157, .ref 416), (156, .ref 415), (155, .ref 414), (154, .ref 413), (153, .ref 412), (152, .ref 411), (151, .ref 410), (150, .ref 409), (149, .ref 408), (148, .ref 407), (147, .ref 406), (146, .ref 405), (145, .ref 404), (144, .ref 403), (143, .ref 402), (142, .ref 401), (141, .ref 400), (140, .ref 399), (139, .ref 398), (138, .ref 397), (137, .ref 396), (136, .ref 395), (135, .ref 394), (134, .ref 393), (133, .ref 392), (132, .ref 391), (131, .ref 390), (130, .ref 389), (129, .ref 388), (128, .ref 387), (127, .ref 386), (126, .ref 385), (125, .ref 384), (124, .ref 383), (123, .ref 382), (122, .ref 381), (121, .ref 380), (120, .ref 379), (119, .ref 378), (118, .ref 377), (117, .ref 376), (116, .ref 375), (115, .ref 374), (114, .ref 373), (113, .ref 372), (112, .ref 371), (111, .ref 370), (110, .ref 369), (109, .ref 368), (108, .ref 367), (107, .ref 366), (106, .ref 365), (105, .ref 364), (104, .ref 363), (103, .ref 362), (102, .ref 361), (101, .ref 360), (100, .ref 359), (99, .ref 358), (98, .ref 357), (97, .ref 356), (96, .ref 355), (95, .ref 354), (94, .ref 353), (93, .ref 352), (92, .ref 351), (91, .ref 350), (90, .ref 349), (89, .ref 348), (88, .ref 347), (87, .ref 346), (86, .ref 345), (85, .ref 344), (84, .ref 343), (83, .ref 342), (82, .ref 341), (81, .ref 340), (80, .ref 339), (79, .ref 338), (78, .ref 337), (77, .ref 336), (76, .ref 335), (75, .ref 334), (74, .ref 333), (73, .ref 332), (72, .ref 331), (71, .ref 330), (70, .ref 329), (69, .ref 328), (68, .ref 327), (67, .ref 326), (66, .ref 325), (65, .ref 324), (64, .ref 323), (63, .ref 322), (62, .ref 321), (61, .ref 320), (60, .ref 319), (59, .ref 318), (58, .ref 317), (57, .ref 316), (56, .ref 315), (55, .ref 314), (54, .ref 313), (53, .ref 312), (52, .ref 311), (51, .ref 310), (50, .ref 309), (49, .ref 308), (48, .ref 307), (47, .ref 306), (46, .ref 305), (45, .ref 304), (44, .ref 303), (43, .ref 302), (42, .ref 301), (41, .ref 300), (40, .ref 299), (39, .ref 298), (38, .ref 297), (37, .ref 296), (36, .ref 295), (35, .ref 294), (34, .ref 293), (33, .ref 292), (32, .ref 291), (31, .ref 290), (30, .ref 289), (29, .ref 288), (28, .ref 287), (27, .ref 286), (26, .ref 285), (25, .ref 284), (24, .ref 283), (23, .ref 282), (22, .ref 281), (21, .ref 280), (20, .ref 279), (19, .ref 278), (18, .ref 277), (17, .ref 276), (16, .ref 275), (15, .ref 274), (14, .ref 273), (13, .ref 272), (12, .ref 271), (11, .ref 270), (10, .ref 269), (9, .ref 268), (8, .ref 267), (7, .ref 266), (6, .ref 265), (5, .ref 264), (4, .ref 263), (3, .ref 262), (2, .ref 261), (1, .ref 260), (0, .ref 259)]) ::
  .inr (0, 2, []) ::
  .inr (0, 2, []) ::
  .inr (0, 2, []) ::
  .inr (0, 2, []) ::
  .inr (0, 2, []) :: t
set_option maxRecDepth 100000 in
def xr_W0_6 (t : List xr_C) : List xr_C := .inr (0, 2, []) ::
  .inr (0, 2, []) ::
  .inr (0, 2, []) ::
  .inr (0, 2, []) ::
  .inr (0, 2, []) ::
  .inr (0, 2, []) ::
  .inr (0, 2, []) ::
  .inr (0, 2, []) ::
  .inr (0, 2, []) ::
  .inr (0, 2, []) ::
  .inr (0, 2, []) ::
  .inr (0, 2, []) ::
  .inr (0, 2, []) ::
  .inr (0, 2, []) ::
  .inr (0, 2, []) ::
  .inr (0, 2, []) ::
  .inr (0, 2, []) ::
  .inr (0, 2, []) ::
  .inr (0, 2, []) ::
  .inr (0, 2, []) ::
  .inr (0, 2, []) ::
  .inr (0, 2, []) ::
  .inr (0, 2, []) ::
  .inr (0, 2, []) ::
  .inr (0, 2, []) ::
  .inr (0, 2, []) ::
  .inr (0, 2, []) ::
  .inr (0, 2, []) ::
  .inr (0, 2, []) ::
  .inr (0, 2, []) ::
  .inr (0, 2, []) ::
  .inr (0, 2, []) ::
  .inr (0, 2, []) ::
  .inr (0, 2, []) ::
  .inr (0, 2, []) ::
  .inr (0, 2, []) ::
  .inr (0, 2, []) ::
  .inr (0, 2, []) ::
  .inr (0, 2, []) ::
  .inr (0, 2, []) ::
  .inr (0, 2, []) ::
  .inr (0, 2, []) ::
  .inr (0, 2, []) ::
  .inr (0, 2, []) :: t
set_option maxRecDepth 100000 in
def xr_W0_7 (t : List xr_C) : List xr_C := .inr (0, 2, []) ::
  .inr (0, 2, []) ::
  .inr (0, 2, []) ::
  .inr (0, 2, []) ::
  .inr (0, 2, []) ::
  .inr (0, 2, []) ::
  .inr (0, 2, []) ::
  .inr (0, 2, []) ::
  .inr (0, 2, []) ::
  .inr (0, 2, []) ::
  .inr (0, 2, []) ::
  .inr (0, 2, []) ::
  .inr (0, 2, []) ::
  .inr (0, 2, []) ::
  .inr (0, 2, []) ::
  .inr (0, 2, []) ::
  .inr (0, 2, []) ::
  .inr (0, 2, []) ::
  .inr (0, 2, []) ::
  .inr (0, 2, []) ::
  .inr (0, 2, []) ::
  .inr (0, 2, []) ::
  .inr (0, 2, []) ::
  .inr (0, 2, []) ::
  .inr (0, 2, []) ::
  .inr (0, 2, []) ::
  .inr (0, 2, []) ::
  .inr (0, 2, []) ::
  .inr (0, 2, []) ::
  .inr (0, 2, []) ::
  .inr (0, 2, []) ::
  .inr (0, 2, []) ::
  .inr (0, 2, []) ::
  .inr (0, 2, []) ::
  .inr (0, 2, []) ::
  .inr (0, 2, []) ::
  .inr (0, 2, []) ::
  .inr (0, 2, []) ::
  .inr (0, 2, []) ::
  .inr (0, 2, []) ::
  .inr (0, 2, []) ::
  .inr (0, 2, []) ::
  .inr (0, 2, []) ::
  .inr (0, 2, []) :: t
set_option maxRecDepth 100000 in
def xr_W0_8 (t : List xr_C) : List xr_C := .inr (0, 2, []) ::
  .inr (0, 2, []) ::
  .inr (0, 2, []) ::
  .inr (0, 2, []) ::
  .inr (0, 2, []) ::
  .inr (0, 2, []) ::
  .inr (0, 2, []) ::
  .inr (0, 2, []) ::
  .inr (0, 2, []) ::
  .inr (0, 2, []) ::
  .inr (0, 2, []) ::
  .inr (0, 2, []) ::
  .inr (0, 2, []) ::
  .inr (0, 2, []) ::
  .inr (0, 2, []) ::
  .inr (0, 2, []) ::
  .inr (0, 2, []) ::
  .inr (0, 2, []) ::
  .inr (0, 2, []) ::
  .inr (0, 2, []) ::
  .inr (0, 2, []) ::
  .inr (0, 2, []) ::
  .inr (0, 2, []) ::
  .inr (0, 2, []) ::
  .inr (0, 2, []) ::
  .inr (0, 2, []) ::
  .inr (0, 2, []) ::
  .inr (0, 2, []) ::
  .inr (0, 2, []) ::
  .inr (0, 2, []) ::
  .inr (0, 2, []) ::
  .inr (0, 2, []) ::
  .inr (0, 2, []) ::
  .inr (0, 2, []) ::
  .inr (0, 2, []) ::
  .inr (0, 2, []) ::
  .inr (0, 2, []) ::
  .inr (0, 2, []) ::
  .inr (0, 2, []) ::
  .inr (0, 2, []) ::
  .inr (0, 2, []) ::
  .inr (0, 2, []) ::
  .inr (0, 2, []) ::
  .inr (0, 2, []) :: t
set_option maxRecDepth 100000 in
def xr_W0_9 (t : List xr_C) : List xr_C := .inr (0, 2, []) ::
  .inr (0, 2, []) ::
  .inr (0, 2, []) ::
  .inr (0, 2, []) ::
  .inr (0, 2, []) ::
  .inr (0, 2, []) ::
  .inr (0, 2, []) ::
  .inr (0, 2, []) ::
  .inr (0, 2, []) ::
  .inr (0, 2, []) ::
  .inr (0, 2, []) ::
  .inr (0, 2, []) ::
  .inr (0, 2, []) ::
  .inr (0, 2, []) ::
  .inr (0, 2, []) ::
  .inr (0, 2, []) ::
  .inr (0, 2, []) ::
  .inr (0, 2, []) ::
  .inr (0, 2, []) ::
  .inr (0, 2, []) ::
  .inr (0, 2, []) ::
  .inr (0, 2, []) ::
  .inr (0, 2, []) ::
  .inr (3, 6, [(5, .ref 425), (4, .ref 424), (3, .ref 423), (2, .ref 422), (1, .ref 421), (0, .ref 420)]) ::
  .inr (0, 2, []) ::
  .inr (0, 2, []) ::
  .inr (0, 2, []) ::
  .inr (0, 2, []) ::
  .inr (0, 2, []) ::
  .inr (0, 2, []) ::
  .inr (3, 6, [(5, .ref 432), (4, .ref 431), (3, .ref 430), (2, .ref 429), (1, .ref 428), (0, .ref 427)]) ::
  .inr (0, 2, []) ::
  .inr (0, 2, []) ::
  .inr (0, 2, []) ::
  .inr (0, 2, []) ::
  .inr (0, 2, []) ::
  .inr (0, 2, []) ::
  .inr (0, 160, []) ::
  .inr (0, 9, []) ::
  .inr (3, 60, [(59, .ref 495), (58, .ref 494), (57, .ref 493), (56, .ref 492), (55, .ref 491), (54, .ref 490), (53, .ref 489), (52, .ref 488), (51, .ref 487), (50, .ref 486), (49, .ref 485), (48, .ref 484), (47, .ref 483), (46, .ref 482), (45, .ref 481), (44, .ref 480), (43, .ref 479), (42, .ref 478), (41, .ref 477), (40, .ref 476), (39, .ref 475), (38, .ref 474), (37, .ref 473), (36, .ref 472), (35, .ref 471), (34, .ref 470), (33, .ref 469), (32, .ref 468), (31, .ref 467), (30, .ref 466), (29, .ref 465), (28, .ref 464), (27, .ref 463), (26, .ref 462), (25, .ref 461), (24, .ref 460), (23, .ref 459), (22, .ref 458), (21, .ref 457), (20, .ref 456), (19, .ref 455), (18, .ref 454), (17, .ref 453), (16, .ref 452), (15, .ref 451), (14, .ref 450), (13, .ref 449), (12, .ref 448), (11, .ref 447), (10, .ref 446), (9, .ref 445), (8, .ref 444), (7, .ref 443), (6, .ref 442), (5, .ref 441), (4, .ref 440), (3, .ref 439), (2, .ref 438), (1, .ref 437), (0, .ref 436)]) ::
  .inr (0, 4, []) ::
  .inr (0, 4, []) ::
  .inr (0, 4, []) ::
  .inr (0, 4, []) :: t
set_option maxRecDepth 100000 in
def xr_W0_10 (t : List xr_C) : List xr_C := .inr (0, 4, []) ::
  .inr (0, 4, []) ::
  .inr (0, 4, []) ::
  .inr (0, 4, []) ::
  .inr (0, 4, []) ::
  .inr (0, 4, []) ::
  .inr (0, 4, []) ::
  .inr (0, 4, []) ::
  .inr (0, 4, []) ::
  .inr (0, 4, []) ::
  .inr (0, 4, []) ::
  .inr (0, 4, []) ::
  .inr (0, 4, []) ::
  .inr (0, 4, []) ::
  .inr (0, 4, []) ::
  .inr (0, 4, []) ::
  .inr (0, 4, []) ::
  .inr (0, 4, []) ::
  .inr (0, 4, []) ::
  .inr (0, 4, []) ::
  .inr (0, 4, []) ::
  .inr (0, 4, []) ::
  .inr (0, 4, []) ::
  .inr (0, 4, []) ::
  .inr (0, 4, []) ::
  .inr (0, 4, []) ::
  .inr (0, 4, []) ::
  .inr (0, 4, []) ::
  .inr (0, 4, []) ::
  .inr (0, 4, []) ::
  .inr (0, 4, []) ::
  .inr (0, 4, []) ::
  .inr (0, 4, []) ::
  .inr (0, 4, []) ::
  .inr (0, 4, []) ::
  .inr (0, 4, []) ::
  .inr (0, 4, []) ::
  .inr (0, 4, []) ::
  .inr (0, 4, []) ::
  .inr (0, 4, []) ::
  .inr (0, 4, []) ::
  .inr (0, 4, []) ::
  .inr (0, 4, []) ::
  .inr (0, 4, []) :: t
set_option maxRecDepth 100000 in
def xr_W0_11 (t : List xr_C) : List xr_C := .inr (0, 4, []) ::
  .inr (0, 4, []) ::
  .inr (0, 4, []) ::
  .inr (0, 4, []) ::
  .inr (0, 4, []) ::
  .inr (0, 4, []) ::
  .inr (0, 4, []) ::
  .inr (0, 4, []) ::
  .inr (0, 4, []) ::
  .inr (0, 4, []) ::
  .inr (0, 4, []) ::
  .inr (0, 4, []) ::
  .inr (0, 72, [(70, .int (Int32.ofNat 1)), (71, .int (Int32.ofNat 0)), (70, .int (Int32.ofNat 0)), (69, .int (Int32.ofNat 0)), (68, .int (Int32.ofNat 0)), (67, .int (Int32.ofNat 0)), (66, .int (Int32.ofNat 0)), (65, .int (Int32.ofNat 0)), (64, .int (Int32.ofNat 0)), (63, .int (Int32.ofNat 0)), (62, .int (Int32.ofNat 0)), (61, .int (Int32.ofNat 0)), (60, .int (Int32.ofNat 0)), (59, .int (Int32.ofNat 0)), (58, .int (Int32.ofNat 0)), (57, .int (Int32.ofNat 0)), (56, .int (Int32.ofNat 0)), (55, .int (Int32.ofNat 0)), (54, .int (Int32.ofNat 0)), (53, .int (Int32.ofNat 0)), (52, .int (Int32.ofNat 0)), (51, .int (Int32.ofNat 0)), (50, .int (Int32.ofNat 0)), (49, .int (Int32.ofNat 0)), (48, .int (Int32.ofNat 0)), (47, .int (Int32.ofNat 0)), (46, .int (Int32.ofNat 0)), (45, .int (Int32.ofNat 0)), (44, .int (Int32.ofNat 0)), (43, .int (Int32.ofNat 0)), (42, .int (Int32.ofNat 0)), (41, .int (Int32.ofNat 0)), (40, .int (Int32.ofNat 0)), (39, .int (Int32.ofNat 0)), (38, .int (Int32.ofNat 0)), (37, .int (Int32.ofNat 0)), (36, .int (Int32.ofNat 0)), (35, .int (Int32.ofNat 0)), (34, .int (Int32.ofNat 0)), (33, .int (Int32.ofNat 0)), (32, .int (Int32.ofNat 0)), (31, .int (Int32.ofNat 0)), (30, .int (Int32.ofNat 0)), (29, .int (Int32.ofNat 0)), (28, .int (Int32.ofNat 0)), (27, .int (Int32.ofNat 0)), (26, .int (Int32.ofNat 0)), (25, .int (Int32.ofNat 0)), (24, .int (Int32.ofNat 0)), (23, .int (Int32.ofNat 4294967295)), (22, .int (Int32.ofNat 4294967295)), (21, .int (Int32.ofNat 4294967295)), (20, .int (Int32.ofNat 4294967295)), (19, .int (Int32.ofNat 4294967295)), (18, .int (Int32.ofNat 4294967295)), (17, .int (Int32.ofNat 4294967295)), (16, .int (Int32.ofNat 4294967295)), (15, .int (Int32.ofNat 4294967295)), (14, .int (Int32.ofNat 4294967295)), (13, .int (Int32.ofNat 4294967295)), (12, .int (Int32.ofNat 4294967295)), (11, .int (Int32.ofNat 4294967295)), (10, .int (Int32.ofNat 4294967295)), (9, .int (Int32.ofNat 4294967295)), (8, .int (Int32.ofNat 4294967295)), (7, .int (Int32.ofNat 4294967295)), (6, .int (Int32.ofNat 4294967295)), (5, .int (Int32.ofNat 0)), (4, .int (Int32.ofNat 0)), (3, .int (Int32.ofNat 0)), (2, .int (Int32.ofNat 0)), (1, .int (Int32.ofNat 0)), (0, .int (Int32.ofNat 0))]) ::
  .inr (0, 72, []) ::
  .inr (3, 20, [(19, .ref 518), (18, .ref 517), (17, .ref 516), (16, .ref 515), (15, .ref 514), (14, .ref 513), (13, .ref 512), (12, .ref 511), (11, .ref 510), (10, .ref 509), (9, .ref 508), (8, .ref 507), (7, .ref 506), (6, .ref 505), (5, .ref 504), (4, .ref 503), (3, .ref 502), (2, .ref 501), (1, .ref 500), (0, .ref 499)]) ::
  .inr (0, 72, []) ::
  .inr (0, 72, []) ::
  .inr (0, 72, []) ::
  .inr (0, 72, []) ::
  .inr (0, 72, []) ::
  .inr (0, 72, []) ::
  .inr (0, 72, []) ::
  .inr (0, 72, []) ::
  .inr (0, 72, []) ::
  .inr (0, 72, []) ::
  .inr (0, 72, []) ::
  .inr (0, 72, []) ::
  .inr (0, 72, []) ::
  .inr (0, 72, []) ::
  .inr (0, 72, []) ::
  .inr (0, 72, []) ::
  .inr (0, 72, []) ::
  .inr (0, 72, []) ::
  .inr (0, 72, []) ::
  .inr (0, 72, []) ::
  .inr (3, 3, [(2, .ref 522), (1, .ref 521), (0, .ref 520)]) ::
  .inr (0, 1513, []) ::
  .inr (0, 1513, []) ::
  .inr (0, 1513, []) ::
  .inr (0, 6, []) ::
  .inr (0, 6, []) ::
  .inr (0, 4000, []) ::
  .inr (0, 6, []) ::
  .inr (2, 1, []) :: t
def xr_W0 : List xr_C := (xr_W0_0 (xr_W0_1 (xr_W0_2 (xr_W0_3 (xr_W0_4 (xr_W0_5 (xr_W0_6 (xr_W0_7 (xr_W0_8 (xr_W0_9 (xr_W0_10 (xr_W0_11 []))))))))))))
def xr_l0 : xr_L := [(4, .int (Int32.ofNat 0)), (3, .ref 527), (2, .ref 53), (1, .ref 0), (0, .float 0)]
set_option maxRecDepth 100000 in
theorem xr_pre0 : xr_isM (xr_lp (xr_Kc (xr_pc (xm_law.2.2.2.2.2.2.drop 13)) xr_l0 [] xr_W0 true 528 27593) [] [] none xr_mt 20 (xr_R [] [] (fun _ _ _ _ _ => none) xr_mt 100000 20) xm_law 13 xm_law.2.2.2.2.2.2 [(0, .float 0)] [] [] true 0 0) true 528 27593 = true := by decide +kernel
end
section
/-! one call's tree of facts: what is chosen, what follows, that nothing is left out -/
def xt_go (df : xr_D) (fx : xr_F) (sm : Nat → Nat → List Value → List xr_C → Bool → Option xr_Out) (scr : List Value) : Bool := xr_one (xr_lp xr_K0 df fx (some scr) xr_mt 20 (xr_R df fx sm xr_mt 100000 20) xm_law 400 (xm_law.2.2.2.2.2.2.drop 13) xr_l0 [] xr_W0 true 528 27593)
def xt_iv (ep : Nat → Int32) (v : Value) : Int32 := match v with
  | .int x => x
  | .retAddr n => ep n
  | _ => 0
theorem xt_iv_ok {ep : Nat → Int32} {ba : Nat} {sg : Nat → Nat} {v : Value} (h : xr_isI v = true) : xr_v ep ba sg v = .int (xt_iv ep v) := by
  cases v <;> first | rfl | (simp [xr_isI] at h)
def xt_ext : xr_D → (Nat → Int32) → Nat → Int32
  | [], ep => ep
  | d :: t, ep => match d.2.2.2 with
    | .retAddr n => xt_ext t (fun k => bif Nat.beq k n then xr_op d.1 (xt_iv ep d.2.1) (xt_iv ep d.2.2.1) else ep k)
    | _ => xt_ext t ep
def xt_lt (b : Nat) (v : Value) : Bool := match v with
  | .int _ => true
  | .retAddr n => Nat.blt n b
  | _ => false
def xt_ssa : Nat → xr_D → Bool
  | _, [] => true
  | b, d :: t => xt_lt b d.2.1 && (xt_lt b d.2.2.1 && (match d.2.2.2 with
    | .retAddr n => Nat.ble b n && xt_ssa (n + 1) t
    | _ => false))
theorem xt_ext_old : ∀ {df : xr_D} {b : Nat} {ep : Nat → Int32} {k : Nat}, xt_ssa b df = true → k < b → xt_ext df ep k = ep k
  | [], _, _, _, _, _ => rfl
  | d :: t, b, ep, k, h, hk => by
    simp only [xt_ssa, Bool.and_eq_true] at h
    obtain ⟨-, -, h⟩ := h
    unfold xt_ext
    split at h
    · rename_i n hn
      simp only [Bool.and_eq_true] at h
      have hb := Nat.le_of_ble_eq_true h.1
      simp only [hn]
      rw [xt_ext_old h.2 (by omega)]
      have : Nat.beq k n = false := Bool.eq_false_iff.mpr (fun z => by have := Nat.eq_of_beq_eq_true z; omega)
      rw [this, cond_false]
    · cases h
theorem xt_lt_iv {ep ep' : Nat → Int32} {b : Nat} {v : Value} (h : xt_lt b v = true) (he : ∀ k, k < b → ep k = ep' k) : xt_iv ep v = xt_iv ep' v := by
  cases v <;> first | rfl | (exact he _ (Nat.le_of_ble_eq_true h)) | (simp [xt_lt] at h)
theorem xt_lt_I {b : Nat} {v : Value} (h : xt_lt b v = true) : xr_isI v = true := by
  cases v <;> first | rfl | (simp [xt_lt] at h)
theorem xt_ext_ok {ba : Nat} {sg : Nat → Nat} : ∀ {df : xr_D} {b : Nat} {ep : Nat → Int32}, xt_ssa b df = true → xr_okD (xt_ext df ep) ba sg df
  | [], _, _, _ => fun d h => by cases h
  | d :: t, b, ep, h => by
    simp only [xt_ssa, Bool.and_eq_true] at h
    obtain ⟨h1, h2, h⟩ := h
    split at h
    · rename_i n hn
      simp only [Bool.and_eq_true] at h
      have hb := Nat.le_of_ble_eq_true h.1
      have e0 : xt_ext (d :: t) ep = xt_ext t (fun k => bif Nat.beq k n then xr_op d.1 (xt_iv ep d.2.1) (xt_iv ep d.2.2.1) else ep k) := by
        rw [xt_ext]
        simp only [hn]
      intro q hq
      rw [e0]
      rcases List.mem_cons.mp hq with rfl | hq
      · have old : ∀ k, k < b → xt_ext t (fun k => bif Nat.beq k n then xr_op q.1 (xt_iv ep q.2.1) (xt_iv ep q.2.2.1) else ep k) k = ep k := by
          intro k hk
          rw [xt_ext_old h.2 (by omega)]
          have : Nat.beq k n = false := Bool.eq_false_iff.mpr (fun z => by have := Nat.eq_of_beq_eq_true z; omega)
          rw [this, cond_false]
        refine ⟨_, _, xt_iv_ok (xt_lt_I h1), xt_iv_ok (xt_lt_I h2), ?_⟩
        rw [hn, xt_lt_iv h1 old, xt_lt_iv h2 old]
        show Value.int _ = _
        rw [xt_ext_old h.2 (Nat.lt_succ_self n), show Nat.beq n n = true from Nat.beq_refl n, cond_true]
      · exact xt_ext_ok h.2 q hq
    · cases h
def xt_T (ep : Nat → Int32) (d : Nat × Value × Value × Bool) : Prop := d.2.2.2 = xr_cm d.1 (xt_iv ep d.2.1) (xt_iv ep d.2.2.1)
def xt_same (d e : Nat × Value × Value × Bool) : Bool := Nat.beq e.1 d.1 && (xr_qv e.2.1 d.2.1 && xr_qv e.2.2.1 d.2.2.1)
def xt_sel (d : Nat × Value × Value × Bool) (v : Bool) : List xr_F → List xr_F
  | [] => []
  | [] :: r => [] :: xt_sel d v r
  | (e :: t) :: r => bif xt_same d e then (bif e.2.2.2 == v then t :: xt_sel d v r else xt_sel d v r) else (e :: t) :: xt_sel d v r
def xt_cv : Nat → List xr_F → Bool
  | 0, _ => false
  | n + 1, ps => match ps with
    | [] => false
    | [] :: _ => true
    | (d :: t) :: r => xt_cv n (xt_sel d true ((d :: t) :: r)) && xt_cv n (xt_sel d false ((d :: t) :: r))
theorem xt_sel_ok {ep : Nat → Int32} {d : Nat × Value × Value × Bool} : ∀ {ps : List xr_F} {p : xr_F}, p ∈ xt_sel d (xr_cm d.1 (xt_iv ep d.2.1) (xt_iv ep d.2.2.1)) ps → (∀ e ∈ p, xt_T ep e) → ∃ q ∈ ps, ∀ e ∈ q, xt_T ep e
  | [], p, h, _ => by cases h
  | [] :: r, p, h, hp => ⟨[], List.mem_cons_self, fun e he => by cases he⟩
  | (e :: t) :: r, p, h, hp => by
    have up : (∃ q ∈ r, ∀ e ∈ q, xt_T ep e) → ∃ q ∈ (e :: t) :: r, ∀ e ∈ q, xt_T ep e := fun ⟨q, h1, h2⟩ => ⟨q, List.mem_cons_of_mem _ h1, h2⟩
    unfold xt_sel at h
    cases hs : xt_same d e with
    | false =>
      rw [hs, cond_false] at h
      rcases List.mem_cons.mp h with rfl | h
      · exact ⟨_, List.mem_cons_self, hp⟩
      · exact up (xt_sel_ok h hp)
    | true =>
      rw [hs, cond_true] at h
      cases hv : (e.2.2.2 == xr_cm d.1 (xt_iv ep d.2.1) (xt_iv ep d.2.2.1)) with
      | false =>
        rw [hv, cond_false] at h
        exact up (xt_sel_ok h hp)
      | true =>
        rw [hv, cond_true] at h
        rcases List.mem_cons.mp h with rfl | h
        · refine ⟨_, List.mem_cons_self, fun z hz => ?_⟩
          rcases List.mem_cons.mp hz with rfl | hz
          · simp only [xt_same, Bool.and_eq_true] at hs
            obtain ⟨h1, h2, h3⟩ := hs
            unfold xt_T
            rw [Nat.eq_of_beq_eq_true h1, xr_qv_ok h2, xr_qv_ok h3]
            exact eq_of_beq hv
          · exact hp z hz
        · exact up (xt_sel_ok h hp)
theorem xt_cv_ok {ep : Nat → Int32} : ∀ {n : Nat} {ps : List xr_F}, xt_cv n ps = true → ∃ p ∈ ps, ∀ e ∈ p, xt_T ep e
  | 0, _, h => by cases h
  | n + 1, ps, h => by
    unfold xt_cv at h
    split at h
    · cases h
    · exact ⟨[], List.mem_cons_self, fun e he => by cases he⟩
    · rename_i d t r
      simp only [Bool.and_eq_true] at h
      cases hv : xr_cm d.1 (xt_iv ep d.2.1) (xt_iv ep d.2.2.1) with
      | true =>
        obtain ⟨p, hp, hq⟩ := xt_cv_ok (ep := ep) h.1
        exact xt_sel_ok (d := d) (by rw [hv]; exact hp) hq
      | false =>
        obtain ⟨p, hp, hq⟩ := xt_cv_ok (ep := ep) h.2
        exact xt_sel_ok (d := d) (by rw [hv]; exact hp) hq
-- what follows by bounds
def xt_lou (x : Value) (r : Int) (d : Nat × Value × Value × Bool) : Int := match d with
  | (1, .int a, y, true) => bif xr_qv y x then max r (a.toInt + 1) else r
  | (1, y, .int a, false) => bif xr_qv y x then max r a.toInt else r
  | (0, y, .int a, true) => bif xr_qv y x then max r a.toInt else r
  | (0, y, .int a, false) => bif xr_qv y x && decide (r = a.toInt) then r + 1 else r
  | _ => r
def xt_hiu (x : Value) (r : Int) (d : Nat × Value × Value × Bool) : Int := match d with
  | (1, .int a, y, false) => bif xr_qv y x then min r a.toInt else r
  | (1, y, .int a, true) => bif xr_qv y x then min r (a.toInt - 1) else r
  | (0, y, .int a, true) => bif xr_qv y x then min r a.toInt else r
  | (0, y, .int a, false) => bif xr_qv y x && decide (r = a.toInt) then r - 1 else r
  | _ => r
def xt_lo (x : Value) : Int → xr_F → Int
  | r, [] => r
  | r, d :: t => xt_lo x (xt_lou x r d) t
def xt_hi (x : Value) : Int → xr_F → Int
  | r, [] => r
  | r, d :: t => xt_hi x (xt_hiu x r d) t
theorem xt_T1 {ep : Nat → Int32} {x y : Value} {b : Bool} (h : xt_T ep (1, x, y, b)) : (b = true → (xt_iv ep x).toInt < (xt_iv ep y).toInt) ∧ (b = false → (xt_iv ep y).toInt ≤ (xt_iv ep x).toInt) := by
  have h : b = decide (xt_iv ep x < xt_iv ep y) := h
  constructor
  · intro hb
    rw [hb] at h
    exact Int32.lt_iff_toInt_lt.mp (of_decide_eq_true h.symm)
  · intro hb
    rw [hb] at h
    have h1 := of_decide_eq_false h.symm
    have h2 : ¬ (xt_iv ep x).toInt < (xt_iv ep y).toInt := fun q => h1 (Int32.lt_iff_toInt_lt.mpr q)
    omega
theorem xt_T0 {ep : Nat → Int32} {x y : Value} {b : Bool} (h : xt_T ep (0, x, y, b)) : (b = true → (xt_iv ep x).toInt = (xt_iv ep y).toInt) ∧ (b = false → (xt_iv ep x).toInt ≠ (xt_iv ep y).toInt) := by
  have h : b = decide (xt_iv ep x = xt_iv ep y) := h
  constructor
  · intro hb
    rw [hb] at h
    rw [of_decide_eq_true h.symm]
  · intro hb
    rw [hb] at h
    have h1 := of_decide_eq_false h.symm
    exact fun q => h1 (Int32.toInt_inj.mp q)
theorem xt_lou_ok {ep : Nat → Int32} {x : Value} {r : Int} {d : Nat × Value × Value × Bool} (h : r ≤ (xt_iv ep x).toInt) (hd : xt_T ep d) : xt_lou x r d ≤ (xt_iv ep x).toInt := by
  unfold xt_lou
  split
  · rename_i a y
    cases hq : xr_qv y x with
    | false => exact h
    | true =>
      have e := xr_qv_ok hq
      subst e
      have := (xt_T1 hd).1 rfl
      simp only [cond_true]
      have e2 : (xt_iv ep (.int a)) = a := rfl
      rw [e2] at this
      omega
  · rename_i y a
    cases hq : xr_qv y x with
    | false => exact h
    | true =>
      have e := xr_qv_ok hq
      subst e
      have := (xt_T1 hd).2 rfl
      simp only [cond_true]
      have e2 : (xt_iv ep (.int a)) = a := rfl
      rw [e2] at this
      omega
  · rename_i y a
    cases hq : xr_qv y x with
    | false => exact h
    | true =>
      have e := xr_qv_ok hq
      subst e
      have := (xt_T0 hd).1 rfl
      simp only [cond_true]
      have e2 : (xt_iv ep (.int a)) = a := rfl
      rw [e2] at this
      omega
  · rename_i y a
    cases hq : (xr_qv y x && decide (r = a.toInt)) with
    | false => exact h
    | true =>
      simp only [Bool.and_eq_true, decide_eq_true_eq] at hq
      have e := xr_qv_ok hq.1
      subst e
      have := (xt_T0 hd).2 rfl
      simp only [cond_true]
      have e2 : (xt_iv ep (.int a)) = a := rfl
      rw [e2] at this
      omega
  · exact h
theorem xt_hiu_ok {ep : Nat → Int32} {x : Value} {r : Int} {d : Nat × Value × Value × Bool} (h : (xt_iv ep x).toInt ≤ r) (hd : xt_T ep d) : (xt_iv ep x).toInt ≤ xt_hiu x r d := by
  unfold xt_hiu
  split
  · rename_i a y
    cases hq : xr_qv y x with
    | false => exact h
    | true =>
      have e := xr_qv_ok hq
      subst e
      have := (xt_T1 hd).2 rfl
      simp only [cond_true]
      have e2 : (xt_iv ep (.int a)) = a := rfl
      rw [e2] at this
      omega
  · rename_i y a
    cases hq : xr_qv y x with
    | false => exact h
    | true =>
      have e := xr_qv_ok hq
      subst e
      have := (xt_T1 hd).1 rfl
      simp only [cond_true]
      have e2 : (xt_iv ep (.int a)) = a := rfl
      rw [e2] at this
      omega
  · rename_i y a
    cases hq : xr_qv y x with
    | false => exact h
    | true =>
      have e := xr_qv_ok hq
      subst e
      have := (xt_T0 hd).1 rfl
      simp only [cond_true]
      have e2 : (xt_iv ep (.int a)) = a := rfl
      rw [e2] at this
      omega
  · rename_i y a
    cases hq : (xr_qv y x && decide (r = a.toInt)) with
    | false => exact h
    | true =>
      simp only [Bool.and_eq_true, decide_eq_true_eq] at hq
      have e := xr_qv_ok hq.1
      subst e
      have := (xt_T0 hd).2 rfl
      simp only [cond_true]
      have e2 : (xt_iv ep (.int a)) = a := rfl
      rw [e2] at this
      omega
  · exact h
theorem xt_lo_ok {ep : Nat → Int32} {x : Value} : ∀ {p : xr_F} {r : Int}, r ≤ (xt_iv ep x).toInt → (∀ e ∈ p, xt_T ep e) → xt_lo x r p ≤ (xt_iv ep x).toInt
  | [], r, h, _ => h
  | d :: t, r, h, hp => xt_lo_ok (p := t) (xt_lou_ok h (hp d List.mem_cons_self)) (fun e he => hp e (List.mem_cons_of_mem _ he))
theorem xt_hi_ok {ep : Nat → Int32} {x : Value} : ∀ {p : xr_F} {r : Int}, (xt_iv ep x).toInt ≤ r → (∀ e ∈ p, xt_T ep e) → (xt_iv ep x).toInt ≤ xt_hi x r p
  | [], r, h, _ => h
  | d :: t, r, h, hp => xt_hi_ok (p := t) (xt_hiu_ok h (hp d List.mem_cons_self)) (fun e he => hp e (List.mem_cons_of_mem _ he))
abbrev xt_m0' : Int := -2147483648
abbrev xt_m1' : Int := 2147483647
def xt_imp (p : xr_F) (d : Nat × Value × Value × Bool) : Bool := match d with
  | (1, .int a, y, true) => decide (a.toInt < xt_lo y xt_m0' p)
  | (1, .int a, y, false) => decide (xt_hi y xt_m1' p ≤ a.toInt)
  | (1, y, .int a, true) => decide (xt_hi y xt_m1' p < a.toInt)
  | (1, y, .int a, false) => decide (a.toInt ≤ xt_lo y xt_m0' p)
  | (0, y, .int a, false) => decide (a.toInt < xt_lo y xt_m0' p) || decide (xt_hi y xt_m1' p < a.toInt)
  | (0, y, .int a, true) => decide (xt_lo y xt_m0' p = a.toInt) && decide (xt_hi y xt_m1' p = a.toInt)
  | _ => false
theorem xt_imp_ok {ep : Nat → Int32} {p : xr_F} {d : Nat × Value × Value × Bool} (hp : ∀ e ∈ p, xt_T ep e) (h : xt_imp p d = true) : xt_T ep d := by
  have lo : ∀ y, xt_lo y xt_m0' p ≤ (xt_iv ep y).toInt := fun y => xt_lo_ok (Int32.le_toInt _) hp
  have hi : ∀ y, (xt_iv ep y).toInt ≤ xt_hi y xt_m1' p := fun y => xt_hi_ok (by have := Int32.toInt_lt (xt_iv ep y); unfold xt_m1'; omega) hp
  have lt : ∀ (x y : Value), (xt_iv ep x).toInt < (xt_iv ep y).toInt → xt_T ep (1, x, y, true) := fun x y q => (decide_eq_true (Int32.lt_iff_toInt_lt.mpr q)).symm
  have nl : ∀ (x y : Value), (xt_iv ep y).toInt ≤ (xt_iv ep x).toInt → xt_T ep (1, x, y, false) := fun x y q => (decide_eq_false (fun (z : xt_iv ep x < xt_iv ep y) => by have := Int32.lt_iff_toInt_lt.mp z; omega)).symm
  unfold xt_imp at h
  split at h
  · rename_i a y
    have h := of_decide_eq_true h
    have := lo y
    exact lt _ _ (show a.toInt < _ by omega)
  · rename_i a y
    have h := of_decide_eq_true h
    have := hi y
    exact nl _ _ (show _ ≤ a.toInt by omega)
  · rename_i y a _
    have h := of_decide_eq_true h
    have := hi y
    exact lt _ _ (show _ < a.toInt by omega)
  · rename_i y a _
    have h := of_decide_eq_true h
    have := lo y
    exact nl _ _ (show a.toInt ≤ _ by omega)
  · rename_i y a
    simp only [Bool.or_eq_true, decide_eq_true_eq] at h
    have h1 := lo y
    have h2 := hi y
    refine (decide_eq_false (fun z => ?_)).symm
    have z : (xt_iv ep y).toInt = a.toInt := congrArg Int32.toInt z
    omega
  · rename_i y a
    simp only [Bool.and_eq_true, decide_eq_true_eq] at h
    have h1 := lo y
    have h2 := hi y
    refine (decide_eq_true (Int32.toInt_inj.mp ?_)).symm
    show (xt_iv ep y).toInt = a.toInt
    omega
  · cases h
def xt_mem (d : Nat × Value × Value × Bool) : xr_F → Bool
  | [] => false
  | e :: t => (xt_same d e && (e.2.2.2 == d.2.2.2)) || xt_mem d t
theorem xt_mem_ok {d : Nat × Value × Value × Bool} : ∀ {p : xr_F}, xt_mem d p = true → d ∈ p
  | [], h => by cases h
  | e :: t, h => by
    simp only [xt_mem, Bool.or_eq_true, Bool.and_eq_true] at h
    rcases h with ⟨h, hb⟩ | h
    · simp only [xt_same, Bool.and_eq_true] at h
      have : e = d := Prod.ext (Nat.eq_of_beq_eq_true h.1) (Prod.ext (xr_qv_ok h.2.1) (Prod.ext (xr_qv_ok h.2.2) (eq_of_beq hb)))
      rw [this]
      exact List.mem_cons_self
    · exact List.mem_cons_of_mem _ (xt_mem_ok h)
def xt_clo (p fx : xr_F) : Bool := fx.all (fun d => xr_isI d.2.1 && (xr_isI d.2.2.1 && (xt_mem d p || xt_imp p d)))
theorem xt_clo_ok {ep : Nat → Int32} {ba : Nat} {sg : Nat → Nat} {p fx : xr_F} (hp : ∀ e ∈ p, xt_T ep e) (h : xt_clo p fx = true) : xr_okF ep ba sg fx := by
  intro d hd
  have h1 := List.all_eq_true.mp h d hd
  simp only [Bool.and_eq_true, Bool.or_eq_true] at h1
  obtain ⟨h1, h2, h3⟩ := h1
  refine ⟨_, _, xt_iv_ok h1, xt_iv_ok h2, ?_⟩
  rcases h3 with h3 | h3
  · exact hp d (xt_mem_ok h3)
  · exact xt_imp_ok hp h3
theorem xt_nat {x : Int32} {h : Nat} (h1 : 0 ≤ x.toInt) (h2 : x.toInt < (h : Int)) : ∃ n, n < h ∧ x = Int32.ofNat n := by
  refine ⟨x.toInt.toNat, by omega, ?_⟩
  apply Int32.toInt_inj.mp
  have := Int32.toInt_lt x
  rw [Int32.toInt_ofNat_of_lt (by omega)]
  omega
end
section
/-! from the runs of one call to the law's end -/
def xt_Ctx (p : Program) (l : Launch) (s : State) (m : MethodId) (meth : Method) (c : Code) (b L : Nat) (xs : Nat → Int32) (D : va_G) (cy : Nat → ClassId) (sg : Nat → Nat) : Prop :=
  l.stackTraces = false ∧ meth.name = "law" ∧ c.exceptionTable.toList = tableOf [] ∧ lw_At p s m meth c b L xs ∧ va_K D vwCl (xr_ty cy) s ∧ xr_X s.heap.size sg s ∧ sg 0 = b ∧ (∀ M ∈ xr_mt, xr_Mok xr_mt M = true) ∧ xr_Mok xr_mt xm_law = true
def xt_Goal (p : Program) (l : Launch) (e : Env) (s : State) (m : MethodId) (below : List Frame) (meth : Method) (c : Code) (b : Nat) : Prop := W p l e room_1 s m #[Value.ref b] below meth c s.heap [] 0 0 (lw_Z below #[Value.ref b] s) (entryFrame m ([Value.ref b] : List Value).toArray 8)
section XTG
variable {p : Program} {l : Launch} {e : Env} {s : State} {m : MethodId} {below : List Frame} {meth : Method} {c : Code} {b L : Nat} {xs : Nat → Int32} {D : va_G} {cy : Nat → ClassId} {sg : Nat → Nat}
theorem xt_W (h : xt_Ctx p l s m meth c b L xs D cy sg) {ep : Nat → Int32} {df : xr_D} {fx : xr_F} {sm : Nat → Nat → List Value → List xr_C → Bool → Option xr_Out} {scr : List Value} (hD : xr_okD ep s.heap.size sg df) (hF : xr_okF ep s.heap.size sg fx) (hsm : ∀ d u as w b o, sm d u as w b = some o → xr_Con l D ep s.heap.size sg cy xr_mt d u as w b o) (hlen : scr.length = L) (hscr : ∀ (j : Nat) (v : Value), scr[j]? = some v → xr_v ep s.heap.size sg v = .int (xs j)) (hrun : xt_go df fx sm scr = true) : xt_Goal p l e s m below meth c b := by
  obtain ⟨hst, hnm, hTab, C0, hK, hX, hsg, hmt, hML⟩ := h
  exact xr_bridge2 hst hnm hTab C0 hK hX hsg hmt hML rfl rfl rfl rfl rfl (xr_isM_ok xr_pre0) (Nat.le_of_ble_eq_true rfl) (Nat.le_of_ble_eq_true rfl) hD hF (fun u as w b o ho => xr_R_ok hsm hst hD hF hmt 100000 20 u as w b o ho) hlen hscr hrun
def xt_sc (xs : Nat → Int32) (scr : List Value) : Prop := ∀ (j : Nat) (v : Value), scr[j]? = some v → xt_lt 7 v = true ∧ xt_iv xs v = xs j
/-- one call: its number, its tree; what is left over of the tree is given otherwise -/
theorem xt_call (h : xt_Ctx p l s m meth c b 7 xs D cy sg) (k : Nat) (hk : xs 0 &&& 63 = Int32.ofNat k) {scr : List Value} (hlen : scr.length = 7) (hsc : xt_sc xs scr) (df : xr_D) (hs : xt_ssa 7 df = true) (PS : List (xr_F × xr_F)) (RS : List xr_F) (n : Nat) (hcv : xt_cv n (PS.map (fun q => q.1) ++ RS) = true) (hall : PS.all (fun q => xt_clo q.1 q.2 && xt_go ((5, .retAddr 0, .int 63, .int (Int32.ofNat k)) :: df) q.2 xr_no scr) = true) (hr : ∀ q ∈ RS, (∀ d ∈ q, xt_T (xt_ext df xs) d) → xt_Goal p l e s m below meth c b) : xt_Goal p l e s m below meth c b := by
  obtain ⟨q, hq, hp⟩ := xt_cv_ok (ep := xt_ext df xs) hcv
  rcases List.mem_append.mp hq with hq | hq
  · obtain ⟨⟨q, fx⟩, hq', rfl⟩ := List.mem_map.mp hq
    have h1 := List.all_eq_true.mp hall _ hq'
    simp only [Bool.and_eq_true] at h1
    have old : ∀ z, z < 7 → xt_ext df xs z = xs z := fun z hz => xt_ext_old hs hz
    refine xt_W h (ep := xt_ext df xs) ?_ (xt_clo_ok hp h1.1) (fun d u as w b o ho => by cases ho) hlen (fun j v hv => ?_) h1.2
    · intro d hd
      rcases List.mem_cons.mp hd with rfl | hd
      · refine ⟨_, _, rfl, rfl, ?_⟩
        show Value.int (Int32.ofNat k) = .int (xt_ext df xs 0 &&& 63)
        rw [old 0 (by decide), hk]
      · exact xt_ext_ok hs d hd
    · obtain ⟨h3, h4⟩ := hsc j v hv
      rw [xt_iv_ok (xt_lt_I h3), xt_lt_iv h3 old, h4]
  · exact hr q hq hp
abbrev xt_v7 : List Value := [.retAddr 0, .retAddr 1, .retAddr 2, .retAddr 3, .retAddr 4, .retAddr 5, .retAddr 6]
theorem xt_sc7 : xt_sc xs xt_v7 := by
  intro j v h
  match j, h with
  | 0, h => cases h; exact ⟨rfl, rfl⟩
  | 1, h => cases h; exact ⟨rfl, rfl⟩
  | 2, h => cases h; exact ⟨rfl, rfl⟩
  | 3, h => cases h; exact ⟨rfl, rfl⟩
  | 4, h => cases h; exact ⟨rfl, rfl⟩
  | 5, h => cases h; exact ⟨rfl, rfl⟩
  | 6, h => cases h; exact ⟨rfl, rfl⟩
  | j + 7, h => simp at h
/-- the j-th int of the script as a number -/
theorem xt_sc_set {scr : List Value} {j : Nat} {x : Int32} (h : xt_sc xs scr) (hx : xs j = x) : xt_sc xs (scr.set j (.int x)) := by
  intro i v hv
  by_cases hij : j = i
  · subst hij
    rw [List.getElem?_set_self'] at hv
    cases hq : scr[j]? with
    | none => rw [hq] at hv; cases hv
    | some z =>
      rw [hq] at hv
      cases hv
      exact ⟨rfl, hx.symm⟩
  · rw [List.getElem?_set_ne hij] at hv
    exact h i v hv
end XTG
end
section
/-! runs that touch no world: one run serves every world -/
abbrev xp_Ih : Type := List xr_En → xr_L → List Value → Option (Option Value)
def xp_g (ih : xp_Ih) (o : Option xr_S) : Option (Option Value) := match o with
  | some q => ih q.1 q.2.1 q.2.2
  | none => none
def xp_e (M : xr_M) (e : xr_En) (st : List Value) : Option (Option Value) := match xr_rt M.2.2.2.1 e.2.1 st with
  | some rv => bif Nat.beq e.2.2.1 1 then some rv else none
  | none => none
def xp_st (df : xr_D) (fx : xr_F) (M : xr_M) (ih : xp_Ih) (rem : List xr_En) (l : xr_L) (st : List Value) : Option (Option Value) := match rem with
  | [] => none
  | e :: r => match e.2.2.2.2 with
    | 0 => xp_g ih (xr_pA r e.1 e.2.2.1 l st e.2.1)
    | 1 => xp_g ih (xr_pB df M.2.2.1 r e.1 e.2.2.1 l st e.2.1)
    | 2 => xp_g ih (xr_pC r e.1 e.2.2.1 l st e.2.1)
    | 3 => xp_g ih (xr_pD df r e.1 e.2.2.1 l st e.2.1)
    | 4 => xp_g ih (xr_pE fx M.2.2.2.2.2.2 r e.1 e.2.2.1 e.2.2.2.1 l st e.2.1)
    | 8 => xp_e M e st
    | 9 => xp_g ih (xr_pure df fx M.2.2.1 M.2.2.2.2.2.2 r e.1 e.2.2.1 e.2.2.2.1 l st e.2.1)
    | _ => none
def xp_lp (K : xp_Ih) (df : xr_D) (fx : xr_F) (M : xr_M) (n : Nat) : xp_Ih := Nat.rec K (fun _ ih => xp_st df fx M ih) n
theorem xp_g_ok {ih : xp_Ih} {ih' : xr_Ih} {w : List xr_C} {b : Bool} {ce sl : Nat} {o : Option xr_S} {rv : Option Value} (hi : ∀ r l st, ih r l st = some rv → ih' r l st w b ce sl = some (.inl rv, w, b, ce, sl)) (h : xp_g ih o = some rv) : xr_g3 ih' w b ce sl o = some (.inl rv, w, b, ce, sl) := by
  cases o with
  | none => cases h
  | some q => exact hi _ _ _ h
theorem xp_st_ok {df : xr_D} {fx : xr_F} {scr : Option (List Value)} {mt : List xr_M} {d : Nat} {callf : Nat → List Value → List xr_C → Bool → Option xr_Out} {M : xr_M} {ih : xp_Ih} {ih' : xr_Ih} {rem : List xr_En} {l : xr_L} {st : List Value} {w : List xr_C} {b : Bool} {ce sl : Nat} {rv : Option Value} (hi : ∀ r l st, ih r l st = some rv → ih' r l st w b ce sl = some (.inl rv, w, b, ce, sl)) (h : xp_st df fx M ih rem l st = some rv) : xr_st df fx scr mt d callf M ih' rem l st w b ce sl = some (.inl rv, w, b, ce, sl) := by
  cases rem with
  | nil => cases h
  | cons e r =>
    unfold xp_st at h
    unfold xr_st
    simp only at h ⊢
    split at h
    · rename_i hk; simp only [hk]; exact xp_g_ok hi h
    · rename_i hk; simp only [hk]; exact xp_g_ok hi h
    · rename_i hk; simp only [hk]; exact xp_g_ok hi h
    · rename_i hk; simp only [hk]; exact xp_g_ok hi h
    · rename_i hk; simp only [hk]; exact xp_g_ok hi h
    · rename_i hk
      simp only [hk]
      unfold xp_e at h
      unfold xr_ge
      cases hr : xr_rt M.2.2.2.1 e.2.1 st with
      | none => rw [hr] at h; cases h
      | some v =>
        rw [hr] at h
        simp only at h ⊢
        cases hb : Nat.beq e.2.2.1 1 with
        | false => rw [hb] at h; cases h
        | true => rw [hb] at h; cases h; rfl
    · rename_i hk; simp only [hk]; exact xp_g_ok hi h
    · cases h
theorem xp_lp_ok {df : xr_D} {fx : xr_F} {scr : Option (List Value)} {mt : List xr_M} {d : Nat} {callf : Nat → List Value → List xr_C → Bool → Option xr_Out} {M : xr_M} {w : List xr_C} {b : Bool} {ce sl : Nat} {rv : Option Value} {K : xp_Ih} {K' : xr_Ih} (hK : ∀ r l st, K r l st = some rv → K' r l st w b ce sl = some (.inl rv, w, b, ce, sl)) : ∀ (n : Nat) (rem : List xr_En) (l : xr_L) (st : List Value), xp_lp K df fx M n rem l st = some rv → xr_lp K' df fx scr mt d callf M n rem l st w b ce sl = some (.inl rv, w, b, ce, sl)
  | 0, rem, l, st, h => hK rem l st h
  | n + 1, rem, l, st, h => xp_st_ok (ih := xp_lp K df fx M n) (ih' := xr_lp K' df fx scr mt d callf M n) (fun r l st h => xp_lp_ok hK n r l st h) h
theorem xp_add {K : xp_Ih} {df : xr_D} {fx : xr_F} {M : xr_M} (m : Nat) : ∀ n : Nat, xp_lp K df fx M (m + n) = xp_lp (xp_lp K df fx M m) df fx M n
  | 0 => rfl
  | n + 1 => by
    show xp_st df fx M (xp_lp K df fx M (m + n)) = xp_st df fx M (xp_lp (xp_lp K df fx M m) df fx M n)
    rw [xp_add m n]
abbrev xp_K0 : xp_Ih := fun _ _ _ => none
/-- a place where the run is cut -/
def xp_Kc (pc0 : Nat) (l0 : xr_L) : xp_Ih := fun rem l st => bif Nat.beq (xr_pc rem) pc0 && (xr_ql l l0 && xr_qs st []) then some none else none
def xp_isN (o : Option (Option Value)) : Bool := match o with
  | some none => true
  | _ => false
def xp_isL (o : Option (Option Value)) : Bool := match o with
  | some (some v) => xr_qv v (.long 0)
  | _ => false
end
section
/-! calls, printed by wip/p1/gcalls.py -/
def xg_5_df : xr_D := []
def xg_5_ps : List (xr_F × xr_F) := [([], [])]
set_option maxRecDepth 100000 in
theorem xg_5_all : xg_5_ps.all (fun q => xt_clo q.1 q.2 && xt_go ((5, .retAddr 0, .int 63, .int (Int32.ofNat 5)) :: xg_5_df) q.2 xr_no xt_v7) = true := by decide +kernel
theorem xg_5 {p : Program} {l : Launch} {e : Env} {s : State} {m : MethodId} {below : List Frame} {meth : Method} {c : Code} {b : Nat} {xs : Nat → Int32} {D : va_G} {cy : Nat → ClassId} {sg : Nat → Nat} (h : xt_Ctx p l s m meth c b 7 xs D cy sg) (hk : xs 0 &&& 63 = Int32.ofNat 5) : xt_Goal p l e s m below meth c b :=
  xt_call h 5 hk rfl xt_sc7 xg_5_df (by decide +kernel) xg_5_ps [] 60 (by decide +kernel) xg_5_all (fun q hq => by cases hq)
def xg_6_df : xr_D := []
def xg_6_ps : List (xr_F × xr_F) := [([], [])]
set_option maxRecDepth 100000 in
theorem xg_6_all : xg_6_ps.all (fun q => xt_clo q.1 q.2 && xt_go ((5, .retAddr 0, .int 63, .int (Int32.ofNat 6)) :: xg_6_df) q.2 xr_no xt_v7) = true := by decide +kernel
theorem xg_6 {p : Program} {l : Launch} {e : Env} {s : State} {m : MethodId} {below : List Frame} {meth : Method} {c : Code} {b : Nat} {xs : Nat → Int32} {D : va_G} {cy : Nat → ClassId} {sg : Nat → Nat} (h : xt_Ctx p l s m meth c b 7 xs D cy sg) (hk : xs 0 &&& 63 = Int32.ofNat 6) : xt_Goal p l e s m below meth c b :=
  xt_call h 6 hk rfl xt_sc7 xg_6_df (by decide +kernel) xg_6_ps [] 60 (by decide +kernel) xg_6_all (fun q hq => by cases hq)
def xg_8_df : xr_D := []
def xg_8_ps : List (xr_F × xr_F) := [([(1, .retAddr 1, .int (Int32.ofNat 0), true)], [(1, .retAddr 1, .int (Int32.ofNat 0), true)]),
  ([(1, .retAddr 1, .int (Int32.ofNat 0), false)], [(1, .retAddr 1, .int (Int32.ofNat 0), false), (1, .int (Int32.ofNat 4294967295), .retAddr 1, true)])]
set_option maxRecDepth 100000 in
theorem xg_8_all : xg_8_ps.all (fun q => xt_clo q.1 q.2 && xt_go ((5, .retAddr 0, .int 63, .int (Int32.ofNat 8)) :: xg_8_df) q.2 xr_no xt_v7) = true := by decide +kernel
theorem xg_8 {p : Program} {l : Launch} {e : Env} {s : State} {m : MethodId} {below : List Frame} {meth : Method} {c : Code} {b : Nat} {xs : Nat → Int32} {D : va_G} {cy : Nat → ClassId} {sg : Nat → Nat} (h : xt_Ctx p l s m meth c b 7 xs D cy sg) (hk : xs 0 &&& 63 = Int32.ofNat 8) : xt_Goal p l e s m below meth c b :=
  xt_call h 8 hk rfl xt_sc7 xg_8_df (by decide +kernel) xg_8_ps [] 60 (by decide +kernel) xg_8_all (fun q hq => by cases hq)
def xg_9_df : xr_D := []
def xg_9_ps : List (xr_F × xr_F) := [([(1, .retAddr 1, .int (Int32.ofNat 0), true)], [(1, .retAddr 1, .int (Int32.ofNat 0), true)]),
  ([(1, .retAddr 1, .int (Int32.ofNat 0), false)], [(1, .retAddr 1, .int (Int32.ofNat 0), false), (1, .int (Int32.ofNat 4294967295), .retAddr 1, true)])]
set_option maxRecDepth 100000 in
theorem xg_9_all : xg_9_ps.all (fun q => xt_clo q.1 q.2 && xt_go ((5, .retAddr 0, .int 63, .int (Int32.ofNat 9)) :: xg_9_df) q.2 xr_no xt_v7) = true := by decide +kernel
theorem xg_9 {p : Program} {l : Launch} {e : Env} {s : State} {m : MethodId} {below : List Frame} {meth : Method} {c : Code} {b : Nat} {xs : Nat → Int32} {D : va_G} {cy : Nat → ClassId} {sg : Nat → Nat} (h : xt_Ctx p l s m meth c b 7 xs D cy sg) (hk : xs 0 &&& 63 = Int32.ofNat 9) : xt_Goal p l e s m below meth c b :=
  xt_call h 9 hk rfl xt_sc7 xg_9_df (by decide +kernel) xg_9_ps [] 60 (by decide +kernel) xg_9_all (fun q hq => by cases hq)
def xg_10_df : xr_D := []
def xg_10_ps : List (xr_F × xr_F) := [([(1, .retAddr 1, .int (Int32.ofNat 0), true)], [(1, .retAddr 1, .int (Int32.ofNat 0), true)]),
  ([(1, .retAddr 1, .int (Int32.ofNat 0), false)], [(1, .retAddr 1, .int (Int32.ofNat 0), false), (1, .int (Int32.ofNat 4294967295), .retAddr 1, true)])]
set_option maxRecDepth 100000 in
theorem xg_10_all : xg_10_ps.all (fun q => xt_clo q.1 q.2 && xt_go ((5, .retAddr 0, .int 63, .int (Int32.ofNat 10)) :: xg_10_df) q.2 xr_no xt_v7) = true := by decide +kernel
theorem xg_10 {p : Program} {l : Launch} {e : Env} {s : State} {m : MethodId} {below : List Frame} {meth : Method} {c : Code} {b : Nat} {xs : Nat → Int32} {D : va_G} {cy : Nat → ClassId} {sg : Nat → Nat} (h : xt_Ctx p l s m meth c b 7 xs D cy sg) (hk : xs 0 &&& 63 = Int32.ofNat 10) : xt_Goal p l e s m below meth c b :=
  xt_call h 10 hk rfl xt_sc7 xg_10_df (by decide +kernel) xg_10_ps [] 60 (by decide +kernel) xg_10_all (fun q hq => by cases hq)
def xg_11_df : xr_D := []
def xg_11_ps : List (xr_F × xr_F) := [([(1, .retAddr 1, .int (Int32.ofNat 0), true)], [(1, .retAddr 1, .int (Int32.ofNat 0), true)]),
  ([(1, .retAddr 1, .int (Int32.ofNat 0), false)], [(1, .retAddr 1, .int (Int32.ofNat 0), false), (1, .int (Int32.ofNat 4294967295), .retAddr 1, true)])]
set_option maxRecDepth 100000 in
theorem xg_11_all : xg_11_ps.all (fun q => xt_clo q.1 q.2 && xt_go ((5, .retAddr 0, .int 63, .int (Int32.ofNat 11)) :: xg_11_df) q.2 xr_no xt_v7) = true := by decide +kernel
theorem xg_11 {p : Program} {l : Launch} {e : Env} {s : State} {m : MethodId} {below : List Frame} {meth : Method} {c : Code} {b : Nat} {xs : Nat → Int32} {D : va_G} {cy : Nat → ClassId} {sg : Nat → Nat} (h : xt_Ctx p l s m meth c b 7 xs D cy sg) (hk : xs 0 &&& 63 = Int32.ofNat 11) : xt_Goal p l e s m below meth c b :=
  xt_call h 11 hk rfl xt_sc7 xg_11_df (by decide +kernel) xg_11_ps [] 60 (by decide +kernel) xg_11_all (fun q hq => by cases hq)
def xg_13_df : xr_D := []
def xg_13_ps : List (xr_F × xr_F) := [([(1, .retAddr 1, .int (Int32.ofNat 0), true)], [(1, .retAddr 1, .int (Int32.ofNat 0), true)]),
  ([(1, .retAddr 1, .int (Int32.ofNat 0), false)], [(1, .retAddr 1, .int (Int32.ofNat 0), false), (1, .int (Int32.ofNat 4294967295), .retAddr 1, true)])]
set_option maxRecDepth 100000 in
theorem xg_13_all : xg_13_ps.all (fun q => xt_clo q.1 q.2 && xt_go ((5, .retAddr 0, .int 63, .int (Int32.ofNat 13)) :: xg_13_df) q.2 xr_no xt_v7) = true := by decide +kernel
theorem xg_13 {p : Program} {l : Launch} {e : Env} {s : State} {m : MethodId} {below : List Frame} {meth : Method} {c : Code} {b : Nat} {xs : Nat → Int32} {D : va_G} {cy : Nat → ClassId} {sg : Nat → Nat} (h : xt_Ctx p l s m meth c b 7 xs D cy sg) (hk : xs 0 &&& 63 = Int32.ofNat 13) : xt_Goal p l e s m below meth c b :=
  xt_call h 13 hk rfl xt_sc7 xg_13_df (by decide +kernel) xg_13_ps [] 60 (by decide +kernel) xg_13_all (fun q hq => by cases hq)
def xg_14_df : xr_D := []
def xg_14_ps : List (xr_F × xr_F) := [([], [])]
set_option maxRecDepth 100000 in
theorem xg_14_all : xg_14_ps.all (fun q => xt_clo q.1 q.2 && xt_go ((5, .retAddr 0, .int 63, .int (Int32.ofNat 14)) :: xg_14_df) q.2 xr_no xt_v7) = true := by decide +kernel
theorem xg_14 {p : Program} {l : Launch} {e : Env} {s : State} {m : MethodId} {below : List Frame} {meth : Method} {c : Code} {b : Nat} {xs : Nat → Int32} {D : va_G} {cy : Nat → ClassId} {sg : Nat → Nat} (h : xt_Ctx p l s m meth c b 7 xs D cy sg) (hk : xs 0 &&& 63 = Int32.ofNat 14) : xt_Goal p l e s m below meth c b :=
  xt_call h 14 hk rfl xt_sc7 xg_14_df (by decide +kernel) xg_14_ps [] 60 (by decide +kernel) xg_14_all (fun q hq => by cases hq)
def xg_17_df : xr_D := []
def xg_17_ps : List (xr_F × xr_F) := [([(1, .retAddr 1, .int (Int32.ofNat 0), true)], [(1, .retAddr 1, .int (Int32.ofNat 0), true)]),
  ([(1, .retAddr 1, .int (Int32.ofNat 0), false)], [(1, .retAddr 1, .int (Int32.ofNat 0), false), (1, .int (Int32.ofNat 4294967295), .retAddr 1, true)])]
set_option maxRecDepth 100000 in
theorem xg_17_all : xg_17_ps.all (fun q => xt_clo q.1 q.2 && xt_go ((5, .retAddr 0, .int 63, .int (Int32.ofNat 17)) :: xg_17_df) q.2 xr_no xt_v7) = true := by decide +kernel
theorem xg_17 {p : Program} {l : Launch} {e : Env} {s : State} {m : MethodId} {below : List Frame} {meth : Method} {c : Code} {b : Nat} {xs : Nat → Int32} {D : va_G} {cy : Nat → ClassId} {sg : Nat → Nat} (h : xt_Ctx p l s m meth c b 7 xs D cy sg) (hk : xs 0 &&& 63 = Int32.ofNat 17) : xt_Goal p l e s m below meth c b :=
  xt_call h 17 hk rfl xt_sc7 xg_17_df (by decide +kernel) xg_17_ps [] 60 (by decide +kernel) xg_17_all (fun q hq => by cases hq)
def xg_24_df : xr_D := []
def xg_24_ps : List (xr_F × xr_F) := [([(1, .retAddr 1, .int (Int32.ofNat 0), true)], [(1, .retAddr 1, .int (Int32.ofNat 0), true)]),
  ([(1, .retAddr 1, .int (Int32.ofNat 0), false)], [(1, .retAddr 1, .int (Int32.ofNat 0), false), (1, .int (Int32.ofNat 4294967295), .retAddr 1, true)])]
set_option maxRecDepth 100000 in
theorem xg_24_all : xg_24_ps.all (fun q => xt_clo q.1 q.2 && xt_go ((5, .retAddr 0, .int 63, .int (Int32.ofNat 24)) :: xg_24_df) q.2 xr_no xt_v7) = true := by decide +kernel
theorem xg_24 {p : Program} {l : Launch} {e : Env} {s : State} {m : MethodId} {below : List Frame} {meth : Method} {c : Code} {b : Nat} {xs : Nat → Int32} {D : va_G} {cy : Nat → ClassId} {sg : Nat → Nat} (h : xt_Ctx p l s m meth c b 7 xs D cy sg) (hk : xs 0 &&& 63 = Int32.ofNat 24) : xt_Goal p l e s m below meth c b :=
  xt_call h 24 hk rfl xt_sc7 xg_24_df (by decide +kernel) xg_24_ps [] 60 (by decide +kernel) xg_24_all (fun q hq => by cases hq)
def xg_26_df : xr_D := []
def xg_26_ps : List (xr_F × xr_F) := [([(1, .retAddr 1, .int (Int32.ofNat 0), true)], [(1, .retAddr 1, .int (Int32.ofNat 0), true)]),
  ([(1, .retAddr 1, .int (Int32.ofNat 0), false)], [(1, .retAddr 1, .int (Int32.ofNat 0), false), (1, .int (Int32.ofNat 4294967295), .retAddr 1, true)])]
set_option maxRecDepth 100000 in
theorem xg_26_all : xg_26_ps.all (fun q => xt_clo q.1 q.2 && xt_go ((5, .retAddr 0, .int 63, .int (Int32.ofNat 26)) :: xg_26_df) q.2 xr_no xt_v7) = true := by decide +kernel
theorem xg_26 {p : Program} {l : Launch} {e : Env} {s : State} {m : MethodId} {below : List Frame} {meth : Method} {c : Code} {b : Nat} {xs : Nat → Int32} {D : va_G} {cy : Nat → ClassId} {sg : Nat → Nat} (h : xt_Ctx p l s m meth c b 7 xs D cy sg) (hk : xs 0 &&& 63 = Int32.ofNat 26) : xt_Goal p l e s m below meth c b :=
  xt_call h 26 hk rfl xt_sc7 xg_26_df (by decide +kernel) xg_26_ps [] 60 (by decide +kernel) xg_26_all (fun q hq => by cases hq)
def xg_27_df : xr_D := []
def xg_27_ps : List (xr_F × xr_F) := [([(1, .retAddr 1, .int (Int32.ofNat 0), true)], [(1, .retAddr 1, .int (Int32.ofNat 0), true)]),
  ([(1, .retAddr 1, .int (Int32.ofNat 0), false)], [(1, .retAddr 1, .int (Int32.ofNat 0), false), (1, .int (Int32.ofNat 4294967295), .retAddr 1, true)])]
set_option maxRecDepth 100000 in
theorem xg_27_all : xg_27_ps.all (fun q => xt_clo q.1 q.2 && xt_go ((5, .retAddr 0, .int 63, .int (Int32.ofNat 27)) :: xg_27_df) q.2 xr_no xt_v7) = true := by decide +kernel
theorem xg_27 {p : Program} {l : Launch} {e : Env} {s : State} {m : MethodId} {below : List Frame} {meth : Method} {c : Code} {b : Nat} {xs : Nat → Int32} {D : va_G} {cy : Nat → ClassId} {sg : Nat → Nat} (h : xt_Ctx p l s m meth c b 7 xs D cy sg) (hk : xs 0 &&& 63 = Int32.ofNat 27) : xt_Goal p l e s m below meth c b :=
  xt_call h 27 hk rfl xt_sc7 xg_27_df (by decide +kernel) xg_27_ps [] 60 (by decide +kernel) xg_27_all (fun q hq => by cases hq)
def xg_32_df : xr_D := []
def xg_32_ps : List (xr_F × xr_F) := [([], [])]
set_option maxRecDepth 100000 in
theorem xg_32_all : xg_32_ps.all (fun q => xt_clo q.1 q.2 && xt_go ((5, .retAddr 0, .int 63, .int (Int32.ofNat 32)) :: xg_32_df) q.2 xr_no xt_v7) = true := by decide +kernel
theorem xg_32 {p : Program} {l : Launch} {e : Env} {s : State} {m : MethodId} {below : List Frame} {meth : Method} {c : Code} {b : Nat} {xs : Nat → Int32} {D : va_G} {cy : Nat → ClassId} {sg : Nat → Nat} (h : xt_Ctx p l s m meth c b 7 xs D cy sg) (hk : xs 0 &&& 63 = Int32.ofNat 32) : xt_Goal p l e s m below meth c b :=
  xt_call h 32 hk rfl xt_sc7 xg_32_df (by decide +kernel) xg_32_ps [] 60 (by decide +kernel) xg_32_all (fun q hq => by cases hq)
end
section
/-! calls, printed by wip/p1/gcalls.py -/
def xg_0_df : xr_D := [(10, .retAddr 1, .int (Int32.ofNat 24), .retAddr 7), (11, .retAddr 7, .int (Int32.ofNat 0), .retAddr 8), (11, .retAddr 8, .int (Int32.ofNat 0), .retAddr 9), (10, .retAddr 1, .int (Int32.ofNat 16), .retAddr 10), (11, .retAddr 10, .int (Int32.ofNat 0), .retAddr 11), (11, .retAddr 11, .int (Int32.ofNat 0), .retAddr 12), (10, .retAddr 1, .int (Int32.ofNat 8), .retAddr 13), (11, .retAddr 13, .int (Int32.ofNat 0), .retAddr 14), (11, .retAddr 14, .int (Int32.ofNat 0), .retAddr 15), (10, .retAddr 1, .int (Int32.ofNat 0), .retAddr 16), (11, .retAddr 16, .int (Int32.ofNat 0), .retAddr 17), (11, .retAddr 17, .int (Int32.ofNat 0), .retAddr 18), (10, .retAddr 2, .int (Int32.ofNat 24), .retAddr 19), (11, .retAddr 19, .int (Int32.ofNat 0), .retAddr 20), (11, .retAddr 20, .int (Int32.ofNat 0), .retAddr 21), (10, .retAddr 2, .int (Int32.ofNat 16), .retAddr 22), (11, .retAddr 22, .int (Int32.ofNat 0), .retAddr 23), (11, .retAddr 23, .int (Int32.ofNat 0), .retAddr 24), (10, .retAddr 2, .int (Int32.ofNat 8), .retAddr 25), (11, .retAddr 25, .int (Int32.ofNat 0), .retAddr 26), (11, .retAddr 26, .int (Int32.ofNat 0), .retAddr 27), (10, .retAddr 2, .int (Int32.ofNat 0), .retAddr 28), (11, .retAddr 28, .int (Int32.ofNat 0), .retAddr 29), (11, .retAddr 29, .int (Int32.ofNat 0), .retAddr 30), (10, .retAddr 3, .int (Int32.ofNat 24), .retAddr 31), (11, .retAddr 31, .int (Int32.ofNat 0), .retAddr 32), (11, .retAddr 32, .int (Int32.ofNat 0), .retAddr 33), (10, .retAddr 3, .int (Int32.ofNat 16), .retAddr 34), (11, .retAddr 34, .int (Int32.ofNat 0), .retAddr 35), (11, .retAddr 35, .int (Int32.ofNat 0), .retAddr 36), (10, .retAddr 3, .int (Int32.ofNat 8), .retAddr 37), (11, .retAddr 37, .int (Int32.ofNat 0), .retAddr 38), (11, .retAddr 38, .int (Int32.ofNat 0), .retAddr 39), (10, .retAddr 3, .int (Int32.ofNat 0), .retAddr 40), (11, .retAddr 40, .int (Int32.ofNat 0), .retAddr 41), (11, .retAddr 41, .int (Int32.ofNat 0), .retAddr 42), (10, .retAddr 4, .int (Int32.ofNat 24), .retAddr 43), (11, .retAddr 43, .int (Int32.ofNat 0), .retAddr 44), (11, .retAddr 44, .int (Int32.ofNat 0), .retAddr 45), (10, .retAddr 4, .int (Int32.ofNat 16), .retAddr 46), (11, .retAddr 46, .int (Int32.ofNat 0), .retAddr 47), (11, .retAddr 47, .int (Int32.ofNat 0), .retAddr 48), (10, .retAddr 4, .int (Int32.ofNat 8), .retAddr 49), (11, .retAddr 49, .int (Int32.ofNat 0), .retAddr 50), (11, .retAddr 50, .int (Int32.ofNat 0), .retAddr 51), (10, .retAddr 4, .int (Int32.ofNat 0), .retAddr 52), (11, .retAddr 52, .int (Int32.ofNat 0), .retAddr 53), (11, .retAddr 53, .int (Int32.ofNat 0), .retAddr 54), (10, .retAddr 5, .int (Int32.ofNat 24), .retAddr 55), (11, .retAddr 55, .int (Int32.ofNat 0), .retAddr 56), (11, .retAddr 56, .int (Int32.ofNat 0), .retAddr 57), (10, .retAddr 5, .int (Int32.ofNat 16), .retAddr 58), (11, .retAddr 58, .int (Int32.ofNat 0), .retAddr 59), (11, .retAddr 59, .int (Int32.ofNat 0), .retAddr 60), (10, .retAddr 5, .int (Int32.ofNat 8), .retAddr 61), (11, .retAddr 61, .int (Int32.ofNat 0), .retAddr 62), (11, .retAddr 62, .int (Int32.ofNat 0), .retAddr 63), (10, .retAddr 5, .int (Int32.ofNat 0), .retAddr 64), (11, .retAddr 64, .int (Int32.ofNat 0), .retAddr 65), (11, .retAddr 65, .int (Int32.ofNat 0), .retAddr 66), (9, .retAddr 1, .int (Int32.ofNat 24), .retAddr 67), (5, .retAddr 67, .int (Int32.ofNat 255), .retAddr 68), (9, .retAddr 1, .int (Int32.ofNat 16), .retAddr 69), (5, .retAddr 69, .int (Int32.ofNat 255), .retAddr 70), (9, .retAddr 1, .int (Int32.ofNat 8), .retAddr 71), (5, .retAddr 71, .int (Int32.ofNat 255), .retAddr 72), (9, .retAddr 1, .int (Int32.ofNat 0), .retAddr 73), (5, .retAddr 73, .int (Int32.ofNat 255), .retAddr 74), (9, .retAddr 2, .int (Int32.ofNat 24), .retAddr 75), (5, .retAddr 75, .int (Int32.ofNat 255), .retAddr 76), (9, .retAddr 2, .int (Int32.ofNat 16), .retAddr 77), (5, .retAddr 77, .int (Int32.ofNat 255), .retAddr 78), (9, .retAddr 2, .int (Int32.ofNat 8), .retAddr 79), (5, .retAddr 79, .int (Int32.ofNat 255), .retAddr 80), (9, .retAddr 2, .int (Int32.ofNat 0), .retAddr 81), (5, .retAddr 81, .int (Int32.ofNat 255), .retAddr 82), (9, .retAddr 3, .int (Int32.ofNat 24), .retAddr 83), (5, .retAddr 83, .int (Int32.ofNat 255), .retAddr 84), (9, .retAddr 3, .int (Int32.ofNat 16), .retAddr 85), (5, .retAddr 85, .int (Int32.ofNat 255), .retAddr 86), (9, .retAddr 3, .int (Int32.ofNat 8), .retAddr 87), (5, .retAddr 87, .int (Int32.ofNat 255), .retAddr 88), (9, .retAddr 3, .int (Int32.ofNat 0), .retAddr 89), (5, .retAddr 89, .int (Int32.ofNat 255), .retAddr 90), (9, .retAddr 4, .int (Int32.ofNat 24), .retAddr 91), (5, .retAddr 91, .int (Int32.ofNat 255), .retAddr 92), (9, .retAddr 4, .int (Int32.ofNat 16), .retAddr 93), (5, .retAddr 93, .int (Int32.ofNat 255), .retAddr 94), (9, .retAddr 4, .int (Int32.ofNat 8), .retAddr 95), (5, .retAddr 95, .int (Int32.ofNat 255), .retAddr 96), (9, .retAddr 4, .int (Int32.ofNat 0), .retAddr 97), (5, .retAddr 97, .int (Int32.ofNat 255), .retAddr 98), (9, .retAddr 5, .int (Int32.ofNat 24), .retAddr 99), (5, .retAddr 99, .int (Int32.ofNat 255), .retAddr 100), (9, .retAddr 5, .int (Int32.ofNat 16), .retAddr 101), (5, .retAddr 101, .int (Int32.ofNat 255), .retAddr 102), (9, .retAddr 5, .int (Int32.ofNat 8), .retAddr 103), (5, .retAddr 103, .int (Int32.ofNat 255), .retAddr 104), (9, .retAddr 5, .int (Int32.ofNat 0), .retAddr 105), (5, .retAddr 105, .int (Int32.ofNat 255), .retAddr 106)]
def xg_0_ps : List (xr_F × xr_F) := [([], [])]
set_option maxRecDepth 100000 in
theorem xg_0_all : xg_0_ps.all (fun q => xt_clo q.1 q.2 && xt_go ((5, .retAddr 0, .int 63, .int (Int32.ofNat 0)) :: xg_0_df) q.2 xr_no xt_v7) = true := by decide +kernel
theorem xg_0 {p : Program} {l : Launch} {e : Env} {s : State} {m : MethodId} {below : List Frame} {meth : Method} {c : Code} {b : Nat} {xs : Nat → Int32} {D : va_G} {cy : Nat → ClassId} {sg : Nat → Nat} (h : xt_Ctx p l s m meth c b 7 xs D cy sg) (hk : xs 0 &&& 63 = Int32.ofNat 0) : xt_Goal p l e s m below meth c b :=
  xt_call h 0 hk rfl xt_sc7 xg_0_df (by decide +kernel) xg_0_ps [] 60 (by decide +kernel) xg_0_all (fun q hq => by cases hq)
def xg_1_df : xr_D := []
def xg_1_ps : List (xr_F × xr_F) := [([(1, .retAddr 1, .int (Int32.ofNat 0), true)], [(1, .retAddr 1, .int (Int32.ofNat 0), true)]),
  ([(1, .retAddr 1, .int (Int32.ofNat 0), false), (1, .int (Int32.ofNat 0), .retAddr 1, true)], [(1, .retAddr 1, .int (Int32.ofNat 0), false), (1, .int (Int32.ofNat 0), .retAddr 1, true)]),
  ([(1, .retAddr 1, .int (Int32.ofNat 0), false), (1, .int (Int32.ofNat 0), .retAddr 1, false)], [(1, .retAddr 1, .int (Int32.ofNat 0), false), (1, .int (Int32.ofNat 0), .retAddr 1, false)])]
set_option maxRecDepth 100000 in
theorem xg_1_all : xg_1_ps.all (fun q => xt_clo q.1 q.2 && xt_go ((5, .retAddr 0, .int 63, .int (Int32.ofNat 1)) :: xg_1_df) q.2 xr_no xt_v7) = true := by decide +kernel
theorem xg_1 {p : Program} {l : Launch} {e : Env} {s : State} {m : MethodId} {below : List Frame} {meth : Method} {c : Code} {b : Nat} {xs : Nat → Int32} {D : va_G} {cy : Nat → ClassId} {sg : Nat → Nat} (h : xt_Ctx p l s m meth c b 7 xs D cy sg) (hk : xs 0 &&& 63 = Int32.ofNat 1) : xt_Goal p l e s m below meth c b :=
  xt_call h 1 hk rfl xt_sc7 xg_1_df (by decide +kernel) xg_1_ps [] 60 (by decide +kernel) xg_1_all (fun q hq => by cases hq)
def xg_4_df : xr_D := []
def xg_4_ps : List (xr_F × xr_F) := [([(1, .retAddr 1, .int (Int32.ofNat 0), true)], [(1, .retAddr 1, .int (Int32.ofNat 0), true)]),
  ([(1, .retAddr 1, .int (Int32.ofNat 0), false), (1, .int (Int32.ofNat 0), .retAddr 1, true)], [(1, .retAddr 1, .int (Int32.ofNat 0), false), (1, .int (Int32.ofNat 0), .retAddr 1, true)]),
  ([(1, .retAddr 1, .int (Int32.ofNat 0), false), (1, .int (Int32.ofNat 0), .retAddr 1, false)], [(1, .retAddr 1, .int (Int32.ofNat 0), false), (1, .int (Int32.ofNat 0), .retAddr 1, false), (1, .int (Int32.ofNat 100), .retAddr 1, false)])]
set_option maxRecDepth 100000 in
theorem xg_4_all : xg_4_ps.all (fun q => xt_clo q.1 q.2 && xt_go ((5, .retAddr 0, .int 63, .int (Int32.ofNat 4)) :: xg_4_df) q.2 xr_no xt_v7) = true := by decide +kernel
theorem xg_4 {p : Program} {l : Launch} {e : Env} {s : State} {m : MethodId} {below : List Frame} {meth : Method} {c : Code} {b : Nat} {xs : Nat → Int32} {D : va_G} {cy : Nat → ClassId} {sg : Nat → Nat} (h : xt_Ctx p l s m meth c b 7 xs D cy sg) (hk : xs 0 &&& 63 = Int32.ofNat 4) : xt_Goal p l e s m below meth c b :=
  xt_call h 4 hk rfl xt_sc7 xg_4_df (by decide +kernel) xg_4_ps [] 60 (by decide +kernel) xg_4_all (fun q hq => by cases hq)
def xg_12_df : xr_D := [(0, .retAddr 1, .retAddr 2, .retAddr 7), (3, .retAddr 5, .int (Int32.ofNat 4), .retAddr 8), (1, .retAddr 7, .retAddr 8, .retAddr 9)]
def xg_12_ps : List (xr_F × xr_F) := [([(1, .retAddr 1, .int (Int32.ofNat 0), true)], [(1, .retAddr 1, .int (Int32.ofNat 0), true)]),
  ([(1, .retAddr 1, .int (Int32.ofNat 0), false), (1, .int (Int32.ofNat 9), .retAddr 1, true)], [(1, .retAddr 1, .int (Int32.ofNat 0), false), (1, .int (Int32.ofNat 9), .retAddr 1, true)]),
  ([(1, .retAddr 1, .int (Int32.ofNat 0), false), (1, .int (Int32.ofNat 9), .retAddr 1, false), (1, .retAddr 2, .int (Int32.ofNat 0), true)], [(1, .retAddr 1, .int (Int32.ofNat 0), false), (1, .int (Int32.ofNat 9), .retAddr 1, false), (1, .retAddr 2, .int (Int32.ofNat 0), true)]),
  ([(1, .retAddr 1, .int (Int32.ofNat 0), false), (1, .int (Int32.ofNat 9), .retAddr 1, false), (1, .retAddr 2, .int (Int32.ofNat 0), false), (1, .int (Int32.ofNat 9), .retAddr 2, true)], [(1, .retAddr 1, .int (Int32.ofNat 0), false), (1, .int (Int32.ofNat 9), .retAddr 1, false), (1, .retAddr 2, .int (Int32.ofNat 0), false), (1, .int (Int32.ofNat 9), .retAddr 2, true)]),
  ([(1, .retAddr 1, .int (Int32.ofNat 0), false), (1, .int (Int32.ofNat 9), .retAddr 1, false), (1, .retAddr 2, .int (Int32.ofNat 0), false), (1, .int (Int32.ofNat 9), .retAddr 2, false), (1, .retAddr 3, .int (Int32.ofNat 0), true)], [(1, .retAddr 1, .int (Int32.ofNat 0), false), (1, .int (Int32.ofNat 9), .retAddr 1, false), (1, .retAddr 2, .int (Int32.ofNat 0), false), (1, .int (Int32.ofNat 9), .retAddr 2, false), (1, .retAddr 3, .int (Int32.ofNat 0), true)]),
  ([(1, .retAddr 1, .int (Int32.ofNat 0), false), (1, .int (Int32.ofNat 9), .retAddr 1, false), (1, .retAddr 2, .int (Int32.ofNat 0), false), (1, .int (Int32.ofNat 9), .retAddr 2, false), (1, .retAddr 3, .int (Int32.ofNat 0), false), (1, .int (Int32.ofNat 1), .retAddr 3, true)], [(1, .retAddr 1, .int (Int32.ofNat 0), false), (1, .int (Int32.ofNat 9), .retAddr 1, false), (1, .retAddr 2, .int (Int32.ofNat 0), false), (1, .int (Int32.ofNat 9), .retAddr 2, false), (1, .retAddr 3, .int (Int32.ofNat 0), false), (1, .int (Int32.ofNat 1), .retAddr 3, true)]),
  ([(1, .retAddr 1, .int (Int32.ofNat 0), false), (1, .int (Int32.ofNat 9), .retAddr 1, false), (1, .retAddr 2, .int (Int32.ofNat 0), false), (1, .int (Int32.ofNat 9), .retAddr 2, false), (1, .retAddr 3, .int (Int32.ofNat 0), false), (1, .int (Int32.ofNat 1), .retAddr 3, false), (1, .retAddr 4, .int (Int32.ofNat 1), true)], [(1, .retAddr 1, .int (Int32.ofNat 0), false), (1, .int (Int32.ofNat 9), .retAddr 1, false), (1, .retAddr 2, .int (Int32.ofNat 0), false), (1, .int (Int32.ofNat 9), .retAddr 2, false), (1, .retAddr 3, .int (Int32.ofNat 0), false), (1, .int (Int32.ofNat 1), .retAddr 3, false), (1, .retAddr 4, .int (Int32.ofNat 1), true)]),
  ([(1, .retAddr 1, .int (Int32.ofNat 0), false), (1, .int (Int32.ofNat 9), .retAddr 1, false), (1, .retAddr 2, .int (Int32.ofNat 0), false), (1, .int (Int32.ofNat 9), .retAddr 2, false), (1, .retAddr 3, .int (Int32.ofNat 0), false), (1, .int (Int32.ofNat 1), .retAddr 3, false), (1, .retAddr 4, .int (Int32.ofNat 1), false), (1, .int (Int32.ofNat 9), .retAddr 4, true)], [(1, .retAddr 1, .int (Int32.ofNat 0), false), (1, .int (Int32.ofNat 9), .retAddr 1, false), (1, .retAddr 2, .int (Int32.ofNat 0), false), (1, .int (Int32.ofNat 9), .retAddr 2, false), (1, .retAddr 3, .int (Int32.ofNat 0), false), (1, .int (Int32.ofNat 1), .retAddr 3, false), (1, .retAddr 4, .int (Int32.ofNat 1), false), (1, .int (Int32.ofNat 9), .retAddr 4, true)]),
  ([(1, .retAddr 1, .int (Int32.ofNat 0), false), (1, .int (Int32.ofNat 9), .retAddr 1, false), (1, .retAddr 2, .int (Int32.ofNat 0), false), (1, .int (Int32.ofNat 9), .retAddr 2, false), (1, .retAddr 3, .int (Int32.ofNat 0), false), (1, .int (Int32.ofNat 1), .retAddr 3, false), (1, .retAddr 4, .int (Int32.ofNat 1), false), (1, .int (Int32.ofNat 9), .retAddr 4, false), (1, .retAddr 5, .int (Int32.ofNat 0), true)], [(1, .retAddr 1, .int (Int32.ofNat 0), false), (1, .int (Int32.ofNat 9), .retAddr 1, false), (1, .retAddr 2, .int (Int32.ofNat 0), false), (1, .int (Int32.ofNat 9), .retAddr 2, false), (1, .retAddr 3, .int (Int32.ofNat 0), false), (1, .int (Int32.ofNat 1), .retAddr 3, false), (1, .retAddr 4, .int (Int32.ofNat 1), false), (1, .int (Int32.ofNat 9), .retAddr 4, false), (1, .retAddr 5, .int (Int32.ofNat 0), true)]),
  ([(1, .retAddr 1, .int (Int32.ofNat 0), false), (1, .int (Int32.ofNat 9), .retAddr 1, false), (1, .retAddr 2, .int (Int32.ofNat 0), false), (1, .int (Int32.ofNat 9), .retAddr 2, false), (1, .retAddr 3, .int (Int32.ofNat 0), false), (1, .int (Int32.ofNat 1), .retAddr 3, false), (1, .retAddr 4, .int (Int32.ofNat 1), false), (1, .int (Int32.ofNat 9), .retAddr 4, false), (1, .retAddr 5, .int (Int32.ofNat 0), false), (1, .int (Int32.ofNat 18), .retAddr 5, true)], [(1, .retAddr 1, .int (Int32.ofNat 0), false), (1, .int (Int32.ofNat 9), .retAddr 1, false), (1, .retAddr 2, .int (Int32.ofNat 0), false), (1, .int (Int32.ofNat 9), .retAddr 2, false), (1, .retAddr 3, .int (Int32.ofNat 0), false), (1, .int (Int32.ofNat 1), .retAddr 3, false), (1, .retAddr 4, .int (Int32.ofNat 1), false), (1, .int (Int32.ofNat 9), .retAddr 4, false), (1, .retAddr 5, .int (Int32.ofNat 0), false), (1, .int (Int32.ofNat 18), .retAddr 5, true)]),
  ([(1, .retAddr 1, .int (Int32.ofNat 0), false), (1, .int (Int32.ofNat 9), .retAddr 1, false), (1, .retAddr 2, .int (Int32.ofNat 0), false), (1, .int (Int32.ofNat 9), .retAddr 2, false), (1, .retAddr 3, .int (Int32.ofNat 0), false), (1, .int (Int32.ofNat 1), .retAddr 3, false), (1, .retAddr 4, .int (Int32.ofNat 1), false), (1, .int (Int32.ofNat 9), .retAddr 4, false), (1, .retAddr 5, .int (Int32.ofNat 0), false), (1, .int (Int32.ofNat 18), .retAddr 5, false), (1, .retAddr 6, .int (Int32.ofNat 0), true)], [(1, .retAddr 1, .int (Int32.ofNat 0), false), (1, .int (Int32.ofNat 9), .retAddr 1, false), (1, .retAddr 2, .int (Int32.ofNat 0), false), (1, .int (Int32.ofNat 9), .retAddr 2, false), (1, .retAddr 3, .int (Int32.ofNat 0), false), (1, .int (Int32.ofNat 1), .retAddr 3, false), (1, .retAddr 4, .int (Int32.ofNat 1), false), (1, .int (Int32.ofNat 9), .retAddr 4, false), (1, .retAddr 5, .int (Int32.ofNat 0), false), (1, .int (Int32.ofNat 18), .retAddr 5, false), (1, .retAddr 6, .int (Int32.ofNat 0), true)]),
  ([(1, .retAddr 1, .int (Int32.ofNat 0), false), (1, .int (Int32.ofNat 9), .retAddr 1, false), (1, .retAddr 2, .int (Int32.ofNat 0), false), (1, .int (Int32.ofNat 9), .retAddr 2, false), (1, .retAddr 3, .int (Int32.ofNat 0), false), (1, .int (Int32.ofNat 1), .retAddr 3, false), (1, .retAddr 4, .int (Int32.ofNat 1), false), (1, .int (Int32.ofNat 9), .retAddr 4, false), (1, .retAddr 5, .int (Int32.ofNat 0), false), (1, .int (Int32.ofNat 18), .retAddr 5, false), (1, .retAddr 6, .int (Int32.ofNat 0), false), (1, .int (Int32.ofNat 1), .retAddr 6, true)], [(1, .retAddr 1, .int (Int32.ofNat 0), false), (1, .int (Int32.ofNat 9), .retAddr 1, false), (1, .retAddr 2, .int (Int32.ofNat 0), false), (1, .int (Int32.ofNat 9), .retAddr 2, false), (1, .retAddr 3, .int (Int32.ofNat 0), false), (1, .int (Int32.ofNat 1), .retAddr 3, false), (1, .retAddr 4, .int (Int32.ofNat 1), false), (1, .int (Int32.ofNat 9), .retAddr 4, false), (1, .retAddr 5, .int (Int32.ofNat 0), false), (1, .int (Int32.ofNat 18), .retAddr 5, false), (1, .retAddr 6, .int (Int32.ofNat 0), false), (1, .int (Int32.ofNat 1), .retAddr 6, true)]),
  ([(1, .retAddr 1, .int (Int32.ofNat 0), false), (1, .int (Int32.ofNat 9), .retAddr 1, false), (1, .retAddr 2, .int (Int32.ofNat 0), false), (1, .int (Int32.ofNat 9), .retAddr 2, false), (1, .retAddr 3, .int (Int32.ofNat 0), false), (1, .int (Int32.ofNat 1), .retAddr 3, false), (1, .retAddr 4, .int (Int32.ofNat 1), false), (1, .int (Int32.ofNat 9), .retAddr 4, false), (1, .retAddr 5, .int (Int32.ofNat 0), false), (1, .int (Int32.ofNat 18), .retAddr 5, false), (1, .retAddr 6, .int (Int32.ofNat 0), false), (1, .int (Int32.ofNat 1), .retAddr 6, false), (1, .retAddr 9, .int (Int32.ofNat 0), true)], [(1, .retAddr 1, .int (Int32.ofNat 0), false), (1, .int (Int32.ofNat 9), .retAddr 1, false), (1, .retAddr 2, .int (Int32.ofNat 0), false), (1, .int (Int32.ofNat 9), .retAddr 2, false), (1, .retAddr 3, .int (Int32.ofNat 0), false), (1, .int (Int32.ofNat 1), .retAddr 3, false), (1, .retAddr 4, .int (Int32.ofNat 1), false), (1, .int (Int32.ofNat 9), .retAddr 4, false), (1, .retAddr 5, .int (Int32.ofNat 0), false), (1, .int (Int32.ofNat 18), .retAddr 5, false), (1, .retAddr 6, .int (Int32.ofNat 0), false), (1, .int (Int32.ofNat 1), .retAddr 6, false), (1, .retAddr 9, .int (Int32.ofNat 0), true), (1, .int (Int32.ofNat 99), .retAddr 9, false)]),
  ([(1, .retAddr 1, .int (Int32.ofNat 0), false), (1, .int (Int32.ofNat 9), .retAddr 1, false), (1, .retAddr 2, .int (Int32.ofNat 0), false), (1, .int (Int32.ofNat 9), .retAddr 2, false), (1, .retAddr 3, .int (Int32.ofNat 0), false), (1, .int (Int32.ofNat 1), .retAddr 3, false), (1, .retAddr 4, .int (Int32.ofNat 1), false), (1, .int (Int32.ofNat 9), .retAddr 4, false), (1, .retAddr 5, .int (Int32.ofNat 0), false), (1, .int (Int32.ofNat 18), .retAddr 5, false), (1, .retAddr 6, .int (Int32.ofNat 0), false), (1, .int (Int32.ofNat 1), .retAddr 6, false), (1, .retAddr 9, .int (Int32.ofNat 0), false), (1, .int (Int32.ofNat 99), .retAddr 9, true)], [(1, .retAddr 1, .int (Int32.ofNat 0), false), (1, .int (Int32.ofNat 9), .retAddr 1, false), (1, .retAddr 2, .int (Int32.ofNat 0), false), (1, .int (Int32.ofNat 9), .retAddr 2, false), (1, .retAddr 3, .int (Int32.ofNat 0), false), (1, .int (Int32.ofNat 1), .retAddr 3, false), (1, .retAddr 4, .int (Int32.ofNat 1), false), (1, .int (Int32.ofNat 9), .retAddr 4, false), (1, .retAddr 5, .int (Int32.ofNat 0), false), (1, .int (Int32.ofNat 18), .retAddr 5, false), (1, .retAddr 6, .int (Int32.ofNat 0), false), (1, .int (Int32.ofNat 1), .retAddr 6, false), (1, .retAddr 9, .int (Int32.ofNat 0), false), (1, .int (Int32.ofNat 99), .retAddr 9, true)]),
  ([(1, .retAddr 1, .int (Int32.ofNat 0), false), (1, .int (Int32.ofNat 9), .retAddr 1, false), (1, .retAddr 2, .int (Int32.ofNat 0), false), (1, .int (Int32.ofNat 9), .retAddr 2, false), (1, .retAddr 3, .int (Int32.ofNat 0), false), (1, .int (Int32.ofNat 1), .retAddr 3, false), (1, .retAddr 4, .int (Int32.ofNat 1), false), (1, .int (Int32.ofNat 9), .retAddr 4, false), (1, .retAddr 5, .int (Int32.ofNat 0), false), (1, .int (Int32.ofNat 18), .retAddr 5, false), (1, .retAddr 6, .int (Int32.ofNat 0), false), (1, .int (Int32.ofNat 1), .retAddr 6, false), (1, .retAddr 9, .int (Int32.ofNat 0), false), (1, .int (Int32.ofNat 99), .retAddr 9, false)], [(1, .retAddr 1, .int (Int32.ofNat 0), false), (1, .int (Int32.ofNat 9), .retAddr 1, false), (1, .retAddr 2, .int (Int32.ofNat 0), false), (1, .int (Int32.ofNat 9), .retAddr 2, false), (1, .retAddr 3, .int (Int32.ofNat 0), false), (1, .int (Int32.ofNat 1), .retAddr 3, false), (1, .retAddr 4, .int (Int32.ofNat 1), false), (1, .int (Int32.ofNat 9), .retAddr 4, false), (1, .retAddr 5, .int (Int32.ofNat 0), false), (1, .int (Int32.ofNat 18), .retAddr 5, false), (1, .retAddr 6, .int (Int32.ofNat 0), false), (1, .int (Int32.ofNat 1), .retAddr 6, false), (1, .retAddr 9, .int (Int32.ofNat 0), false), (1, .int (Int32.ofNat 99), .retAddr 9, false)])]
set_option maxRecDepth 100000 in
theorem xg_12_all : xg_12_ps.all (fun q => xt_clo q.1 q.2 && xt_go ((5, .retAddr 0, .int 63, .int (Int32.ofNat 12)) :: xg_12_df) q.2 xr_no xt_v7) = true := by decide +kernel
theorem xg_12 {p : Program} {l : Launch} {e : Env} {s : State} {m : MethodId} {below : List Frame} {meth : Method} {c : Code} {b : Nat} {xs : Nat → Int32} {D : va_G} {cy : Nat → ClassId} {sg : Nat → Nat} (h : xt_Ctx p l s m meth c b 7 xs D cy sg) (hk : xs 0 &&& 63 = Int32.ofNat 12) : xt_Goal p l e s m below meth c b :=
  xt_call h 12 hk rfl xt_sc7 xg_12_df (by decide +kernel) xg_12_ps [] 60 (by decide +kernel) xg_12_all (fun q hq => by cases hq)
def xg_16_df : xr_D := []
def xg_16_ps : List (xr_F × xr_F) := [([(1, .retAddr 1, .int (Int32.ofNat 0), true)], [(1, .retAddr 1, .int (Int32.ofNat 0), true)]),
  ([(1, .retAddr 1, .int (Int32.ofNat 0), false), (1, .int (Int32.ofNat 1), .retAddr 1, true)], [(1, .retAddr 1, .int (Int32.ofNat 0), false), (1, .int (Int32.ofNat 1), .retAddr 1, true)]),
  ([(1, .retAddr 1, .int (Int32.ofNat 0), false), (1, .int (Int32.ofNat 1), .retAddr 1, false), (0, .retAddr 1, .int (Int32.ofNat 0), true)], [(1, .retAddr 1, .int (Int32.ofNat 0), false), (1, .int (Int32.ofNat 1), .retAddr 1, false), (0, .retAddr 1, .int (Int32.ofNat 0), true)]),
  ([(1, .retAddr 1, .int (Int32.ofNat 0), false), (1, .int (Int32.ofNat 1), .retAddr 1, false), (0, .retAddr 1, .int (Int32.ofNat 0), false)], [(1, .retAddr 1, .int (Int32.ofNat 0), false), (1, .int (Int32.ofNat 1), .retAddr 1, false), (0, .retAddr 1, .int (Int32.ofNat 0), false)])]
set_option maxRecDepth 100000 in
theorem xg_16_all : xg_16_ps.all (fun q => xt_clo q.1 q.2 && xt_go ((5, .retAddr 0, .int 63, .int (Int32.ofNat 16)) :: xg_16_df) q.2 xr_no xt_v7) = true := by decide +kernel
theorem xg_16 {p : Program} {l : Launch} {e : Env} {s : State} {m : MethodId} {below : List Frame} {meth : Method} {c : Code} {b : Nat} {xs : Nat → Int32} {D : va_G} {cy : Nat → ClassId} {sg : Nat → Nat} (h : xt_Ctx p l s m meth c b 7 xs D cy sg) (hk : xs 0 &&& 63 = Int32.ofNat 16) : xt_Goal p l e s m below meth c b :=
  xt_call h 16 hk rfl xt_sc7 xg_16_df (by decide +kernel) xg_16_ps [] 60 (by decide +kernel) xg_16_all (fun q hq => by cases hq)
def xg_19_df : xr_D := [(7, .retAddr 1, .retAddr 2, .retAddr 7)]
def xg_19_ps : List (xr_F × xr_F) := [([(1, .retAddr 1, .int (Int32.ofNat 0), true)], [(1, .retAddr 1, .int (Int32.ofNat 0), true)]),
  ([(1, .retAddr 1, .int (Int32.ofNat 0), false), (1, .int (Int32.ofNat 63), .retAddr 1, true)], [(1, .retAddr 1, .int (Int32.ofNat 0), false), (1, .int (Int32.ofNat 63), .retAddr 1, true)]),
  ([(1, .retAddr 1, .int (Int32.ofNat 0), false), (1, .int (Int32.ofNat 63), .retAddr 1, false), (1, .retAddr 2, .int (Int32.ofNat 0), true)], [(1, .retAddr 1, .int (Int32.ofNat 0), false), (1, .int (Int32.ofNat 63), .retAddr 1, false), (1, .retAddr 2, .int (Int32.ofNat 0), true)]),
  ([(1, .retAddr 1, .int (Int32.ofNat 0), false), (1, .int (Int32.ofNat 63), .retAddr 1, false), (1, .retAddr 2, .int (Int32.ofNat 0), false), (1, .int (Int32.ofNat 63), .retAddr 2, true)], [(1, .retAddr 1, .int (Int32.ofNat 0), false), (1, .int (Int32.ofNat 63), .retAddr 1, false), (1, .retAddr 2, .int (Int32.ofNat 0), false), (1, .int (Int32.ofNat 63), .retAddr 2, true)]),
  ([(1, .retAddr 1, .int (Int32.ofNat 0), false), (1, .int (Int32.ofNat 63), .retAddr 1, false), (1, .retAddr 2, .int (Int32.ofNat 0), false), (1, .int (Int32.ofNat 63), .retAddr 2, false)], [(1, .retAddr 1, .int (Int32.ofNat 0), false), (1, .int (Int32.ofNat 63), .retAddr 1, false), (1, .retAddr 2, .int (Int32.ofNat 0), false), (1, .int (Int32.ofNat 63), .retAddr 2, false)])]
set_option maxRecDepth 100000 in
theorem xg_19_all : xg_19_ps.all (fun q => xt_clo q.1 q.2 && xt_go ((5, .retAddr 0, .int 63, .int (Int32.ofNat 19)) :: xg_19_df) q.2 xr_no xt_v7) = true := by decide +kernel
theorem xg_19 {p : Program} {l : Launch} {e : Env} {s : State} {m : MethodId} {below : List Frame} {meth : Method} {c : Code} {b : Nat} {xs : Nat → Int32} {D : va_G} {cy : Nat → ClassId} {sg : Nat → Nat} (h : xt_Ctx p l s m meth c b 7 xs D cy sg) (hk : xs 0 &&& 63 = Int32.ofNat 19) : xt_Goal p l e s m below meth c b :=
  xt_call h 19 hk rfl xt_sc7 xg_19_df (by decide +kernel) xg_19_ps [] 60 (by decide +kernel) xg_19_all (fun q hq => by cases hq)
def xg_23_df : xr_D := []
def xg_23_ps : List (xr_F × xr_F) := [([(1, .retAddr 1, .int (Int32.ofNat 0), true)], [(1, .retAddr 1, .int (Int32.ofNat 0), true)]),
  ([(1, .retAddr 1, .int (Int32.ofNat 0), false), (1, .int (Int32.ofNat 1), .retAddr 1, true)], [(1, .retAddr 1, .int (Int32.ofNat 0), false), (1, .int (Int32.ofNat 1), .retAddr 1, true)]),
  ([(1, .retAddr 1, .int (Int32.ofNat 0), false), (1, .int (Int32.ofNat 1), .retAddr 1, false), (0, .retAddr 1, .int (Int32.ofNat 0), true)], [(1, .retAddr 1, .int (Int32.ofNat 0), false), (1, .int (Int32.ofNat 1), .retAddr 1, false), (0, .retAddr 1, .int (Int32.ofNat 0), true)]),
  ([(1, .retAddr 1, .int (Int32.ofNat 0), false), (1, .int (Int32.ofNat 1), .retAddr 1, false), (0, .retAddr 1, .int (Int32.ofNat 0), false)], [(1, .retAddr 1, .int (Int32.ofNat 0), false), (1, .int (Int32.ofNat 1), .retAddr 1, false), (0, .retAddr 1, .int (Int32.ofNat 0), false)])]
set_option maxRecDepth 100000 in
theorem xg_23_all : xg_23_ps.all (fun q => xt_clo q.1 q.2 && xt_go ((5, .retAddr 0, .int 63, .int (Int32.ofNat 23)) :: xg_23_df) q.2 xr_no xt_v7) = true := by decide +kernel
theorem xg_23 {p : Program} {l : Launch} {e : Env} {s : State} {m : MethodId} {below : List Frame} {meth : Method} {c : Code} {b : Nat} {xs : Nat → Int32} {D : va_G} {cy : Nat → ClassId} {sg : Nat → Nat} (h : xt_Ctx p l s m meth c b 7 xs D cy sg) (hk : xs 0 &&& 63 = Int32.ofNat 23) : xt_Goal p l e s m below meth c b :=
  xt_call h 23 hk rfl xt_sc7 xg_23_df (by decide +kernel) xg_23_ps [] 60 (by decide +kernel) xg_23_all (fun q hq => by cases hq)
def xg_25_df : xr_D := []
def xg_25_ps : List (xr_F × xr_F) := [([(1, .retAddr 1, .int (Int32.ofNat 0), true)], [(1, .retAddr 1, .int (Int32.ofNat 0), true)]),
  ([(1, .retAddr 1, .int (Int32.ofNat 0), false), (1, .int (Int32.ofNat 1), .retAddr 1, true)], [(1, .retAddr 1, .int (Int32.ofNat 0), false), (1, .int (Int32.ofNat 1), .retAddr 1, true)]),
  ([(1, .retAddr 1, .int (Int32.ofNat 0), false), (1, .int (Int32.ofNat 1), .retAddr 1, false), (0, .retAddr 1, .int (Int32.ofNat 0), true)], [(1, .retAddr 1, .int (Int32.ofNat 0), false), (1, .int (Int32.ofNat 1), .retAddr 1, false), (0, .retAddr 1, .int (Int32.ofNat 0), true)]),
  ([(1, .retAddr 1, .int (Int32.ofNat 0), false), (1, .int (Int32.ofNat 1), .retAddr 1, false), (0, .retAddr 1, .int (Int32.ofNat 0), false)], [(1, .retAddr 1, .int (Int32.ofNat 0), false), (1, .int (Int32.ofNat 1), .retAddr 1, false), (0, .retAddr 1, .int (Int32.ofNat 0), false)])]
set_option maxRecDepth 100000 in
theorem xg_25_all : xg_25_ps.all (fun q => xt_clo q.1 q.2 && xt_go ((5, .retAddr 0, .int 63, .int (Int32.ofNat 25)) :: xg_25_df) q.2 xr_no xt_v7) = true := by decide +kernel
theorem xg_25 {p : Program} {l : Launch} {e : Env} {s : State} {m : MethodId} {below : List Frame} {meth : Method} {c : Code} {b : Nat} {xs : Nat → Int32} {D : va_G} {cy : Nat → ClassId} {sg : Nat → Nat} (h : xt_Ctx p l s m meth c b 7 xs D cy sg) (hk : xs 0 &&& 63 = Int32.ofNat 25) : xt_Goal p l e s m below meth c b :=
  xt_call h 25 hk rfl xt_sc7 xg_25_df (by decide +kernel) xg_25_ps [] 60 (by decide +kernel) xg_25_all (fun q hq => by cases hq)
end
section
/-! numbers made concrete -/
theorem xt_num {x : Int32} {lo hi : Nat} (hlo : (Int32.ofNat lo).toInt = lo) (hhi : (Int32.ofNat hi).toInt = hi) (a : (Int32.ofNat lo).toInt ≤ x.toInt) (b : x.toInt ≤ (Int32.ofNat hi).toInt) : ∃ n, n < hi + 1 ∧ lo ≤ n ∧ x = Int32.ofNat n := by
  rw [hlo] at a
  rw [hhi] at b
  obtain ⟨n, h1, h2⟩ := xt_nat (x := x) (h := hi + 1) (by omega) (by omega)
  refine ⟨n, h1, ?_, h2⟩
  have := Int32.toInt_lt x
  have e : x.toInt = (n : Int) := by
    rw [h2, Int32.toInt_ofNat_of_lt]
    have h3 : (Int32.ofNat hi).toInt < 2147483648 := Int32.toInt_lt _
    omega
  omega
section XTN
variable {p : Program} {l : Launch} {e : Env} {s : State} {m : MethodId} {below : List Frame} {meth : Method} {c : Code} {b : Nat} {xs : Nat → Int32} {D : va_G} {cy : Nat → ClassId} {sg : Nat → Nat}
/-- one path, its facts known -/
theorem xt_one (h : xt_Ctx p l s m meth c b 7 xs D cy sg) (k : Nat) (hk : xs 0 &&& 63 = Int32.ofNat k) {scr : List Value} (hlen : scr.length = 7) (hsc : xt_sc xs scr) (fx : xr_F) {q : xr_F} (hq : ∀ d ∈ q, xt_T xs d) (hc : xt_clo q fx = true) (hrun : xt_go ((5, .retAddr 0, .int 63, .int (Int32.ofNat k)) :: []) fx xr_no scr = true) : xt_Goal p l e s m below meth c b := by
  refine xt_W h (ep := xs) ?_ (xt_clo_ok hq hc) (fun d u as w b o ho => by cases ho) hlen (fun j v hv => ?_) hrun
  · intro d hd
    rcases List.mem_cons.mp hd with rfl | hd
    · refine ⟨_, _, rfl, rfl, ?_⟩
      show Value.int (Int32.ofNat k) = .int (xs 0 &&& 63)
      rw [hk]
    · cases hd
  · obtain ⟨h3, h4⟩ := hsc j v hv
    rw [xt_iv_ok (xt_lt_I h3), h4]
end XTN
def xg_7_ps : List (xr_F × xr_F) := [([(1, .retAddr 1, .int (Int32.ofNat 0), true)], [(1, .retAddr 1, .int (Int32.ofNat 0), true)]),
  ([(1, .retAddr 1, .int (Int32.ofNat 0), false), (1, .int (Int32.ofNat 8), .retAddr 1, true)], [(1, .retAddr 1, .int (Int32.ofNat 0), false), (1, .int (Int32.ofNat 8), .retAddr 1, true)])]
abbrev xg_7_in : xr_F := [(1, .retAddr 1, .int (Int32.ofNat 0), false), (1, .int (Int32.ofNat 8), .retAddr 1, false)]
set_option maxRecDepth 100000 in
theorem xg_7_all : xg_7_ps.all (fun q => xt_clo q.1 q.2 && xt_go ((5, .retAddr 0, .int 63, .int (Int32.ofNat 7)) :: []) q.2 xr_no xt_v7) = true := by decide +kernel
set_option maxRecDepth 100000 in
theorem xg_7_n : (([0, 1, 2, 3, 4, 5, 6, 7, 8] : List Nat).all (fun n1 => xt_go ((5, .retAddr 0, .int 63, .int (Int32.ofNat 7)) :: []) [] xr_no (xt_v7.set 1 (.int (Int32.ofNat n1))))) = true := by decide +kernel
theorem xg_7 {p : Program} {l : Launch} {e : Env} {s : State} {m : MethodId} {below : List Frame} {meth : Method} {c : Code} {b : Nat} {xs : Nat → Int32} {D : va_G} {cy : Nat → ClassId} {sg : Nat → Nat} (h : xt_Ctx p l s m meth c b 7 xs D cy sg) (hk : xs 0 &&& 63 = Int32.ofNat 7) : xt_Goal p l e s m below meth c b := by
  refine xt_call h 7 hk rfl xt_sc7 [] rfl xg_7_ps [xg_7_in] 60 (by decide +kernel) xg_7_all (fun q hq hT => ?_)
  cases (List.mem_singleton.mp hq)
  have a1 := (xt_T1 (hT (1, .retAddr 1, .int (Int32.ofNat 0), false) (by simp [xg_7_in]))).2 rfl
  have b1 := (xt_T1 (hT (1, .int (Int32.ofNat 8), .retAddr 1, false) (by simp [xg_7_in]))).2 rfl
  obtain ⟨n1, hn1, ln1, en1⟩ := xt_num (x := xs 1) (lo := 0) (hi := 8) (by decide) (by decide) a1 b1
  exact xt_one h 7 hk rfl (xt_sc_set xt_sc7 en1) [] hT (by decide +kernel) (List.all_eq_true.mp (xg_7_n) n1 ((by decide +kernel : ∀ n, n < 9 → 0 ≤ n → n ∈ ([0, 1, 2, 3, 4, 5, 6, 7, 8] : List Nat)) n1 hn1 ln1))
def xg_15_ps : List (xr_F × xr_F) := [([(1, .retAddr 1, .int (Int32.ofNat 0), true)], [(1, .retAddr 1, .int (Int32.ofNat 0), true)]),
  ([(1, .retAddr 1, .int (Int32.ofNat 0), false), (1, .int (Int32.ofNat 3), .retAddr 1, true)], [(1, .retAddr 1, .int (Int32.ofNat 0), false), (1, .int (Int32.ofNat 3), .retAddr 1, true)])]
abbrev xg_15_in : xr_F := [(1, .retAddr 1, .int (Int32.ofNat 0), false), (1, .int (Int32.ofNat 3), .retAddr 1, false)]
set_option maxRecDepth 100000 in
theorem xg_15_all : xg_15_ps.all (fun q => xt_clo q.1 q.2 && xt_go ((5, .retAddr 0, .int 63, .int (Int32.ofNat 15)) :: []) q.2 xr_no xt_v7) = true := by decide +kernel
set_option maxRecDepth 100000 in
theorem xg_15_n : (([0, 1, 2, 3] : List Nat).all (fun n1 => xt_go ((5, .retAddr 0, .int 63, .int (Int32.ofNat 15)) :: []) [] xr_no (xt_v7.set 1 (.int (Int32.ofNat n1))))) = true := by decide +kernel
theorem xg_15 {p : Program} {l : Launch} {e : Env} {s : State} {m : MethodId} {below : List Frame} {meth : Method} {c : Code} {b : Nat} {xs : Nat → Int32} {D : va_G} {cy : Nat → ClassId} {sg : Nat → Nat} (h : xt_Ctx p l s m meth c b 7 xs D cy sg) (hk : xs 0 &&& 63 = Int32.ofNat 15) : xt_Goal p l e s m below meth c b := by
  refine xt_call h 15 hk rfl xt_sc7 [] rfl xg_15_ps [xg_15_in] 60 (by decide +kernel) xg_15_all (fun q hq hT => ?_)
  cases (List.mem_singleton.mp hq)
  have a1 := (xt_T1 (hT (1, .retAddr 1, .int (Int32.ofNat 0), false) (by simp [xg_15_in]))).2 rfl
  have b1 := (xt_T1 (hT (1, .int (Int32.ofNat 3), .retAddr 1, false) (by simp [xg_15_in]))).2 rfl
  obtain ⟨n1, hn1, ln1, en1⟩ := xt_num (x := xs 1) (lo := 0) (hi := 3) (by decide) (by decide) a1 b1
  exact xt_one h 15 hk rfl (xt_sc_set xt_sc7 en1) [] hT (by decide +kernel) (List.all_eq_true.mp (xg_15_n) n1 ((by decide +kernel : ∀ n, n < 4 → 0 ≤ n → n ∈ ([0, 1, 2, 3] : List Nat)) n1 hn1 ln1))
def xg_30_ps : List (xr_F × xr_F) := [([(1, .retAddr 1, .int (Int32.ofNat 0), true)], [(1, .retAddr 1, .int (Int32.ofNat 0), true)]),
  ([(1, .retAddr 1, .int (Int32.ofNat 0), false), (1, .int (Int32.ofNat 6), .retAddr 1, true)], [(1, .retAddr 1, .int (Int32.ofNat 0), false), (1, .int (Int32.ofNat 6), .retAddr 1, true)])]
abbrev xg_30_in : xr_F := [(1, .retAddr 1, .int (Int32.ofNat 0), false), (1, .int (Int32.ofNat 6), .retAddr 1, false)]
set_option maxRecDepth 100000 in
theorem xg_30_all : xg_30_ps.all (fun q => xt_clo q.1 q.2 && xt_go ((5, .retAddr 0, .int 63, .int (Int32.ofNat 30)) :: []) q.2 xr_no xt_v7) = true := by decide +kernel
set_option maxRecDepth 100000 in
theorem xg_30_n : (([0, 1, 2, 3, 4, 5, 6] : List Nat).all (fun n1 => xt_go ((5, .retAddr 0, .int 63, .int (Int32.ofNat 30)) :: []) [] xr_no (xt_v7.set 1 (.int (Int32.ofNat n1))))) = true := by decide +kernel
theorem xg_30 {p : Program} {l : Launch} {e : Env} {s : State} {m : MethodId} {below : List Frame} {meth : Method} {c : Code} {b : Nat} {xs : Nat → Int32} {D : va_G} {cy : Nat → ClassId} {sg : Nat → Nat} (h : xt_Ctx p l s m meth c b 7 xs D cy sg) (hk : xs 0 &&& 63 = Int32.ofNat 30) : xt_Goal p l e s m below meth c b := by
  refine xt_call h 30 hk rfl xt_sc7 [] rfl xg_30_ps [xg_30_in] 60 (by decide +kernel) xg_30_all (fun q hq hT => ?_)
  cases (List.mem_singleton.mp hq)
  have a1 := (xt_T1 (hT (1, .retAddr 1, .int (Int32.ofNat 0), false) (by simp [xg_30_in]))).2 rfl
  have b1 := (xt_T1 (hT (1, .int (Int32.ofNat 6), .retAddr 1, false) (by simp [xg_30_in]))).2 rfl
  obtain ⟨n1, hn1, ln1, en1⟩ := xt_num (x := xs 1) (lo := 0) (hi := 6) (by decide) (by decide) a1 b1
  exact xt_one h 30 hk rfl (xt_sc_set xt_sc7 en1) [] hT (by decide +kernel) (List.all_eq_true.mp (xg_30_n) n1 ((by decide +kernel : ∀ n, n < 7 → 0 ≤ n → n ∈ ([0, 1, 2, 3, 4, 5, 6] : List Nat)) n1 hn1 ln1))
def xg_33_ps : List (xr_F × xr_F) := [([(1, .retAddr 1, .int (Int32.ofNat 0), true)], [(0, .retAddr 1, .int (Int32.ofNat 0), false), (0, .retAddr 1, .int (Int32.ofNat 1), false), (1, .retAddr 1, .int (Int32.ofNat 0), true)]),
  ([(1, .retAddr 1, .int (Int32.ofNat 0), false), (1, .int (Int32.ofNat 1), .retAddr 1, true)], [(0, .retAddr 1, .int (Int32.ofNat 0), false), (0, .retAddr 1, .int (Int32.ofNat 1), false), (1, .retAddr 1, .int (Int32.ofNat 0), false), (1, .int (Int32.ofNat 1), .retAddr 1, true)])]
abbrev xg_33_in : xr_F := [(1, .retAddr 1, .int (Int32.ofNat 0), false), (1, .int (Int32.ofNat 1), .retAddr 1, false)]
set_option maxRecDepth 100000 in
theorem xg_33_all : xg_33_ps.all (fun q => xt_clo q.1 q.2 && xt_go ((5, .retAddr 0, .int 63, .int (Int32.ofNat 33)) :: []) q.2 xr_no xt_v7) = true := by decide +kernel
set_option maxRecDepth 100000 in
theorem xg_33_n : (([0, 1] : List Nat).all (fun n1 => xt_go ((5, .retAddr 0, .int 63, .int (Int32.ofNat 33)) :: []) [] xr_no (xt_v7.set 1 (.int (Int32.ofNat n1))))) = true := by decide +kernel
theorem xg_33 {p : Program} {l : Launch} {e : Env} {s : State} {m : MethodId} {below : List Frame} {meth : Method} {c : Code} {b : Nat} {xs : Nat → Int32} {D : va_G} {cy : Nat → ClassId} {sg : Nat → Nat} (h : xt_Ctx p l s m meth c b 7 xs D cy sg) (hk : xs 0 &&& 63 = Int32.ofNat 33) : xt_Goal p l e s m below meth c b := by
  refine xt_call h 33 hk rfl xt_sc7 [] rfl xg_33_ps [xg_33_in] 60 (by decide +kernel) xg_33_all (fun q hq hT => ?_)
  cases (List.mem_singleton.mp hq)
  have a1 := (xt_T1 (hT (1, .retAddr 1, .int (Int32.ofNat 0), false) (by simp [xg_33_in]))).2 rfl
  have b1 := (xt_T1 (hT (1, .int (Int32.ofNat 1), .retAddr 1, false) (by simp [xg_33_in]))).2 rfl
  obtain ⟨n1, hn1, ln1, en1⟩ := xt_num (x := xs 1) (lo := 0) (hi := 1) (by decide) (by decide) a1 b1
  exact xt_one h 33 hk rfl (xt_sc_set xt_sc7 en1) [] hT (by decide +kernel) (List.all_eq_true.mp (xg_33_n) n1 ((by decide +kernel : ∀ n, n < 2 → 0 ≤ n → n ∈ ([0, 1] : List Nat)) n1 hn1 ln1))
def xg_34_ps : List (xr_F × xr_F) := [([(1, .retAddr 1, .int (Int32.ofNat 0), true)], [(1, .retAddr 1, .int (Int32.ofNat 0), true), (0, .retAddr 1, .int (Int32.ofNat 0), false), (0, .retAddr 1, .int (Int32.ofNat 1), false), (0, .retAddr 1, .int (Int32.ofNat 2), false)]),
  ([(1, .retAddr 1, .int (Int32.ofNat 0), false), (1, .int (Int32.ofNat 2), .retAddr 1, true)], [(1, .retAddr 1, .int (Int32.ofNat 0), false), (1, .int (Int32.ofNat 2), .retAddr 1, true), (0, .retAddr 1, .int (Int32.ofNat 0), false), (0, .retAddr 1, .int (Int32.ofNat 1), false), (0, .retAddr 1, .int (Int32.ofNat 2), false)])]
abbrev xg_34_in : xr_F := [(1, .retAddr 1, .int (Int32.ofNat 0), false), (1, .int (Int32.ofNat 2), .retAddr 1, false)]
set_option maxRecDepth 100000 in
theorem xg_34_all : xg_34_ps.all (fun q => xt_clo q.1 q.2 && xt_go ((5, .retAddr 0, .int 63, .int (Int32.ofNat 34)) :: []) q.2 xr_no xt_v7) = true := by decide +kernel
set_option maxRecDepth 100000 in
theorem xg_34_n : (([0, 1, 2] : List Nat).all (fun n1 => xt_go ((5, .retAddr 0, .int 63, .int (Int32.ofNat 34)) :: []) [] xr_no (xt_v7.set 1 (.int (Int32.ofNat n1))))) = true := by decide +kernel
theorem xg_34 {p : Program} {l : Launch} {e : Env} {s : State} {m : MethodId} {below : List Frame} {meth : Method} {c : Code} {b : Nat} {xs : Nat → Int32} {D : va_G} {cy : Nat → ClassId} {sg : Nat → Nat} (h : xt_Ctx p l s m meth c b 7 xs D cy sg) (hk : xs 0 &&& 63 = Int32.ofNat 34) : xt_Goal p l e s m below meth c b := by
  refine xt_call h 34 hk rfl xt_sc7 [] rfl xg_34_ps [xg_34_in] 60 (by decide +kernel) xg_34_all (fun q hq hT => ?_)
  cases (List.mem_singleton.mp hq)
  have a1 := (xt_T1 (hT (1, .retAddr 1, .int (Int32.ofNat 0), false) (by simp [xg_34_in]))).2 rfl
  have b1 := (xt_T1 (hT (1, .int (Int32.ofNat 2), .retAddr 1, false) (by simp [xg_34_in]))).2 rfl
  obtain ⟨n1, hn1, ln1, en1⟩ := xt_num (x := xs 1) (lo := 0) (hi := 2) (by decide) (by decide) a1 b1
  exact xt_one h 34 hk rfl (xt_sc_set xt_sc7 en1) [] hT (by decide +kernel) (List.all_eq_true.mp (xg_34_n) n1 ((by decide +kernel : ∀ n, n < 3 → 0 ≤ n → n ∈ ([0, 1, 2] : List Nat)) n1 hn1 ln1))
def xg_3_df : xr_D := []
def xg_3_ps : List (xr_F × xr_F) := [([(1, .retAddr 1, .int (Int32.ofNat 0), true)], [(1, .retAddr 1, .int (Int32.ofNat 0), true)]),
  ([(1, .retAddr 1, .int (Int32.ofNat 0), false), (1, .int (Int32.ofNat 0), .retAddr 1, true)], [(1, .retAddr 1, .int (Int32.ofNat 0), false), (1, .int (Int32.ofNat 0), .retAddr 1, true)]),
  ([(1, .retAddr 1, .int (Int32.ofNat 0), false), (1, .int (Int32.ofNat 0), .retAddr 1, false)], [(1, .retAddr 1, .int (Int32.ofNat 0), false), (1, .int (Int32.ofNat 0), .retAddr 1, false), (1, .int (Int32.ofNat 200), .retAddr 1, false)])]
set_option maxRecDepth 100000 in
theorem xg_3_all : xg_3_ps.all (fun q => xt_clo q.1 q.2 && xt_go ((5, .retAddr 0, .int 63, .int (Int32.ofNat 3)) :: xg_3_df) q.2 xr_no xt_v7) = true := by decide +kernel
theorem xg_3 {p : Program} {l : Launch} {e : Env} {s : State} {m : MethodId} {below : List Frame} {meth : Method} {c : Code} {b : Nat} {xs : Nat → Int32} {D : va_G} {cy : Nat → ClassId} {sg : Nat → Nat} (h : xt_Ctx p l s m meth c b 7 xs D cy sg) (hk : xs 0 &&& 63 = Int32.ofNat 3) : xt_Goal p l e s m below meth c b :=
  xt_call h 3 hk rfl xt_sc7 xg_3_df (by decide +kernel) xg_3_ps [] 60 (by decide +kernel) xg_3_all (fun q hq => by cases hq)
end
section
/-! sets; calls that are none; short scripts: printed by wip/p1/gcalls3.py -/
def xg_18_df : xr_D := [(4, .retAddr 1, .int (Int32.ofNat 10), .retAddr 7), (1, .retAddr 7, .int (Int32.ofNat 1), .retAddr 8), (3, .retAddr 1, .int (Int32.ofNat 10), .retAddr 9)]
def xg_18_ps : List (xr_F × xr_F) := [([(1, .retAddr 2, .int (Int32.ofNat 0), true), (1, .int (Int32.ofNat 0), .retAddr 1, true), (1, .retAddr 8, .int (Int32.ofNat 0), true)], [(1, .retAddr 2, .int (Int32.ofNat 0), true), (1, .int (Int32.ofNat 0), .retAddr 1, true), (1, .retAddr 8, .int (Int32.ofNat 0), true)]),
  ([(1, .retAddr 2, .int (Int32.ofNat 0), false), (1, .int (Int32.ofNat 1), .retAddr 2, true), (1, .int (Int32.ofNat 0), .retAddr 1, true), (1, .retAddr 8, .int (Int32.ofNat 0), true)], [(1, .retAddr 2, .int (Int32.ofNat 0), false), (1, .int (Int32.ofNat 1), .retAddr 2, true), (1, .int (Int32.ofNat 0), .retAddr 1, true), (1, .retAddr 8, .int (Int32.ofNat 0), true)]),
  ([(1, .retAddr 2, .int (Int32.ofNat 0), false), (1, .int (Int32.ofNat 1), .retAddr 2, false), (1, .retAddr 1, .int (Int32.ofNat 0), true)], [(1, .retAddr 2, .int (Int32.ofNat 0), false), (1, .int (Int32.ofNat 1), .retAddr 2, false), (1, .retAddr 1, .int (Int32.ofNat 0), true), (1, .int (Int32.ofNat 0), .retAddr 1, false)]),
  ([(1, .retAddr 2, .int (Int32.ofNat 0), false), (1, .int (Int32.ofNat 1), .retAddr 2, false), (1, .retAddr 1, .int (Int32.ofNat 0), false), (1, .int (Int32.ofNat 0), .retAddr 1, true), (0, .retAddr 7, .int (Int32.ofNat 0), true), (1, .retAddr 8, .int (Int32.ofNat 0), true)], [(1, .retAddr 2, .int (Int32.ofNat 0), false), (1, .int (Int32.ofNat 1), .retAddr 2, false), (1, .retAddr 1, .int (Int32.ofNat 0), false), (1, .int (Int32.ofNat 0), .retAddr 1, true), (0, .retAddr 7, .int (Int32.ofNat 0), true), (1, .retAddr 8, .int (Int32.ofNat 0), true)]),
  ([(1, .retAddr 2, .int (Int32.ofNat 0), false), (1, .int (Int32.ofNat 1), .retAddr 2, false), (1, .retAddr 1, .int (Int32.ofNat 0), false), (1, .int (Int32.ofNat 0), .retAddr 1, false), (0, .retAddr 2, .int (Int32.ofNat 0), true)], [(1, .retAddr 2, .int (Int32.ofNat 0), false), (1, .int (Int32.ofNat 1), .retAddr 2, false), (1, .retAddr 1, .int (Int32.ofNat 0), false), (1, .int (Int32.ofNat 0), .retAddr 1, false), (0, .retAddr 2, .int (Int32.ofNat 0), true)]),
  ([(1, .retAddr 2, .int (Int32.ofNat 0), false), (1, .int (Int32.ofNat 1), .retAddr 2, false), (1, .retAddr 1, .int (Int32.ofNat 0), false), (1, .int (Int32.ofNat 0), .retAddr 1, false), (0, .retAddr 2, .int (Int32.ofNat 0), false)], [(1, .retAddr 2, .int (Int32.ofNat 0), false), (1, .int (Int32.ofNat 1), .retAddr 2, false), (1, .retAddr 1, .int (Int32.ofNat 0), false), (1, .int (Int32.ofNat 0), .retAddr 1, false), (0, .retAddr 2, .int (Int32.ofNat 0), false)]),
  ([(1, .retAddr 2, .int (Int32.ofNat 0), false), (1, .int (Int32.ofNat 1), .retAddr 2, false), (1, .retAddr 1, .int (Int32.ofNat 0), false), (1, .int (Int32.ofNat 0), .retAddr 1, true), (0, .retAddr 7, .int (Int32.ofNat 0), false), (1, .int (Int32.ofNat 0), .retAddr 7, true), (1, .retAddr 8, .int (Int32.ofNat 0), true)], [(1, .retAddr 2, .int (Int32.ofNat 0), false), (1, .int (Int32.ofNat 1), .retAddr 2, false), (1, .retAddr 1, .int (Int32.ofNat 0), false), (1, .int (Int32.ofNat 0), .retAddr 1, true), (0, .retAddr 7, .int (Int32.ofNat 0), false), (1, .int (Int32.ofNat 0), .retAddr 7, true), (1, .retAddr 8, .int (Int32.ofNat 0), true)]),
  ([(1, .retAddr 2, .int (Int32.ofNat 0), false), (1, .int (Int32.ofNat 1), .retAddr 2, false), (1, .retAddr 1, .int (Int32.ofNat 0), false), (1, .int (Int32.ofNat 0), .retAddr 1, true), (0, .retAddr 7, .int (Int32.ofNat 0), false), (1, .int (Int32.ofNat 0), .retAddr 7, true), (1, .retAddr 8, .int (Int32.ofNat 0), false)], [(1, .retAddr 2, .int (Int32.ofNat 0), false), (1, .int (Int32.ofNat 1), .retAddr 2, false), (1, .retAddr 1, .int (Int32.ofNat 0), false), (1, .int (Int32.ofNat 0), .retAddr 1, true), (0, .retAddr 7, .int (Int32.ofNat 0), false), (1, .int (Int32.ofNat 0), .retAddr 7, true), (1, .retAddr 8, .int (Int32.ofNat 0), false), (1, .int (Int32.ofNat 4294967295), .retAddr 8, true)]),
  ([(1, .retAddr 2, .int (Int32.ofNat 0), false), (1, .int (Int32.ofNat 1), .retAddr 2, false), (1, .retAddr 1, .int (Int32.ofNat 0), false), (1, .int (Int32.ofNat 0), .retAddr 1, true), (0, .retAddr 7, .int (Int32.ofNat 0), true), (1, .retAddr 8, .int (Int32.ofNat 0), false)], [(1, .retAddr 2, .int (Int32.ofNat 0), false), (1, .int (Int32.ofNat 1), .retAddr 2, false), (1, .retAddr 1, .int (Int32.ofNat 0), false), (1, .int (Int32.ofNat 0), .retAddr 1, true), (0, .retAddr 7, .int (Int32.ofNat 0), true), (1, .retAddr 8, .int (Int32.ofNat 0), false), (1, .int (Int32.ofNat 4294967295), .retAddr 8, true)]),
  ([(1, .retAddr 2, .int (Int32.ofNat 0), false), (1, .int (Int32.ofNat 1), .retAddr 2, true), (1, .int (Int32.ofNat 0), .retAddr 1, false), (1, .retAddr 1, .int (Int32.ofNat 0), true)], [(1, .retAddr 2, .int (Int32.ofNat 0), false), (1, .int (Int32.ofNat 1), .retAddr 2, true), (1, .int (Int32.ofNat 0), .retAddr 1, false), (1, .retAddr 1, .int (Int32.ofNat 0), true)]),
  ([(1, .retAddr 2, .int (Int32.ofNat 0), false), (1, .int (Int32.ofNat 1), .retAddr 2, true), (1, .int (Int32.ofNat 0), .retAddr 1, false), (1, .retAddr 1, .int (Int32.ofNat 0), false)], [(1, .retAddr 2, .int (Int32.ofNat 0), false), (1, .int (Int32.ofNat 1), .retAddr 2, true), (1, .int (Int32.ofNat 0), .retAddr 1, false), (1, .retAddr 1, .int (Int32.ofNat 0), false)]),
  ([(1, .retAddr 2, .int (Int32.ofNat 0), false), (1, .int (Int32.ofNat 1), .retAddr 2, true), (1, .int (Int32.ofNat 0), .retAddr 1, true), (1, .retAddr 8, .int (Int32.ofNat 0), false)], [(1, .retAddr 2, .int (Int32.ofNat 0), false), (1, .int (Int32.ofNat 1), .retAddr 2, true), (1, .int (Int32.ofNat 0), .retAddr 1, true), (1, .retAddr 8, .int (Int32.ofNat 0), false), (1, .int (Int32.ofNat 4294967295), .retAddr 8, true)]),
  ([(1, .retAddr 2, .int (Int32.ofNat 0), true), (1, .int (Int32.ofNat 0), .retAddr 1, false), (1, .retAddr 1, .int (Int32.ofNat 0), true)], [(1, .retAddr 2, .int (Int32.ofNat 0), true), (1, .int (Int32.ofNat 0), .retAddr 1, false), (1, .retAddr 1, .int (Int32.ofNat 0), true)]),
  ([(1, .retAddr 2, .int (Int32.ofNat 0), true), (1, .int (Int32.ofNat 0), .retAddr 1, false), (1, .retAddr 1, .int (Int32.ofNat 0), false)], [(1, .retAddr 2, .int (Int32.ofNat 0), true), (1, .int (Int32.ofNat 0), .retAddr 1, false), (1, .retAddr 1, .int (Int32.ofNat 0), false)]),
  ([(1, .retAddr 2, .int (Int32.ofNat 0), true), (1, .int (Int32.ofNat 0), .retAddr 1, true), (1, .retAddr 8, .int (Int32.ofNat 0), false)], [(1, .retAddr 2, .int (Int32.ofNat 0), true), (1, .int (Int32.ofNat 0), .retAddr 1, true), (1, .retAddr 8, .int (Int32.ofNat 0), false), (1, .int (Int32.ofNat 4294967295), .retAddr 8, true)])]
abbrev xg_18_rs : xr_F := [(1, .retAddr 2, .int (Int32.ofNat 0), false), (1, .int (Int32.ofNat 1), .retAddr 2, false), (1, .retAddr 1, .int (Int32.ofNat 0), false), (1, .int (Int32.ofNat 0), .retAddr 1, true), (0, .retAddr 7, .int (Int32.ofNat 0), false), (1, .int (Int32.ofNat 0), .retAddr 7, false)]
set_option maxRecDepth 100000 in
theorem xg_18_all : xg_18_ps.all (fun q => xt_clo q.1 q.2 && xt_go ((5, .retAddr 0, .int 63, .int (Int32.ofNat 18)) :: xg_18_df) q.2 xr_no xt_v7) = true := by decide +kernel
theorem xt_rem {x : Int32} (h : 0 ≤ x.toInt) : 0 ≤ (x - x / 10 * 10).toInt := by
  have h1 := Int32.toInt_lt x
  have h10 : (10 : Int32).toInt = 10 := rfl
  have hd : (x / 10).toInt = x.toInt / 10 := by
    rw [Int32.toInt_div, h10, Int.tdiv_eq_ediv_of_nonneg h]
    exact Int.bmod_eq_of_le (by omega) (by omega)
  have hm : (x / 10 * 10).toInt = x.toInt / 10 * 10 := by
    rw [Int32.toInt_mul, hd, h10]
    exact Int.bmod_eq_of_le (by omega) (by omega)
  rw [Int32.toInt_sub, hm]
  rw [Int.bmod_eq_of_le (by omega) (by omega)]
  omega
theorem xg_18 {p : Program} {l : Launch} {e : Env} {s : State} {m : MethodId} {below : List Frame} {meth : Method} {c : Code} {b : Nat} {xs : Nat → Int32} {D : va_G} {cy : Nat → ClassId} {sg : Nat → Nat} (h : xt_Ctx p l s m meth c b 7 xs D cy sg) (hk : xs 0 &&& 63 = Int32.ofNat 18) : xt_Goal p l e s m below meth c b := by
  refine xt_call h 18 hk rfl xt_sc7 xg_18_df (by decide +kernel) xg_18_ps [xg_18_rs] 60 (by decide +kernel) xg_18_all (fun q hq hT => ?_)
  cases (List.mem_singleton.mp hq)
  have a1 := (xt_T1 (hT (1, .retAddr 1, .int (Int32.ofNat 0), false) (by simp [xg_18_rs]))).2 rfl
  have a2 := (xt_T1 (hT (1, .int (Int32.ofNat 0), .retAddr 7, false) (by simp [xg_18_rs]))).2 rfl
  have a3 := (xt_T0 (hT (0, .retAddr 7, .int (Int32.ofNat 0), false) (by simp [xg_18_rs]))).2 rfl
  have e1 : xt_iv (xt_ext xg_18_df xs) (.retAddr 1) = xs 1 := rfl
  have e7 : xt_iv (xt_ext xg_18_df xs) (.retAddr 7) = xs 1 - xs 1 / 10 * 10 := rfl
  rw [e1] at a1
  rw [e7] at a2 a3
  have z : (xt_iv (xt_ext xg_18_df xs) (.int (Int32.ofNat 0))).toInt = 0 := rfl
  rw [z] at a1 a2 a3
  have := xt_rem a1
  omega
set_option maxRecDepth 100000 in
theorem xg_def_n : ([35, 36, 37, 38, 39, 40, 41, 42, 43, 44, 45, 46, 47, 48, 49, 50, 51, 52, 53, 54, 55, 56, 57, 58, 59, 60, 61, 62, 63] : List Nat).all (fun k => xt_go ((5, .retAddr 0, .int 63, .int (Int32.ofNat k)) :: []) [] xr_no xt_v7) = true := by decide +kernel
theorem xg_def {p : Program} {l : Launch} {e : Env} {s : State} {m : MethodId} {below : List Frame} {meth : Method} {c : Code} {b : Nat} {xs : Nat → Int32} {D : va_G} {cy : Nat → ClassId} {sg : Nat → Nat} (h : xt_Ctx p l s m meth c b 7 xs D cy sg) {k : Nat} (hk : xs 0 &&& 63 = Int32.ofNat k) (h1 : k < 64) (h2 : 35 ≤ k) : xt_Goal p l e s m below meth c b :=
  xt_one h k hk rfl xt_sc7 [] (q := []) (fun d hd => by cases hd) rfl (List.all_eq_true.mp xg_def_n k ((by decide +kernel : ∀ n, n < 64 → 35 ≤ n → n ∈ ([35, 36, 37, 38, 39, 40, 41, 42, 43, 44, 45, 46, 47, 48, 49, 50, 51, 52, 53, 54, 55, 56, 57, 58, 59, 60, 61, 62, 63] : List Nat)) k h1 h2))
set_option maxRecDepth 100000 in
theorem xg_sh_n : ([0, 1, 2, 3, 4, 5, 6] : List Nat).all (fun k => xt_go [] [] xr_no (xt_v7.take k)) = true := by decide +kernel
theorem xg_sh {p : Program} {l : Launch} {e : Env} {s : State} {m : MethodId} {below : List Frame} {meth : Method} {c : Code} {b : Nat} {xs : Nat → Int32} {D : va_G} {cy : Nat → ClassId} {sg : Nat → Nat} {L : Nat} (h : xt_Ctx p l s m meth c b L xs D cy sg) (hL : L < 7) : xt_Goal p l e s m below meth c b := by
  refine xt_W h (ep := xs) (df := []) (fx := []) (sm := xr_no) (scr := xt_v7.take L) (fun d hd => by cases hd) (fun d hd => by cases hd) (fun d u as w b o ho => by cases ho) ?_ (fun j v hv => ?_) (List.all_eq_true.mp xg_sh_n L ((by decide +kernel : ∀ n, n < 7 → n ∈ ([0, 1, 2, 3, 4, 5, 6] : List Nat)) L hL))
  · rw [List.length_take]
    show min L 7 = L
    omega
  · have hv' : xt_v7[j]? = some v := by
      rw [List.getElem?_take] at hv
      split at hv
      · exact hv
      · cases hv
    obtain ⟨h3, h4⟩ := xt_sc7 (xs := xs) j v hv'
    rw [xt_iv_ok (xt_lt_I h3), h4]
end
section
/-! blight -/
def xg_28_ps : List (xr_F × xr_F) := [([(1, .retAddr 2, .int (Int32.ofNat 0), true)], [(1, .retAddr 2, .int (Int32.ofNat 0), true)]),
  ([(1, .retAddr 2, .int (Int32.ofNat 0), false), (1, .int (Int32.ofNat 16), .retAddr 2, true)], [(1, .retAddr 2, .int (Int32.ofNat 0), false), (1, .int (Int32.ofNat 16), .retAddr 2, true)]),
  ([(1, .retAddr 2, .int (Int32.ofNat 0), false), (1, .int (Int32.ofNat 16), .retAddr 2, false), (1, .retAddr 3, .int (Int32.ofNat 1), true)], [(1, .retAddr 2, .int (Int32.ofNat 0), false), (1, .int (Int32.ofNat 16), .retAddr 2, false), (1, .retAddr 3, .int (Int32.ofNat 1), true)]),
  ([(1, .retAddr 2, .int (Int32.ofNat 0), false), (1, .int (Int32.ofNat 16), .retAddr 2, false), (1, .retAddr 3, .int (Int32.ofNat 1), false), (1, .int (Int32.ofNat 20), .retAddr 3, true)], [(1, .retAddr 2, .int (Int32.ofNat 0), false), (1, .int (Int32.ofNat 16), .retAddr 2, false), (1, .retAddr 3, .int (Int32.ofNat 1), false), (1, .int (Int32.ofNat 20), .retAddr 3, true)]),
  ([(1, .retAddr 2, .int (Int32.ofNat 0), false), (1, .int (Int32.ofNat 16), .retAddr 2, false), (1, .retAddr 3, .int (Int32.ofNat 1), false), (1, .int (Int32.ofNat 20), .retAddr 3, false), (1, .retAddr 4, .int (Int32.ofNat 0), true)], [(1, .retAddr 2, .int (Int32.ofNat 0), false), (1, .int (Int32.ofNat 16), .retAddr 2, false), (1, .retAddr 3, .int (Int32.ofNat 1), false), (1, .int (Int32.ofNat 20), .retAddr 3, false), (1, .retAddr 4, .int (Int32.ofNat 0), true)]),
  ([(1, .retAddr 2, .int (Int32.ofNat 0), false), (1, .int (Int32.ofNat 16), .retAddr 2, false), (1, .retAddr 3, .int (Int32.ofNat 1), false), (1, .int (Int32.ofNat 20), .retAddr 3, false), (1, .retAddr 4, .int (Int32.ofNat 0), false), (1, .int (Int32.ofNat 2), .retAddr 4, true)], [(1, .retAddr 2, .int (Int32.ofNat 0), false), (1, .int (Int32.ofNat 16), .retAddr 2, false), (1, .retAddr 3, .int (Int32.ofNat 1), false), (1, .int (Int32.ofNat 20), .retAddr 3, false), (1, .retAddr 4, .int (Int32.ofNat 0), false), (1, .int (Int32.ofNat 2), .retAddr 4, true)])]
abbrev xg_28_in : xr_F := [(1, .retAddr 2, .int (Int32.ofNat 0), false), (1, .int (Int32.ofNat 16), .retAddr 2, false), (1, .retAddr 3, .int (Int32.ofNat 1), false), (1, .int (Int32.ofNat 20), .retAddr 3, false), (1, .retAddr 4, .int (Int32.ofNat 0), false), (1, .int (Int32.ofNat 2), .retAddr 4, false)]
set_option maxRecDepth 100000 in
theorem xg_28_all : xg_28_ps.all (fun q => xt_clo q.1 q.2 && xt_go ((5, .retAddr 0, .int 63, .int (Int32.ofNat 28)) :: []) q.2 xr_no xt_v7) = true := by decide +kernel
set_option maxRecDepth 100000 in
theorem xg_28_n1 : (([0, 1, 2] : List Nat).all (fun n2 => xt_go ((5, .retAddr 0, .int 63, .int (Int32.ofNat 28)) :: []) [(1, .retAddr 2, .int (Int32.ofNat 0), false), (1, .int (Int32.ofNat 16), .retAddr 2, false)] xr_no ((xt_v7.set 3 (.int (Int32.ofNat 1))).set 4 (.int (Int32.ofNat n2))))) = true := by decide +kernel
set_option maxRecDepth 100000 in
theorem xg_28_n2 : (([0, 1, 2] : List Nat).all (fun n2 => xt_go ((5, .retAddr 0, .int 63, .int (Int32.ofNat 28)) :: []) [(1, .retAddr 2, .int (Int32.ofNat 0), false), (1, .int (Int32.ofNat 16), .retAddr 2, false)] xr_no ((xt_v7.set 3 (.int (Int32.ofNat 2))).set 4 (.int (Int32.ofNat n2))))) = true := by decide +kernel
set_option maxRecDepth 100000 in
theorem xg_28_n3 : (([0, 1, 2] : List Nat).all (fun n2 => xt_go ((5, .retAddr 0, .int 63, .int (Int32.ofNat 28)) :: []) [(1, .retAddr 2, .int (Int32.ofNat 0), false), (1, .int (Int32.ofNat 16), .retAddr 2, false)] xr_no ((xt_v7.set 3 (.int (Int32.ofNat 3))).set 4 (.int (Int32.ofNat n2))))) = true := by decide +kernel
set_option maxRecDepth 100000 in
theorem xg_28_n4 : (([0, 1, 2] : List Nat).all (fun n2 => xt_go ((5, .retAddr 0, .int 63, .int (Int32.ofNat 28)) :: []) [(1, .retAddr 2, .int (Int32.ofNat 0), false), (1, .int (Int32.ofNat 16), .retAddr 2, false)] xr_no ((xt_v7.set 3 (.int (Int32.ofNat 4))).set 4 (.int (Int32.ofNat n2))))) = true := by decide +kernel
set_option maxRecDepth 100000 in
theorem xg_28_n5 : (([0, 1, 2] : List Nat).all (fun n2 => xt_go ((5, .retAddr 0, .int 63, .int (Int32.ofNat 28)) :: []) [(1, .retAddr 2, .int (Int32.ofNat 0), false), (1, .int (Int32.ofNat 16), .retAddr 2, false)] xr_no ((xt_v7.set 3 (.int (Int32.ofNat 5))).set 4 (.int (Int32.ofNat n2))))) = true := by decide +kernel
set_option maxRecDepth 100000 in
theorem xg_28_n6 : (([0, 1, 2] : List Nat).all (fun n2 => xt_go ((5, .retAddr 0, .int 63, .int (Int32.ofNat 28)) :: []) [(1, .retAddr 2, .int (Int32.ofNat 0), false), (1, .int (Int32.ofNat 16), .retAddr 2, false)] xr_no ((xt_v7.set 3 (.int (Int32.ofNat 6))).set 4 (.int (Int32.ofNat n2))))) = true := by decide +kernel
set_option maxRecDepth 100000 in
theorem xg_28_n7 : (([0, 1, 2] : List Nat).all (fun n2 => xt_go ((5, .retAddr 0, .int 63, .int (Int32.ofNat 28)) :: []) [(1, .retAddr 2, .int (Int32.ofNat 0), false), (1, .int (Int32.ofNat 16), .retAddr 2, false)] xr_no ((xt_v7.set 3 (.int (Int32.ofNat 7))).set 4 (.int (Int32.ofNat n2))))) = true := by decide +kernel
set_option maxRecDepth 100000 in
theorem xg_28_n8 : (([0, 1, 2] : List Nat).all (fun n2 => xt_go ((5, .retAddr 0, .int 63, .int (Int32.ofNat 28)) :: []) [(1, .retAddr 2, .int (Int32.ofNat 0), false), (1, .int (Int32.ofNat 16), .retAddr 2, false)] xr_no ((xt_v7.set 3 (.int (Int32.ofNat 8))).set 4 (.int (Int32.ofNat n2))))) = true := by decide +kernel
set_option maxRecDepth 100000 in
theorem xg_28_n9 : (([0, 1, 2] : List Nat).all (fun n2 => xt_go ((5, .retAddr 0, .int 63, .int (Int32.ofNat 28)) :: []) [(1, .retAddr 2, .int (Int32.ofNat 0), false), (1, .int (Int32.ofNat 16), .retAddr 2, false)] xr_no ((xt_v7.set 3 (.int (Int32.ofNat 9))).set 4 (.int (Int32.ofNat n2))))) = true := by decide +kernel
set_option maxRecDepth 100000 in
theorem xg_28_n10 : (([0, 1, 2] : List Nat).all (fun n2 => xt_go ((5, .retAddr 0, .int 63, .int (Int32.ofNat 28)) :: []) [(1, .retAddr 2, .int (Int32.ofNat 0), false), (1, .int (Int32.ofNat 16), .retAddr 2, false)] xr_no ((xt_v7.set 3 (.int (Int32.ofNat 10))).set 4 (.int (Int32.ofNat n2))))) = true := by decide +kernel
set_option maxRecDepth 100000 in
theorem xg_28_n11 : (([0, 1, 2] : List Nat).all (fun n2 => xt_go ((5, .retAddr 0, .int 63, .int (Int32.ofNat 28)) :: []) [(1, .retAddr 2, .int (Int32.ofNat 0), false), (1, .int (Int32.ofNat 16), .retAddr 2, false)] xr_no ((xt_v7.set 3 (.int (Int32.ofNat 11))).set 4 (.int (Int32.ofNat n2))))) = true := by decide +kernel
set_option maxRecDepth 100000 in
theorem xg_28_n12 : (([0, 1, 2] : List Nat).all (fun n2 => xt_go ((5, .retAddr 0, .int 63, .int (Int32.ofNat 28)) :: []) [(1, .retAddr 2, .int (Int32.ofNat 0), false), (1, .int (Int32.ofNat 16), .retAddr 2, false)] xr_no ((xt_v7.set 3 (.int (Int32.ofNat 12))).set 4 (.int (Int32.ofNat n2))))) = true := by decide +kernel
set_option maxRecDepth 100000 in
theorem xg_28_n13 : (([0, 1, 2] : List Nat).all (fun n2 => xt_go ((5, .retAddr 0, .int 63, .int (Int32.ofNat 28)) :: []) [(1, .retAddr 2, .int (Int32.ofNat 0), false), (1, .int (Int32.ofNat 16), .retAddr 2, false)] xr_no ((xt_v7.set 3 (.int (Int32.ofNat 13))).set 4 (.int (Int32.ofNat n2))))) = true := by decide +kernel
set_option maxRecDepth 100000 in
theorem xg_28_n14 : (([0, 1, 2] : List Nat).all (fun n2 => xt_go ((5, .retAddr 0, .int 63, .int (Int32.ofNat 28)) :: []) [(1, .retAddr 2, .int (Int32.ofNat 0), false), (1, .int (Int32.ofNat 16), .retAddr 2, false)] xr_no ((xt_v7.set 3 (.int (Int32.ofNat 14))).set 4 (.int (Int32.ofNat n2))))) = true := by decide +kernel
set_option maxRecDepth 100000 in
theorem xg_28_n15 : (([0, 1, 2] : List Nat).all (fun n2 => xt_go ((5, .retAddr 0, .int 63, .int (Int32.ofNat 28)) :: []) [(1, .retAddr 2, .int (Int32.ofNat 0), false), (1, .int (Int32.ofNat 16), .retAddr 2, false)] xr_no ((xt_v7.set 3 (.int (Int32.ofNat 15))).set 4 (.int (Int32.ofNat n2))))) = true := by decide +kernel
set_option maxRecDepth 100000 in
theorem xg_28_n16 : (([0, 1, 2] : List Nat).all (fun n2 => xt_go ((5, .retAddr 0, .int 63, .int (Int32.ofNat 28)) :: []) [(1, .retAddr 2, .int (Int32.ofNat 0), false), (1, .int (Int32.ofNat 16), .retAddr 2, false)] xr_no ((xt_v7.set 3 (.int (Int32.ofNat 16))).set 4 (.int (Int32.ofNat n2))))) = true := by decide +kernel
set_option maxRecDepth 100000 in
theorem xg_28_n17 : (([0, 1, 2] : List Nat).all (fun n2 => xt_go ((5, .retAddr 0, .int 63, .int (Int32.ofNat 28)) :: []) [(1, .retAddr 2, .int (Int32.ofNat 0), false), (1, .int (Int32.ofNat 16), .retAddr 2, false)] xr_no ((xt_v7.set 3 (.int (Int32.ofNat 17))).set 4 (.int (Int32.ofNat n2))))) = true := by decide +kernel
set_option maxRecDepth 100000 in
theorem xg_28_n18 : (([0, 1, 2] : List Nat).all (fun n2 => xt_go ((5, .retAddr 0, .int 63, .int (Int32.ofNat 28)) :: []) [(1, .retAddr 2, .int (Int32.ofNat 0), false), (1, .int (Int32.ofNat 16), .retAddr 2, false)] xr_no ((xt_v7.set 3 (.int (Int32.ofNat 18))).set 4 (.int (Int32.ofNat n2))))) = true := by decide +kernel
set_option maxRecDepth 100000 in
theorem xg_28_n19 : (([0, 1, 2] : List Nat).all (fun n2 => xt_go ((5, .retAddr 0, .int 63, .int (Int32.ofNat 28)) :: []) [(1, .retAddr 2, .int (Int32.ofNat 0), false), (1, .int (Int32.ofNat 16), .retAddr 2, false)] xr_no ((xt_v7.set 3 (.int (Int32.ofNat 19))).set 4 (.int (Int32.ofNat n2))))) = true := by decide +kernel
set_option maxRecDepth 100000 in
theorem xg_28_n20 : (([0, 1, 2] : List Nat).all (fun n2 => xt_go ((5, .retAddr 0, .int 63, .int (Int32.ofNat 28)) :: []) [(1, .retAddr 2, .int (Int32.ofNat 0), false), (1, .int (Int32.ofNat 16), .retAddr 2, false)] xr_no ((xt_v7.set 3 (.int (Int32.ofNat 20))).set 4 (.int (Int32.ofNat n2))))) = true := by decide +kernel
theorem xg_28_n : (([1, 2, 3, 4, 5, 6, 7, 8, 9, 10, 11, 12, 13, 14, 15, 16, 17, 18, 19, 20] : List Nat).all (fun n1 => ([0, 1, 2] : List Nat).all (fun n2 => xt_go ((5, .retAddr 0, .int 63, .int (Int32.ofNat 28)) :: []) [(1, .retAddr 2, .int (Int32.ofNat 0), false), (1, .int (Int32.ofNat 16), .retAddr 2, false)] xr_no ((xt_v7.set 3 (.int (Int32.ofNat n1))).set 4 (.int (Int32.ofNat n2)))))) = true := by
  refine List.all_eq_true.mpr (fun n hn => ?_)
  simp only [List.mem_cons, List.not_mem_nil, or_false] at hn
  rcases hn with rfl | rfl | rfl | rfl | rfl | rfl | rfl | rfl | rfl | rfl | rfl | rfl | rfl | rfl | rfl | rfl | rfl | rfl | rfl | rfl
  · exact xg_28_n1
  · exact xg_28_n2
  · exact xg_28_n3
  · exact xg_28_n4
  · exact xg_28_n5
  · exact xg_28_n6
  · exact xg_28_n7
  · exact xg_28_n8
  · exact xg_28_n9
  · exact xg_28_n10
  · exact xg_28_n11
  · exact xg_28_n12
  · exact xg_28_n13
  · exact xg_28_n14
  · exact xg_28_n15
  · exact xg_28_n16
  · exact xg_28_n17
  · exact xg_28_n18
  · exact xg_28_n19
  · exact xg_28_n20
theorem xg_28 {p : Program} {l : Launch} {e : Env} {s : State} {m : MethodId} {below : List Frame} {meth : Method} {c : Code} {b : Nat} {xs : Nat → Int32} {D : va_G} {cy : Nat → ClassId} {sg : Nat → Nat} (h : xt_Ctx p l s m meth c b 7 xs D cy sg) (hk : xs 0 &&& 63 = Int32.ofNat 28) : xt_Goal p l e s m below meth c b := by
  refine xt_call h 28 hk rfl xt_sc7 [] rfl xg_28_ps [xg_28_in] 60 (by decide +kernel) xg_28_all (fun q hq hT => ?_)
  cases (List.mem_singleton.mp hq)
  have a3 := (xt_T1 (hT (1, .retAddr 3, .int (Int32.ofNat 1), false) (by simp [xg_28_in]))).2 rfl
  have b3 := (xt_T1 (hT (1, .int (Int32.ofNat 20), .retAddr 3, false) (by simp [xg_28_in]))).2 rfl
  obtain ⟨n1, hn1, ln1, en1⟩ := xt_num (x := xs 3) (lo := 1) (hi := 20) (by decide) (by decide) a3 b3
  have a4 := (xt_T1 (hT (1, .retAddr 4, .int (Int32.ofNat 0), false) (by simp [xg_28_in]))).2 rfl
  have b4 := (xt_T1 (hT (1, .int (Int32.ofNat 2), .retAddr 4, false) (by simp [xg_28_in]))).2 rfl
  obtain ⟨n2, hn2, ln2, en2⟩ := xt_num (x := xs 4) (lo := 0) (hi := 2) (by decide) (by decide) a4 b4
  exact xt_one h 28 hk rfl (xt_sc_set (xt_sc_set xt_sc7 en1) en2) [(1, .retAddr 2, .int (Int32.ofNat 0), false), (1, .int (Int32.ofNat 16), .retAddr 2, false)] hT (by decide +kernel) (List.all_eq_true.mp (List.all_eq_true.mp (xg_28_n) n1 ((by decide +kernel : ∀ n, n < 21 → 1 ≤ n → n ∈ ([1, 2, 3, 4, 5, 6, 7, 8, 9, 10, 11, 12, 13, 14, 15, 16, 17, 18, 19, 20] : List Nat)) n1 hn1 ln1)) n2 ((by decide +kernel : ∀ n, n < 3 → 0 ≤ n → n ∈ ([0, 1, 2] : List Nat)) n2 hn2 ln2))
end
section
/-! nextRows of no rows: one run, every world -/
def xp_Kd (rem0 : List xr_En) (l0 : xr_L) : xp_Ih := fun rem l st => bif decide (rem = rem0) && (xr_ql l l0 && xr_qs st []) then some none else none
theorem xr_rt_some {ret : Option FieldType} {i : Instr} {st : List Value} (h : ret ≠ none) : xr_rt ret i st ≠ some none := by
  intro q
  unfold xr_rt at q
  split at q
  · split at q
    · exact h rfl
    · cases q
  · split at q
    · simp only [Bool.cond_eq_ite] at q; split at q <;> cases q
    · simp only [Bool.cond_eq_ite] at q; split at q <;> cases q
    · simp only [Bool.cond_eq_ite] at q; split at q <;> cases q
    · cases q
  · split at q
    · simp only [Bool.cond_eq_ite] at q; split at q <;> cases q
    · cases q
  · split at q
    · simp only [Bool.cond_eq_ite] at q; split at q <;> cases q
    · simp only [Bool.cond_eq_ite] at q; split at q <;> cases q
    · cases q
  · cases q
/-- a run that comes to a cut, whatever follows it -/
theorem xp_par {df : xr_D} {fx : xr_F} {M : xr_M} {rem0 : List xr_En} {l0 : xr_L} (hret : M.2.2.2.1 ≠ none) (K : xp_Ih) : ∀ (n : Nat) (rem : List xr_En) (l : xr_L) (st : List Value), xp_lp (xp_Kd rem0 l0) df fx M n rem l st = some none → xp_lp K df fx M n rem l st = K rem0 l0 []
  | 0, rem, l, st, h => by
    have h : xp_Kd rem0 l0 rem l st = some none := h
    unfold xp_Kd at h
    simp only [Bool.cond_eq_ite] at h
    split at h
    · rename_i q
      simp only [Bool.and_eq_true, decide_eq_true_eq] at q
      obtain ⟨rfl, q2, q3⟩ := q
      rw [← xr_ql_ok q2]
      show K rem l st = K rem l []
      rw [xr_qs_ok q3]
    · cases h
  | n + 1, [], l, st, h => by cases h
  | n + 1, e :: r, l, st, h0 => by
    have ih := xp_par (df := df) (fx := fx) (rem0 := rem0) (l0 := l0) hret K n
    have g : ∀ o, xp_g (xp_lp (xp_Kd rem0 l0) df fx M n) o = some none → xp_g (xp_lp K df fx M n) o = K rem0 l0 [] := by
      intro o ho
      cases o with
      | none => cases ho
      | some q => exact ih _ _ _ ho
    have h : xp_st df fx M (xp_lp (xp_Kd rem0 l0) df fx M n) (e :: r) l st = some none := h0
    clear h0
    show xp_st df fx M (xp_lp K df fx M n) (e :: r) l st = _
    unfold xp_st at h ⊢
    simp only at h ⊢
    split at h
    · first | exact g _ h | (rename_i hk; rw [hk]; exact g _ h) | (rename_i hk; simp only [hk]; exact g _ h)
    · first | exact g _ h | (rename_i hk; rw [hk]; exact g _ h) | (rename_i hk; simp only [hk]; exact g _ h)
    · first | exact g _ h | (rename_i hk; rw [hk]; exact g _ h) | (rename_i hk; simp only [hk]; exact g _ h)
    · first | exact g _ h | (rename_i hk; rw [hk]; exact g _ h) | (rename_i hk; simp only [hk]; exact g _ h)
    · first | exact g _ h | (rename_i hk; rw [hk]; exact g _ h) | (rename_i hk; simp only [hk]; exact g _ h)
    · exfalso
      unfold xp_e at h
      cases hr : xr_rt M.2.2.2.1 e.2.1 st with
      | none => rw [hr] at h; cases h
      | some v =>
        rw [hr] at h
        simp only at h
        cases hb : Nat.beq e.2.2.1 1 with
        | false => rw [hb] at h; cases h
        | true =>
          rw [hb] at h
          cases h
          exact xr_rt_some hret hr
    · first | exact g _ h | (rename_i hk; rw [hk]; exact g _ h) | (rename_i hk; simp only [hk]; exact g _ h)
    · cases h
abbrev xn_h : List xr_En := xm_173.2.2.2.2.2.2.drop 4
def xn_l (a : Nat) : xr_L := match a with
  | 0 => [(5, .int (Int32.ofNat 0)), (3, .long 0), (0, .ref 53), (1, .long 0)]
  | a + 1 => [(5, .int (Int32.ofNat (a + 1))), (6, .int (Int32.ofNat 64)), (3, .long 0), (0, .ref 53), (1, .long 0)]
theorem xp_isN_ok {o : Option (Option Value)} (h : xp_isN o = true) : o = some none := by
  unfold xp_isN at h
  split at h
  · rfl
  · cases h
theorem xp_isL_ok {o : Option (Option Value)} (h : xp_isL o = true) : o = some (some (.long 0)) := by
  unfold xp_isL at h
  split at h
  · rw [xr_qv_ok h]
  · cases h
set_option maxRecDepth 100000 in
theorem xn_pre : xp_isN (xp_lp (xp_Kd xn_h (xn_l 0)) [] [] xm_173 4 xm_173.2.2.2.2.2.2 (lv_args 0 [.ref 53, .long 0]) []) = true := by decide +kernel
set_option maxRecDepth 100000 in
theorem xn_end : xp_isL (xp_lp xp_K0 [] [] xm_173 5 xn_h (xn_l 64) []) = true := by decide +kernel
set_option maxRecDepth 100000 in
theorem xn_seg0 : ([0, 1, 2, 3, 4, 5, 6, 7] : List Nat).all (fun a => xp_isN (xp_lp (xp_Kd xn_h (xn_l (a + 1))) [] [] xm_173 1098 xn_h (xn_l a) [])) = true := by decide +kernel
set_option maxRecDepth 100000 in
theorem xn_seg1 : ([8, 9, 10, 11, 12, 13, 14, 15] : List Nat).all (fun a => xp_isN (xp_lp (xp_Kd xn_h (xn_l (a + 1))) [] [] xm_173 1098 xn_h (xn_l a) [])) = true := by decide +kernel
set_option maxRecDepth 100000 in
theorem xn_seg2 : ([16, 17, 18, 19, 20, 21, 22, 23] : List Nat).all (fun a => xp_isN (xp_lp (xp_Kd xn_h (xn_l (a + 1))) [] [] xm_173 1098 xn_h (xn_l a) [])) = true := by decide +kernel
set_option maxRecDepth 100000 in
theorem xn_seg3 : ([24, 25, 26, 27, 28, 29, 30, 31] : List Nat).all (fun a => xp_isN (xp_lp (xp_Kd xn_h (xn_l (a + 1))) [] [] xm_173 1098 xn_h (xn_l a) [])) = true := by decide +kernel
set_option maxRecDepth 100000 in
theorem xn_seg4 : ([32, 33, 34, 35, 36, 37, 38, 39] : List Nat).all (fun a => xp_isN (xp_lp (xp_Kd xn_h (xn_l (a + 1))) [] [] xm_173 1098 xn_h (xn_l a) [])) = true := by decide +kernel
set_option maxRecDepth 100000 in
theorem xn_seg5 : ([40, 41, 42, 43, 44, 45, 46, 47] : List Nat).all (fun a => xp_isN (xp_lp (xp_Kd xn_h (xn_l (a + 1))) [] [] xm_173 1098 xn_h (xn_l a) [])) = true := by decide +kernel
set_option maxRecDepth 100000 in
theorem xn_seg6 : ([48, 49, 50, 51, 52, 53, 54, 55] : List Nat).all (fun a => xp_isN (xp_lp (xp_Kd xn_h (xn_l (a + 1))) [] [] xm_173 1098 xn_h (xn_l a) [])) = true := by decide +kernel
set_option maxRecDepth 100000 in
theorem xn_seg7 : ([56, 57, 58, 59, 60, 61, 62, 63] : List Nat).all (fun a => xp_isN (xp_lp (xp_Kd xn_h (xn_l (a + 1))) [] [] xm_173 1098 xn_h (xn_l a) [])) = true := by decide +kernel
theorem xn_seg (a : Nat) (h : a < 64) : xp_isN (xp_lp (xp_Kd xn_h (xn_l (a + 1))) [] [] xm_173 1098 xn_h (xn_l a) []) = true := by
  have hm : a ∈ ([0, 1, 2, 3, 4, 5, 6, 7] : List Nat) ∨ a ∈ ([8, 9, 10, 11, 12, 13, 14, 15] : List Nat) ∨ a ∈ ([16, 17, 18, 19, 20, 21, 22, 23] : List Nat) ∨ a ∈ ([24, 25, 26, 27, 28, 29, 30, 31] : List Nat) ∨ a ∈ ([32, 33, 34, 35, 36, 37, 38, 39] : List Nat) ∨ a ∈ ([40, 41, 42, 43, 44, 45, 46, 47] : List Nat) ∨ a ∈ ([48, 49, 50, 51, 52, 53, 54, 55] : List Nat) ∨ a ∈ ([56, 57, 58, 59, 60, 61, 62, 63] : List Nat) := (by decide +kernel : ∀ a, a < 64 → a ∈ ([0, 1, 2, 3, 4, 5, 6, 7] : List Nat) ∨ a ∈ ([8, 9, 10, 11, 12, 13, 14, 15] : List Nat) ∨ a ∈ ([16, 17, 18, 19, 20, 21, 22, 23] : List Nat) ∨ a ∈ ([24, 25, 26, 27, 28, 29, 30, 31] : List Nat) ∨ a ∈ ([32, 33, 34, 35, 36, 37, 38, 39] : List Nat) ∨ a ∈ ([40, 41, 42, 43, 44, 45, 46, 47] : List Nat) ∨ a ∈ ([48, 49, 50, 51, 52, 53, 54, 55] : List Nat) ∨ a ∈ ([56, 57, 58, 59, 60, 61, 62, 63] : List Nat)) a h
  rcases hm with hm | hm | hm | hm | hm | hm | hm | hm
  · exact List.all_eq_true.mp xn_seg0 a hm
  · exact List.all_eq_true.mp xn_seg1 a hm
  · exact List.all_eq_true.mp xn_seg2 a hm
  · exact List.all_eq_true.mp xn_seg3 a hm
  · exact List.all_eq_true.mp xn_seg4 a hm
  · exact List.all_eq_true.mp xn_seg5 a hm
  · exact List.all_eq_true.mp xn_seg6 a hm
  · exact List.all_eq_true.mp xn_seg7 a hm
theorem xn_all : ∀ k : Nat, k ≤ 64 → xp_lp xp_K0 [] [] xm_173 (5 + 1098 * k) xn_h (xn_l (64 - k)) [] = some (some (.long 0))
  | 0, _ => xp_isL_ok xn_end
  | k + 1, h => by
    have e : 5 + 1098 * (k + 1) = (5 + 1098 * k) + 1098 := by omega
    have e2 : xn_l (64 - k) = xn_l ((63 - k) + 1) := by congr 1; omega
    rw [e, xp_add, show 64 - (k + 1) = 63 - k from by omega, xp_par (rem0 := xn_h) (l0 := xn_l ((63 - k) + 1)) (by decide) _ 1098 _ _ _ (xp_isN_ok (xn_seg (63 - k) (by omega))), ← e2]
    exact xn_all k (by omega)
theorem xn_run : xp_lp xp_K0 [] [] xm_173 ((5 + 1098 * 64) + 4) xm_173.2.2.2.2.2.2 (lv_args 0 [.ref 53, .long 0]) [] = some (some (.long 0)) := by
  rw [xp_add, xp_par (rem0 := xn_h) (l0 := xn_l 0) (by decide) _ 4 _ _ _ (xp_isN_ok xn_pre)]
  exact xn_all 64 (Nat.le_refl _)
theorem xn_R {n : Nat} (hr : xp_lp xp_K0 [] [] xm_173 n xm_173.2.2.2.2.2.2 (lv_args 0 [.ref 53, .long 0]) [] = some (some (.long 0))) (w : List xr_C) (b : Bool) : xr_R [] [] xr_no xr_mt n 19 173 [.ref 53, .long 0] w b = some (.inl (some (.long 0)), w, b, 0, 0) := by
  have h : xr_nth xr_mt 173 = some xm_173 := by rw [xr_nth_eq]; rfl
  show (match xr_nth xr_mt 173 with
    | some M => bif Nat.ble (lg_sl [Value.ref 53, Value.long 0]).length M.2.2.1 then xr_lp xr_K0 [] [] none xr_mt 18 (xr_R [] [] xr_no xr_mt n 18) M n M.2.2.2.2.2.2 (lv_args 0 [.ref 53, .long 0]) [] w b 0 0 else none
    | none => none) = _
  rw [h]
  exact xp_lp_ok (fun r l st h => by cases h) n _ _ _ hr
def xn_sm : Nat → Nat → List Value → List xr_C → Bool → Option xr_Out := fun d u as w b => bif Nat.beq d 19 && (Nat.beq u 173 && xr_qs as [.ref 53, .long 0]) then some (.inl (some (.long 0)), w, b, 0, 0) else none
section XNS
variable {p : Program} {l : Launch} {e : Env} {s : State} {m : MethodId} {below : List Frame} {meth : Method} {c : Code} {b : Nat} {xs : Nat → Int32} {D : va_G} {cy : Nat → ClassId} {sg : Nat → Nat}
theorem xn_sm_ok {ep : Nat → Int32} {ba : Nat} (hst : l.stackTraces = false) (hmt : ∀ M ∈ xr_mt, xr_Mok xr_mt M = true) (d u : Nat) (as : List Value) (w : List xr_C) (b : Bool) (o : xr_Out) (h : xn_sm d u as w b = some o) : xr_Con l D ep ba sg cy xr_mt d u as w b o := by
  unfold xn_sm at h
  cases hc : (Nat.beq d 19 && (Nat.beq u 173 && xr_qs as [.ref 53, .long 0])) with
  | false => rw [hc] at h; cases h
  | true =>
    rw [hc] at h
    simp only [cond_true, Option.some.injEq] at h
    simp only [Bool.and_eq_true] at hc
    obtain ⟨h1, h2, h3⟩ := hc
    have h1 := Nat.eq_of_beq_eq_true h1
    have h2 := Nat.eq_of_beq_eq_true h2
    have h3 := xr_qs_ok h3
    subst h1 h2 h3 h
    exact xr_R_ok (fun d u as w b o ho => by cases ho) hst (fun d hd => by cases hd) (fun d hd => by cases hd) hmt _ 19 173 _ w b _ (xn_R xn_run w b)
/-- one path, its facts known; some calls by their contracts -/
theorem xt_oneS (h : xt_Ctx p l s m meth c b 7 xs D cy sg) (k : Nat) (hk : xs 0 &&& 63 = Int32.ofNat k) {scr : List Value} (hlen : scr.length = 7) (hsc : xt_sc xs scr) (fx : xr_F) {q : xr_F} (hq : ∀ d ∈ q, xt_T xs d) (hc : xt_clo q fx = true) {sm : Nat → Nat → List Value → List xr_C → Bool → Option xr_Out} (hsm : ∀ d u as w b o, sm d u as w b = some o → xr_Con l D xs s.heap.size sg cy xr_mt d u as w b o) (hrun : xt_go ((5, .retAddr 0, .int 63, .int (Int32.ofNat k)) :: []) fx sm scr = true) : xt_Goal p l e s m below meth c b := by
  refine xt_W h (ep := xs) ?_ (xt_clo_ok hq hc) hsm hlen (fun j v hv => ?_) hrun
  · intro d hd
    rcases List.mem_cons.mp hd with rfl | hd
    · refine ⟨_, _, rfl, rfl, ?_⟩
      show Value.int (Int32.ofNat k) = .int (xs 0 &&& 63)
      rw [hk]
    · cases hd
  · obtain ⟨h3, h4⟩ := hsc j v hv
    rw [xt_iv_ok (xt_lt_I h3), h4]
end XNS
end
section
/-! worlds made small: what is shadowed, or as usual, left out -/
theorem xz_ne {a b : Nat} (h : a ≠ b) : Nat.beq a b = false := Bool.eq_false_iff.mpr (fun z => h (Nat.eq_of_beq_eq_true z))
def xz_del (i : Nat) (l : xr_L) : xr_L := l.filter (fun q => !Nat.beq i q.1)
def xz_in (i : Nat) (v : Value) : xr_L → xr_L
  | [] => [(i, v)]
  | (j, u) :: t => bif Nat.beq i j then (i, v) :: t else bif Nat.blt i j then (i, v) :: (j, u) :: t else (j, u) :: xz_in i v t
def xz_n (d : Value) : xr_L → xr_L
  | [] => []
  | (i, v) :: t => bif xr_qv v d then xz_del i (xz_n d t) else xz_in i v (xz_n d t)
theorem xz_del_at {i : Nat} {d : Value} {j : Nat} : ∀ l : xr_L, xr_at (xz_del i l) j d = bif Nat.beq j i then d else xr_at l j d
  | [] => by cases hji : Nat.beq j i <;> rfl
  | (k, v) :: t => by
    have ih := xz_del_at (i := i) (d := d) (j := j) t
    by_cases hik : i = k
    · subst hik
      have e : xz_del i ((i, v) :: t) = xz_del i t := by simp [xz_del]
      rw [e, ih]
      by_cases hji : j = i
      · subst hji
        rw [Nat.beq_refl]; rfl
      · rw [xz_ne hji]
        show xr_at t j d = bif Nat.beq j i then v else xr_at t j d
        rw [xz_ne hji]; rfl
    · have e : xz_del i ((k, v) :: t) = (k, v) :: xz_del i t := by
        show List.filter _ _ = _
        rw [List.filter_cons_of_pos (by rw [xz_ne hik]; rfl)]; rfl
      rw [e]
      show (bif Nat.beq j k then v else xr_at (xz_del i t) j d) = bif Nat.beq j i then d else (bif Nat.beq j k then v else xr_at t j d)
      rw [ih]
      by_cases hji : j = i
      · subst hji
        rw [xz_ne hik, Nat.beq_refl]; rfl
      · rw [xz_ne hji]; rfl
theorem xz_in_at {i : Nat} {v d : Value} {j : Nat} : ∀ l : xr_L, xr_at (xz_in i v l) j d = bif Nat.beq j i then v else xr_at l j d
  | [] => rfl
  | (k, u) :: t => by
    unfold xz_in
    by_cases hik : i = k
    · subst hik
      rw [Nat.beq_refl, cond_true]
      show (bif Nat.beq j i then v else xr_at t j d) = bif Nat.beq j i then v else (bif Nat.beq j i then u else xr_at t j d)
      cases Nat.beq j i <;> rfl
    · rw [xz_ne hik, cond_false]
      cases hb : Nat.blt i k with
      | true => rfl
      | false =>
        rw [cond_false]
        show (bif Nat.beq j k then u else xr_at (xz_in i v t) j d) = bif Nat.beq j i then v else (bif Nat.beq j k then u else xr_at t j d)
        rw [xz_in_at t]
        by_cases hji : j = i
        · subst hji
          rw [xz_ne hik, Nat.beq_refl]; rfl
        · rw [xz_ne hji]; rfl
theorem xz_n_at {d : Value} {j : Nat} : ∀ l : xr_L, xr_at (xz_n d l) j d = xr_at l j d
  | [] => rfl
  | (i, v) :: t => by
    unfold xz_n
    show _ = bif Nat.beq j i then v else xr_at t j d
    cases hq : xr_qv v d with
    | true =>
      have e := xr_qv_ok hq
      subst e
      rw [cond_true, xz_del_at, xz_n_at t]
    | false => rw [cond_false, xz_in_at, xz_n_at t]
def xz_c (c : xr_C) : xr_C := match c with
  | .inl q => .inl q
  | .inr (2, n, as) => .inr (2, n, xz_n (.long 0) as)
  | .inr (3, n, as) => .inr (3, n, xz_n .null as)
  | .inr (kd, n, as) => .inr (kd, n, xz_n (.int 0) as)
def xz_w (w : List xr_C) : List xr_C := w.map xz_c
-- equal but for the names of unknowns
def xz_mem (a b : Nat) : List (Nat × Nat) → Bool
  | [] => false
  | q :: t => (Nat.beq q.1 a && Nat.beq q.2 b) || xz_mem a b t
theorem xz_mem_ok {a b : Nat} : ∀ {rn : List (Nat × Nat)}, xz_mem a b rn = true → (a, b) ∈ rn
  | [], h => by cases h
  | q :: t, h => by
    simp only [xz_mem, Bool.or_eq_true, Bool.and_eq_true] at h
    rcases h with ⟨h1, h2⟩ | h
    · have : q = (a, b) := Prod.ext (Nat.eq_of_beq_eq_true h1) (Nat.eq_of_beq_eq_true h2)
      rw [this]; exact List.mem_cons_self
    · exact List.mem_cons_of_mem _ (xz_mem_ok h)
def xz_ev (rn : List (Nat × Nat)) (v v0 : Value) : Bool := match v, v0 with
  | .retAddr a, .retAddr b => xz_mem a b rn
  | .int x, .int y => Nat.beq (xr_u x) (xr_u y)
  | .ref x, .ref y => Nat.beq x y
  | .null, .null => true
  | .long x, .long y => decide (x = y)
  | _, _ => false
section XZR
variable {rn : List (Nat × Nat)} {ep ep' : Nat → Int32} {ba : Nat} {sg : Nat → Nat} {cy : Nat → ClassId}
theorem xz_ev_ok (hrn : ∀ q ∈ rn, ep q.1 = ep' q.2) {v v0 : Value} (h : xz_ev rn v v0 = true) : xr_v ep ba sg v = xr_v ep' ba sg v0 := by
  unfold xz_ev at h
  split at h
  · show Value.int _ = Value.int _
    rw [hrn _ (xz_mem_ok h)]
  · rw [xr_u_inj h]; rfl
  · rw [Nat.eq_of_beq_eq_true h]; rfl
  · rfl
  · rw [of_decide_eq_true h]; rfl
  · cases h
def xz_es (rn : List (Nat × Nat)) : List Value → List Value → Bool
  | [], [] => true
  | a :: s, b :: t => xz_ev rn a b && xz_es rn s t
  | _, _ => false
theorem xz_es_ok (hrn : ∀ q ∈ rn, ep q.1 = ep' q.2) {a b : List Value} (h : xz_es rn a b = true) : a.map (xr_v ep ba sg) = b.map (xr_v ep' ba sg) := by
  induction a generalizing b with
  | nil => cases b with
    | nil => rw [List.map_nil, List.map_nil]
    | cons y t => simp [xz_es] at h
  | cons x t ih => cases b with
    | nil => simp [xz_es] at h
    | cons y u =>
      simp only [xz_es, Bool.and_eq_true] at h
      rw [List.map_cons, List.map_cons, xz_ev_ok hrn h.1, ih h.2]
def xz_el (rn : List (Nat × Nat)) : xr_L → xr_L → Bool
  | [], [] => true
  | a :: s, b :: t => Nat.beq a.1 b.1 && (xz_ev rn a.2 b.2 && xz_el rn s t)
  | _, _ => false
theorem xz_el_at (hrn : ∀ q ∈ rn, ep q.1 = ep' q.2) {j : Nat} {d : Value} (hd : xr_v ep ba sg d = xr_v ep' ba sg d) : ∀ {a b : xr_L}, xz_el rn a b = true → xr_v ep ba sg (xr_at a j d) = xr_v ep' ba sg (xr_at b j d)
  | [], [], _ => hd
  | (i, v) :: s, (k, u) :: t, h => by
    simp only [xz_el, Bool.and_eq_true] at h
    have h1 := Nat.eq_of_beq_eq_true h.1
    subst h1
    show xr_v ep ba sg (bif Nat.beq j i then v else xr_at s j d) = xr_v ep' ba sg (bif Nat.beq j i then u else xr_at t j d)
    cases Nat.beq j i with
    | true => exact xz_ev_ok hrn h.2.1
    | false => exact xz_el_at hrn hd h.2.2
  | [], _ :: _, h => by cases h
  | _ :: _, [], h => by cases h
def xz_ec (rn : List (Nat × Nat)) (a b : xr_C) : Bool := match a, b with
  | .inl (ci, fs), .inl (cj, gs) => Nat.beq ci cj && xz_es rn fs gs
  | .inr (kd, n, as), .inr (ke, k, bs) => Nat.beq kd ke && (Nat.beq n k && xz_el rn as bs)
  | _, _ => false
theorem xz_A {kd n : Nat} {as bs : xr_L} (h : ∀ (j : Nat) (d : Value), (d = .long 0 ∨ d = .null ∨ d = .int 0) → (kd = 2 → d = .long 0) → (kd = 3 → d = .null) → (kd ≠ 2 → kd ≠ 3 → d = .int 0) → xr_v ep ba sg (xr_at as j d) = xr_v ep' ba sg (xr_at bs j d)) : xr_A ep ba sg kd n as = xr_A ep' ba sg kd n bs := by
  unfold xr_A
  split
  · have e : (fun j => xr_l (xr_v ep ba sg (xr_at as j (.long 0)))) = (fun j => xr_l (xr_v ep' ba sg (xr_at bs j (.long 0)))) := funext fun j => by rw [h j (.long 0) (Or.inl rfl) (fun _ => rfl) (fun q => by cases q) (fun q => absurd rfl q)]
    rw [e]
  · have e : (fun j => xr_r (xr_v ep ba sg (xr_at as j .null))) = (fun j => xr_r (xr_v ep' ba sg (xr_at bs j .null))) := funext fun j => by rw [h j .null (Or.inr (Or.inl rfl)) (fun q => by cases q) (fun _ => rfl) (fun _ q => absurd rfl q)]
    rw [e]
  · rename_i h2 h3
    have e : (fun j => xr_i (xr_v ep ba sg (xr_at as j (.int 0)))) = (fun j => xr_i (xr_v ep' ba sg (xr_at bs j (.int 0)))) := funext fun j => by rw [h j (.int 0) (Or.inr (Or.inr rfl)) (fun q => absurd q h2) (fun q => absurd q h3) (fun _ _ => rfl)]
    rw [e]
theorem xz_c_ok (c : xr_C) : xr_e ep ba sg cy (xz_c c) = xr_e ep ba sg cy c := by
  unfold xz_c
  split
  · rfl
  · rename_i n as
    have e := xz_A (ep := ep) (ep' := ep) (ba := ba) (sg := sg) (kd := 2) (n := n) (as := xz_n (.long 0) as) (bs := as) (fun j d _ h2 _ _ => by rw [h2 rfl, xz_n_at])
    exact congrArg (fun q => Sum.inl (cy 2, q)) e
  · rename_i n as
    have e := xz_A (ep := ep) (ep' := ep) (ba := ba) (sg := sg) (kd := 3) (n := n) (as := xz_n .null as) (bs := as) (fun j d _ _ h3 _ => by rw [h3 rfl, xz_n_at])
    exact congrArg (fun q => Sum.inl (cy 3, q)) e
  · rename_i kd n as h2 h3
    have e := xz_A (ep := ep) (ep' := ep) (ba := ba) (sg := sg) (kd := kd) (n := n) (as := xz_n (.int 0) as) (bs := as) (fun j d _ _ _ h4 => by rw [h4 (fun q => h2 q) (fun q => h3 q), xz_n_at])
    exact congrArg (fun q => Sum.inl (cy kd, q)) e
theorem xz_w_ok : ∀ (w : List xr_C) (k : Nat), xr_w ep ba sg cy k (xz_w w) = xr_w ep ba sg cy k w
  | [], _ => rfl
  | c :: t, k => by
    show (ba + k, xr_e ep ba sg cy (xz_c c)) :: xr_w ep ba sg cy (k + 1) (xz_w t) = (ba + k, xr_e ep ba sg cy c) :: xr_w ep ba sg cy (k + 1) t
    rw [xz_c_ok, xz_w_ok t]
theorem xz_ec_ok (hrn : ∀ q ∈ rn, ep q.1 = ep' q.2) {a b : xr_C} (h : xz_ec rn a b = true) : xr_e ep ba sg cy a = xr_e ep' ba sg cy b := by
  unfold xz_ec at h
  split at h
  · simp only [Bool.and_eq_true] at h
    show Sum.inr (_, _) = Sum.inr (_, _)
    rw [Nat.eq_of_beq_eq_true h.1, xz_es_ok hrn h.2]
  · simp only [Bool.and_eq_true] at h
    show Sum.inl (_, _) = Sum.inl (_, _)
    rw [Nat.eq_of_beq_eq_true h.1, Nat.eq_of_beq_eq_true h.2.1, xz_A (ep' := ep') (fun j d hd _ _ _ => xz_el_at hrn (by rcases hd with rfl | rfl | rfl <;> rfl) h.2.2)]
  · cases h
def xz_ew (rn : List (Nat × Nat)) : List xr_C → List xr_C → Bool
  | [], [] => true
  | a :: s, b :: t => xz_ec rn a b && xz_ew rn s t
  | _, _ => false
theorem xz_ew_ok (hrn : ∀ q ∈ rn, ep q.1 = ep' q.2) : ∀ {a b : List xr_C} (k : Nat), xz_ew rn a b = true → xr_w ep ba sg cy k a = xr_w ep' ba sg cy k b ∧ a.length = b.length
  | [], [], _, _ => ⟨rfl, rfl⟩
  | a :: s, b :: t, k, h => by
    simp only [xz_ew, Bool.and_eq_true] at h
    obtain ⟨h1, h2⟩ := xz_ew_ok hrn (a := s) (b := t) (k + 1) h.2
    refine ⟨?_, by rw [List.length_cons, List.length_cons, h2]⟩
    show (ba + k, xr_e ep ba sg cy a) :: xr_w ep ba sg cy (k + 1) s = (ba + k, xr_e ep' ba sg cy b) :: xr_w ep' ba sg cy (k + 1) t
    rw [xz_ec_ok hrn h.1, h1]
  | [], _ :: _, _, h => by cases h
  | _ :: _, [], _, h => by cases h
theorem xz_eq (hrn : ∀ q ∈ rn, ep q.1 = ep' q.2) {a b : List xr_C} (h : xz_ew rn (xz_w a) b = true) : xr_w ep ba sg cy 0 a = xr_w ep' ba sg cy 0 b ∧ a.length = b.length := by
  obtain ⟨h1, h2⟩ := xz_ew_ok (ba := ba) (sg := sg) (cy := cy) hrn 0 h
  exact ⟨(xz_w_ok a 0).symm.trans h1, (by rw [xz_w, List.length_map] at h2; exact h2)⟩
/-- the locals that are wanted are there -/
def xz_sub (rn : List (Nat × Nat)) (l l0 : xr_L) : Bool := l0.all (fun q => match xr_get l q.1 with
  | some v => xz_ev rn v q.2
  | none => false)
theorem xz_sub_ok (hrn : ∀ q ∈ rn, ep q.1 = ep' q.2) {l l0 : xr_L} (h : xz_sub rn l l0 = true) {ls : Array Slot} {nL : Nat} (hl : lv_has ls nL (xr_lv ep ba sg l)) : lv_has ls nL (xr_lv ep' ba sg l0) := by
  refine ⟨hl.1, hl.2.1, fun q hq => ?_⟩
  obtain ⟨q0, h0, rfl⟩ := List.mem_map.mp hq
  have h1 := List.all_eq_true.mp h q0 h0
  split at h1
  · rename_i v hv
    show ls[q0.1]? = some (.val (xr_v ep' ba sg q0.2))
    rw [← xz_ev_ok (ba := ba) (sg := sg) hrn h1]
    exact xr_get_ok hl hv
  · cases h1
end XZR
def xz_K (rn : List (Nat × Nat)) (pc0 : Nat) (l0 : xr_L) (w0 : List xr_C) (ce0 sl0 : Nat) : xr_Ih := fun rem l st w b ce sl =>
  bif Nat.beq (xr_pc rem) pc0 && (xz_sub rn l l0 && (xr_qs st [] && (b && (Nat.beq ce ce0 && (Nat.beq sl sl0 && xz_ew rn (xz_w w) w0))))) then some (xr_mark true ce0 sl0) else none
theorem xz_K_ok {rn : List (Nat × Nat)} {pc0 : Nat} {l0 : xr_L} {w0 : List xr_C} {ce0 sl0 : Nat} {rem : List xr_En} {l : xr_L} {st : List Value} {w : List xr_C} {b : Bool} {ce sl : Nat} {o : xr_Out} (h : xz_K rn pc0 l0 w0 ce0 sl0 rem l st w b ce sl = some o) : xr_pc rem = pc0 ∧ xz_sub rn l l0 = true ∧ st = [] ∧ b = true ∧ ce = ce0 ∧ sl = sl0 ∧ xz_ew rn (xz_w w) w0 = true := by
  unfold xz_K at h
  simp only [Bool.cond_eq_ite] at h
  split at h
  · rename_i q
    simp only [Bool.and_eq_true] at q
    exact ⟨Nat.eq_of_beq_eq_true q.1, q.2.1, xr_qs_ok q.2.2.1, q.2.2.2.1, Nat.eq_of_beq_eq_true q.2.2.2.2.1, Nat.eq_of_beq_eq_true q.2.2.2.2.2.1, q.2.2.2.2.2.2⟩
  · cases h
def xz_isO (rn : List (Nat × Nat)) (o : Option xr_Out) (rv : Option Value) (w0 : List xr_C) (ce0 sl0 : Nat) : Bool := match o with
  | some (.inl r, w, b, ce, sl) => xz_es rn r.toList rv.toList && (b && (Nat.beq ce ce0 && (Nat.beq sl sl0 && xz_ew rn (xz_w w) w0)))
  | _ => false
/-! a method's run in pieces -/
def xs_I (D : va_G) (ba : Nat) (s : State) (WW : va_W) (n : Nat) (b : Bool) (ce : Nat) (H : Heap) (locs : List Loc) : Prop := va_P D vwCl WW H ∧ va_S (fun q => ba ≤ q) s.heap H locs ∧ ba + n ≤ H.size ∧ (b = true → s.heap.size + ce = ba + n)
def xs_Q (D : va_G) (ba : Nat) (RV : Option Value) (WO : va_W) (n : Nat) (b : Bool) (dc : Nat) : Array Value → State → Outcome → State → Prop := fun _ st o t =>
  o = .returned RV ∧ va_P D vwCl WO t.heap ∧ ba + n ≤ t.heap.size ∧ (b = true → st.heap.size + dc = ba + n) ∧ xr_Fr ba st t
def xs_G (p : Program) (l : Launch) (e : Env) (R : Room) (s : State) (m : MethodId) (args : Array Value) (below : List Frame) (meth : Method) (c : Code) (D : va_G) (ba nL : Nat) (Q : State → Prop) (ceO slO pc : Nat) (LV : xr_L) (WW : va_W) (n ce sl : Nat) : Prop :=
  (ce ≤ ceO ∧ sl ≤ slO) ∧ ∀ (H : Heap) (locs : List Loc) (ls : Array Slot), xs_I D ba s WW n true ce H locs → lv_has ls nL LV → W p l e R s m args below meth c H locs ce sl Q (F0 m pc ls [])
def xs_B (p : Program) (R : Room) (s : State) (m : MethodId) (args : Array Value) (meth : Method) (c : Code) (D : va_G) (ba : Nat) (sg : Nat → Nat) (cy : Nat → ClassId) (d : Nat) (M : xr_M) : Prop :=
  p.tables.exec = Jvm.exec ∧ c.code = M.2.1 ∧ c.maxLocals = M.2.2.1 ∧ s.vm.findClass M.1.cls = some m.cls ∧ meth.name = M.1.name ∧ (∀ w ∈ xr_tb, w.before args s = true) ∧ va_K D vwCl (xr_ty cy) s ∧ xr_X ba sg s ∧ ba ≤ s.heap.size ∧ c.exceptionTable.toList = tableOf M.2.2.2.2.1 ∧ d + 1 ≤ R.frames ∧ 150 * (d + 1) ≤ R.locals ∧ meth.sig.returnType = M.2.2.2.1 ∧ meth.locks = false
section XSG
variable {p : Program} {l : Launch} {e : Env} {R : Room} {s : State} {m : MethodId} {args : Array Value} {below : List Frame} {meth : Method} {c : Code}
variable {ep ep' : Nat → Int32} {ba : Nat} {sg : Nat → Nat} {cy : Nat → ClassId} {D : va_G} {mt : List xr_M} {d : Nat} {M : xr_M}
set_option maxHeartbeats 1000000 in
/-- a piece that ends at a cut -/
theorem xs_cut (hok : xr_Mok mt M = true) (B : xs_B p R s m args meth c D ba sg cy d M) {df : xr_D} {fx : xr_F} {callf : Nat → List Value → List xr_C → Bool → Option xr_Out} (hD : xr_okD ep ba sg df) (hF : xr_okF ep ba sg fx) (hcall : ∀ u as w b o, callf u as w b = some o → xr_Con l D ep ba sg cy mt d u as w b o) {Q : State → Prop} {ceO slO : Nat} (hRc : ceO ≤ R.cells) (hRs : slO ≤ R.slots) {rn : List (Nat × Nat)} {pc0 : Nat} {l0 : xr_L} {w0 : List xr_C} {ce0 sl0 : Nat} (hrn : ∀ q ∈ rn, ep q.1 = ep' q.2)
    (hG : xs_G p l e R s m args below meth c D ba M.2.2.1 Q ceO slO pc0 (xr_lv ep' ba sg l0) (xr_w ep' ba sg cy 0 w0) w0.length ce0 sl0) {n k : Nat} {lv : xr_L} {w : List xr_C} {ce sl : Nat} (hrun : xr_isM (xr_lp (xz_K rn pc0 l0 w0 ce0 sl0) df fx none mt d callf M n (M.2.2.2.2.2.2.drop k) lv [] w true ce sl) true ce0 sl0 = true) :
    xs_G p l e R s m args below meth c D ba M.2.2.1 Q ceO slO (xr_pc (M.2.2.2.2.2.2.drop k)) (xr_lv ep ba sg lv) (xr_w ep ba sg cy 0 w) w.length ce sl := by
  obtain ⟨hx, hb, hml, hown, hname, hts, hK, hX, hba, hTab, hRf, hRl, hret, hlk⟩ := B
  simp only [xr_Mok, Bool.and_eq_true, decide_eq_true_eq] at hok
  obtain ⟨-, -, hpc0, hcs, hall⟩ := hok
  have hMt : ∀ x ∈ M.2.2.2.2.2.2, xr_chk mt M x = true := List.all_eq_true.mp hall
  obtain ⟨⟨g1, g2⟩, g3⟩ := hG
  have key := xr_lp_ok (Q := Q) (R := R) (e := e) (below := below) (l := l) (out := xr_mark true ce0 sl0) (scr := none) hD hF hcall hMt hcs hx hb hml hown hname hts hK hX hba (fun xs h => by cases h) hTab hRf hRl (Nat.le_trans g1 hRc) (Nat.le_trans g2 hRs) (fun _ _ _ _ _ _ _ _ _ _ _ h => by cases h) (fun t pc st w b ce sl H locs ls h hs => by
        have h1 : 777 = t := by injection h with h1 h2; injection h1
        subst h1
        simp [xr_site] at hs) (fun t pc rest w ce sl H locs ls q cl h => by
        have h1 : true = false := by injection h with h1 h2; injection h2 with h3 h4; injection h4
        cases h1) (fun rem lv st w b ce sl h hmem => by
        obtain ⟨h1, h2, rfl, rfl, rfl, rfl, h7⟩ := xz_K_ok h
        obtain ⟨e1, e2⟩ := xz_eq (ba := ba) (sg := sg) (cy := cy) hrn h7
        refine ⟨⟨fun _ => rfl, Nat.le_refl _, Nat.le_refl _⟩, fun H locs ls hI hl => ?_⟩
        rw [h1]
        refine g3 H locs ls ?_ (xz_sub_ok hrn h2 hl)
        unfold xr_I at hI
        rw [e1, e2] at hI
        exact hI) n _ _ _ _ _ _ _ (xr_isM_ok hrun) (fun _ h => List.mem_of_mem_drop h)
  exact ⟨⟨Nat.le_trans key.1.2.1 g1, Nat.le_trans key.1.2.2 g2⟩, fun H locs ls hI hl => key.2 H locs ls hI hl⟩
set_option maxHeartbeats 1000000 in
/-- a piece that ends the method -/
theorem xs_fin (hok : xr_Mok mt M = true) (B : xs_B p R s m args meth c D ba sg cy d M) {df : xr_D} {fx : xr_F} {callf : Nat → List Value → List xr_C → Bool → Option xr_Out} (hD : xr_okD ep ba sg df) (hF : xr_okF ep ba sg fx) (hcall : ∀ u as w b o, callf u as w b = some o → xr_Con l D ep ba sg cy mt d u as w b o) {ceO slO : Nat} (hRc : ceO ≤ R.cells) (hRs : slO ≤ R.slots) {rn : List (Nat × Nat)} (hrn : ∀ q ∈ rn, ep q.1 = ep' q.2) {rv : Option Value} {wO : List xr_C}
    {n k : Nat} {lv : xr_L} {w : List xr_C} {ce sl : Nat} (hrun : xz_isO rn (xr_lp xr_K0 df fx none mt d callf M n (M.2.2.2.2.2.2.drop k) lv [] w true ce sl) rv wO ceO slO = true) :
    xs_G p l e R s m args below meth c D ba M.2.2.1 (MQ below (xs_Q D ba (rv.map (xr_v ep' ba sg)) (xr_w ep' ba sg cy 0 wO) wO.length true ceO) args s ceO slO (fun q => ba ≤ q)) ceO slO (xr_pc (M.2.2.2.2.2.2.drop k)) (xr_lv ep ba sg lv) (xr_w ep ba sg cy 0 w) w.length ce sl := by
  obtain ⟨hx, hb, hml, hown, hname, hts, hK, hX, hba, hTab, hRf, hRl, hret, hlk⟩ := B
  simp only [xr_Mok, Bool.and_eq_true, decide_eq_true_eq] at hok
  obtain ⟨-, -, hpc0, hcs, hall⟩ := hok
  have hMt : ∀ x ∈ M.2.2.2.2.2.2, xr_chk mt M x = true := List.all_eq_true.mp hall
  generalize ho : xr_lp xr_K0 df fx none mt d callf M n (M.2.2.2.2.2.2.drop k) lv [] w true ce sl = o at hrun
  unfold xz_isO at hrun
  split at hrun
  · rename_i r w' b' ce' sl'
    simp only [Bool.and_eq_true] at hrun
    obtain ⟨h1, h2, h3, h4, h5⟩ := hrun
    subst h2
    have h3 := Nat.eq_of_beq_eq_true h3
    have h4 := Nat.eq_of_beq_eq_true h4
    subst h3 h4
    obtain ⟨e1, e2⟩ := xz_eq (ba := ba) (sg := sg) (cy := cy) hrn h5
    have e3 : rv.map (xr_v ep' ba sg) = r.map (xr_v ep ba sg) := by
      have q := xz_es_ok (ba := ba) (sg := sg) hrn h1
      cases r with
      | none => cases rv with
        | none => rw [Option.map_none, Option.map_none]
        | some v => simp [xz_es] at h1
      | some u => cases rv with
        | none => simp [xz_es] at h1
        | some v =>
          show some _ = some _
          simp only [Option.toList, List.map_cons, List.map_nil, List.cons.injEq, and_true] at q
          rw [q]
    rw [e3, ← e1, ← e2]
    have key := xr_lp_ok (Q := MQ below (xs_Q D ba (r.map (xr_v ep ba sg)) (xr_w ep ba sg cy 0 w') w'.length true ce') args s ce' sl' (fun q => ba ≤ q)) (R := R) (e := e) (below := below) (l := l) (scr := none) hD hF hcall hMt hcs hx hb hml hown hname hts hK hX hba (fun xs h => by cases h) hTab hRf hRl hRc hRs (fun i pc st rv2 w2 b2 ce sl H locs ls ho hrt hd hI => by
        cases ho
        exact xr_end_ok hrt hx hb hret hlk hd hI) (fun t pc st w2 b2 ce sl H locs ls ho => by cases ho) (fun t pc rest w2 ce sl H locs ls q cl ho => by cases ho) (fun _ _ _ _ _ _ _ h => by cases h) n _ _ _ _ _ _ _ ho (fun _ h => List.mem_of_mem_drop h)
    exact ⟨⟨key.1.2.1, key.1.2.2⟩, fun H locs ls hI hl => key.2 H locs ls hI hl⟩
  · cases hrun
set_option maxHeartbeats 1000000 in
/-- the contract out of the pieces -/
theorem xs_con {u : Nat} (hM : mt[u]? = some M) (hok : xr_Mok mt M = true) (hh : M.2.2.2.2.1 = []) {as : List Value} {w wO : List xr_C} {rv : Option Value} {ceO slO : Nat} (hsl : (lg_sl as).length ≤ M.2.2.1)
    (hG : ∀ (p : Program) (e : Env) (R : Room) (s : State) (m : MethodId) (args : Array Value) (below : List Frame) (meth : Method) (c : Code), xs_B p R s m args meth c D ba sg cy d M → ceO ≤ R.cells → slO ≤ R.slots → xs_G p l e R s m args below meth c D ba M.2.2.1 (MQ below (xs_Q D ba (rv.map (xr_v ep ba sg)) (xr_w ep ba sg cy 0 wO) wO.length true ceO) args s ceO slO (fun q => ba ≤ q)) ceO slO (xr_pc (M.2.2.2.2.2.2.drop 0)) (xr_lv ep ba sg (lv_args 0 as)) (xr_w ep ba sg cy 0 w) w.length 0 0) : xr_Con l D ep ba sg cy mt (d + 1) u as w true (.inl rv, wO, true, ceO, slO) := by
  have hpl : plainName M.1.cls = true ∧ xr_pc M.2.2.2.2.2.2 = 0 := by
    simp only [xr_Mok, Bool.and_eq_true, decide_eq_true_eq] at hok
    exact ⟨hok.1, hok.2.2.1⟩
  refine ⟨fun _ => rfl, fun M' hM' => ?_⟩
  cases Option.some.inj (hM.symm.trans hM')
  show Met l M.1 (xr_ws M) (xr_rm (d + 1) ceO slO) (xr_Pc D ep ba sg cy as w true) (xr_Qc D ep ba sg cy rv wO true ceO) ceO slO (fun q => ba ≤ q)
  have hw : xr_ws M = Cond.code M.1 M.2.1 M.2.2.1 M.2.2.2.1 :: xr_tb := by unfold xr_ws; rw [xr_hw_nil hh]
  refine Met.ofW hpl.1 hw (fun p e s m args below meth c s₁ B hml hPc => ?_)
  have hts : ∀ w ∈ xr_tb, w.before args s = true := fun w hw => atoms_spec (ws := xr_ws M) B.pre w (List.mem_cons_of_mem _ hw)
  obtain ⟨ha, hX, hK, hP, hge, hsz⟩ := hPc
  have hba : ba ≤ s.heap.size := by omega
  have g := (hG p e (headSpec (xr_ws M) (xr_rm (d + 1) ceO slO)).room s m args below meth c ⟨B.exec, B.bytes, hml, findClass_of_methodNamed B.named, (name_of_methodNamed B.named B.method).1, hts, hK, hX, hba, (by rw [hh]; exact xr_tabE hw B), Nat.le_refl _, Nat.le_refl _, B.returns, B.notSynchronized⟩ (Nat.le_refl _) (Nat.le_refl _)).2
  have hl := lv_entry (xr_sv ep ba sg as) (n := M.2.2.1) (by rw [xr_sll]; exact hsl)
  rw [xr_args] at hl
  have k := g s.heap [] _ ⟨hP, va_S.rf, hge, fun h => by have := hsz h; omega⟩ hl
  rw [List.drop_zero, hpl.2] at k
  rw [ha, lg_entry_eq]
  rw [ha] at k
  exact k
/-- a contract speaks of what a world holds, not of how it is written -/
theorem xs_con_w {u : Nat} {as : List Value} {w w' : List xr_C} {b : Bool} {o : xr_Out} (e1 : xr_w ep ba sg cy 0 w = xr_w ep ba sg cy 0 w') (e2 : w.length = w'.length) (h : xr_Con l D ep ba sg cy mt d u as w' b o) : xr_Con l D ep ba sg cy mt d u as w b o := by
  have e : xr_Pc D ep ba sg cy as w b = xr_Pc D ep ba sg cy as w' b := by
    unfold xr_Pc
    rw [e1, e2]
  unfold xr_Con at h ⊢
  rw [e]
  exact h
end XSG
end
section
/-! stable, rows, generation: printed by wip/p1/gcalls4.py -/
set_option maxRecDepth 100000 in
theorem xg_22_n : xt_go ((5, .retAddr 0, .int 63, .int (Int32.ofNat 22)) :: []) [] xn_sm xt_v7 = true := by decide +kernel
theorem xg_22 {p : Program} {l : Launch} {e : Env} {s : State} {m : MethodId} {below : List Frame} {meth : Method} {c : Code} {b : Nat} {xs : Nat → Int32} {D : va_G} {cy : Nat → ClassId} {sg : Nat → Nat} (h : xt_Ctx p l s m meth c b 7 xs D cy sg) (hk : xs 0 &&& 63 = Int32.ofNat 22) : xt_Goal p l e s m below meth c b :=
  xt_oneS h 22 hk rfl xt_sc7 [] (q := []) (fun d hd => by cases hd) rfl (xn_sm_ok h.1 h.2.2.2.2.2.2.2.1) xg_22_n
def xg_21_ps : List (xr_F × xr_F) := [([(1, .retAddr 1, .int (Int32.ofNat 0), true)], [(1, .retAddr 1, .int (Int32.ofNat 0), true)]),
  ([(1, .retAddr 1, .int (Int32.ofNat 0), false), (1, .int (Int32.ofNat 64), .retAddr 1, true)], [(1, .retAddr 1, .int (Int32.ofNat 0), false), (1, .int (Int32.ofNat 64), .retAddr 1, true)])]
abbrev xg_21_in : xr_F := [(1, .retAddr 1, .int (Int32.ofNat 0), false), (1, .int (Int32.ofNat 64), .retAddr 1, false)]
set_option maxRecDepth 100000 in
theorem xg_21_all : xg_21_ps.all (fun q => xt_clo q.1 q.2 && xt_go ((5, .retAddr 0, .int 63, .int (Int32.ofNat 21)) :: []) q.2 xr_no xt_v7) = true := by decide +kernel
set_option maxRecDepth 100000 in
theorem xg_21_n0 : (([0, 1, 2, 3, 4, 5, 6, 7, 8] : List Nat).all (fun n1 => xt_go ((5, .retAddr 0, .int 63, .int (Int32.ofNat 21)) :: []) [] xn_sm (xt_v7.set 1 (.int (Int32.ofNat n1))))) = true := by decide +kernel
set_option maxRecDepth 100000 in
theorem xg_21_n1 : (([9, 10, 11, 12, 13, 14, 15, 16, 17] : List Nat).all (fun n1 => xt_go ((5, .retAddr 0, .int 63, .int (Int32.ofNat 21)) :: []) [] xn_sm (xt_v7.set 1 (.int (Int32.ofNat n1))))) = true := by decide +kernel
set_option maxRecDepth 100000 in
theorem xg_21_n2 : (([18, 19, 20, 21, 22, 23, 24, 25, 26] : List Nat).all (fun n1 => xt_go ((5, .retAddr 0, .int 63, .int (Int32.ofNat 21)) :: []) [] xn_sm (xt_v7.set 1 (.int (Int32.ofNat n1))))) = true := by decide +kernel
set_option maxRecDepth 100000 in
theorem xg_21_n3 : (([27, 28, 29, 30, 31, 32, 33, 34, 35] : List Nat).all (fun n1 => xt_go ((5, .retAddr 0, .int 63, .int (Int32.ofNat 21)) :: []) [] xn_sm (xt_v7.set 1 (.int (Int32.ofNat n1))))) = true := by decide +kernel
set_option maxRecDepth 100000 in
theorem xg_21_n4 : (([36, 37, 38, 39, 40, 41, 42, 43, 44] : List Nat).all (fun n1 => xt_go ((5, .retAddr 0, .int 63, .int (Int32.ofNat 21)) :: []) [] xn_sm (xt_v7.set 1 (.int (Int32.ofNat n1))))) = true := by decide +kernel
set_option maxRecDepth 100000 in
theorem xg_21_n5 : (([45, 46, 47, 48, 49, 50, 51, 52, 53] : List Nat).all (fun n1 => xt_go ((5, .retAddr 0, .int 63, .int (Int32.ofNat 21)) :: []) [] xn_sm (xt_v7.set 1 (.int (Int32.ofNat n1))))) = true := by decide +kernel
set_option maxRecDepth 100000 in
theorem xg_21_n6 : (([54, 55, 56, 57, 58, 59, 60, 61, 62] : List Nat).all (fun n1 => xt_go ((5, .retAddr 0, .int 63, .int (Int32.ofNat 21)) :: []) [] xn_sm (xt_v7.set 1 (.int (Int32.ofNat n1))))) = true := by decide +kernel
set_option maxRecDepth 100000 in
theorem xg_21_n7 : (([63, 64] : List Nat).all (fun n1 => xt_go ((5, .retAddr 0, .int 63, .int (Int32.ofNat 21)) :: []) [] xn_sm (xt_v7.set 1 (.int (Int32.ofNat n1))))) = true := by decide +kernel
theorem xg_21_n (n1 : Nat) (h : n1 < 65) : xt_go ((5, .retAddr 0, .int 63, .int (Int32.ofNat 21)) :: []) [] xn_sm (xt_v7.set 1 (.int (Int32.ofNat n1))) = true := by
  have hm : n1 ∈ ([0, 1, 2, 3, 4, 5, 6, 7, 8] : List Nat) ∨ n1 ∈ ([9, 10, 11, 12, 13, 14, 15, 16, 17] : List Nat) ∨ n1 ∈ ([18, 19, 20, 21, 22, 23, 24, 25, 26] : List Nat) ∨ n1 ∈ ([27, 28, 29, 30, 31, 32, 33, 34, 35] : List Nat) ∨ n1 ∈ ([36, 37, 38, 39, 40, 41, 42, 43, 44] : List Nat) ∨ n1 ∈ ([45, 46, 47, 48, 49, 50, 51, 52, 53] : List Nat) ∨ n1 ∈ ([54, 55, 56, 57, 58, 59, 60, 61, 62] : List Nat) ∨ n1 ∈ ([63, 64] : List Nat) := (by decide +kernel : ∀ n1, n1 < 65 → n1 ∈ ([0, 1, 2, 3, 4, 5, 6, 7, 8] : List Nat) ∨ n1 ∈ ([9, 10, 11, 12, 13, 14, 15, 16, 17] : List Nat) ∨ n1 ∈ ([18, 19, 20, 21, 22, 23, 24, 25, 26] : List Nat) ∨ n1 ∈ ([27, 28, 29, 30, 31, 32, 33, 34, 35] : List Nat) ∨ n1 ∈ ([36, 37, 38, 39, 40, 41, 42, 43, 44] : List Nat) ∨ n1 ∈ ([45, 46, 47, 48, 49, 50, 51, 52, 53] : List Nat) ∨ n1 ∈ ([54, 55, 56, 57, 58, 59, 60, 61, 62] : List Nat) ∨ n1 ∈ ([63, 64] : List Nat)) n1 h
  rcases hm with hm | hm | hm | hm | hm | hm | hm | hm
  · exact List.all_eq_true.mp xg_21_n0 n1 hm
  · exact List.all_eq_true.mp xg_21_n1 n1 hm
  · exact List.all_eq_true.mp xg_21_n2 n1 hm
  · exact List.all_eq_true.mp xg_21_n3 n1 hm
  · exact List.all_eq_true.mp xg_21_n4 n1 hm
  · exact List.all_eq_true.mp xg_21_n5 n1 hm
  · exact List.all_eq_true.mp xg_21_n6 n1 hm
  · exact List.all_eq_true.mp xg_21_n7 n1 hm
theorem xg_21 {p : Program} {l : Launch} {e : Env} {s : State} {m : MethodId} {below : List Frame} {meth : Method} {c : Code} {b : Nat} {xs : Nat → Int32} {D : va_G} {cy : Nat → ClassId} {sg : Nat → Nat} (h : xt_Ctx p l s m meth c b 7 xs D cy sg) (hk : xs 0 &&& 63 = Int32.ofNat 21) : xt_Goal p l e s m below meth c b := by
  refine xt_call h 21 hk rfl xt_sc7 [] rfl xg_21_ps [xg_21_in] 60 (by decide +kernel) xg_21_all (fun q hq hT => ?_)
  cases (List.mem_singleton.mp hq)
  have a1 := (xt_T1 (hT (1, .retAddr 1, .int (Int32.ofNat 0), false) (by simp [xg_21_in]))).2 rfl
  have b1 := (xt_T1 (hT (1, .int (Int32.ofNat 64), .retAddr 1, false) (by simp [xg_21_in]))).2 rfl
  obtain ⟨n1, hn1, ln1, en1⟩ := xt_num (x := xs 1) (lo := 0) (hi := 64) (by decide) (by decide) a1 b1
  exact xt_oneS h 21 hk rfl (xt_sc_set xt_sc7 en1) [] hT (by decide +kernel) (xn_sm_ok h.1 h.2.2.2.2.2.2.2.1) (xg_21_n n1 hn1)
def xg_20_ps : List (xr_F × xr_F) := [([(1, .retAddr 1, .int (Int32.ofNat 0), true)], [(1, .retAddr 1, .int (Int32.ofNat 0), true)]),
  ([(1, .retAddr 1, .int (Int32.ofNat 0), false), (1, .int (Int32.ofNat 63), .retAddr 1, true)], [(1, .retAddr 1, .int (Int32.ofNat 0), false), (1, .int (Int32.ofNat 63), .retAddr 1, true)])]
abbrev xg_20_in : xr_F := [(1, .retAddr 1, .int (Int32.ofNat 0), false), (1, .int (Int32.ofNat 63), .retAddr 1, false)]
set_option maxRecDepth 100000 in
theorem xg_20_all : xg_20_ps.all (fun q => xt_clo q.1 q.2 && xt_go ((5, .retAddr 0, .int 63, .int (Int32.ofNat 20)) :: []) q.2 xr_no xt_v7) = true := by decide +kernel
set_option maxRecDepth 100000 in
theorem xg_20_n0 : (([0, 1, 2, 3, 4, 5] : List Nat).all (fun n1 => xt_go ((5, .retAddr 0, .int 63, .int (Int32.ofNat 20)) :: []) [] xn_sm (xt_v7.set 1 (.int (Int32.ofNat n1))))) = true := by decide +kernel
set_option maxRecDepth 100000 in
theorem xg_20_n1 : (([6, 7, 8, 9, 10, 11] : List Nat).all (fun n1 => xt_go ((5, .retAddr 0, .int 63, .int (Int32.ofNat 20)) :: []) [] xn_sm (xt_v7.set 1 (.int (Int32.ofNat n1))))) = true := by decide +kernel
set_option maxRecDepth 100000 in
theorem xg_20_n2 : (([12, 13, 14, 15, 16, 17] : List Nat).all (fun n1 => xt_go ((5, .retAddr 0, .int 63, .int (Int32.ofNat 20)) :: []) [] xn_sm (xt_v7.set 1 (.int (Int32.ofNat n1))))) = true := by decide +kernel
set_option maxRecDepth 100000 in
theorem xg_20_n3 : (([18, 19, 20, 21, 22, 23] : List Nat).all (fun n1 => xt_go ((5, .retAddr 0, .int 63, .int (Int32.ofNat 20)) :: []) [] xn_sm (xt_v7.set 1 (.int (Int32.ofNat n1))))) = true := by decide +kernel
set_option maxRecDepth 100000 in
theorem xg_20_n4 : (([24, 25, 26, 27, 28, 29] : List Nat).all (fun n1 => xt_go ((5, .retAddr 0, .int 63, .int (Int32.ofNat 20)) :: []) [] xn_sm (xt_v7.set 1 (.int (Int32.ofNat n1))))) = true := by decide +kernel
set_option maxRecDepth 100000 in
theorem xg_20_n5 : (([30, 31, 32, 33, 34, 35] : List Nat).all (fun n1 => xt_go ((5, .retAddr 0, .int 63, .int (Int32.ofNat 20)) :: []) [] xn_sm (xt_v7.set 1 (.int (Int32.ofNat n1))))) = true := by decide +kernel
set_option maxRecDepth 100000 in
theorem xg_20_n6 : (([36, 37, 38, 39, 40, 41] : List Nat).all (fun n1 => xt_go ((5, .retAddr 0, .int 63, .int (Int32.ofNat 20)) :: []) [] xn_sm (xt_v7.set 1 (.int (Int32.ofNat n1))))) = true := by decide +kernel
set_option maxRecDepth 100000 in
theorem xg_20_n7 : (([42, 43, 44, 45, 46, 47] : List Nat).all (fun n1 => xt_go ((5, .retAddr 0, .int 63, .int (Int32.ofNat 20)) :: []) [] xn_sm (xt_v7.set 1 (.int (Int32.ofNat n1))))) = true := by decide +kernel
set_option maxRecDepth 100000 in
theorem xg_20_n8 : (([48, 49, 50, 51, 52, 53] : List Nat).all (fun n1 => xt_go ((5, .retAddr 0, .int 63, .int (Int32.ofNat 20)) :: []) [] xn_sm (xt_v7.set 1 (.int (Int32.ofNat n1))))) = true := by decide +kernel
set_option maxRecDepth 100000 in
theorem xg_20_n9 : (([54, 55, 56, 57, 58, 59] : List Nat).all (fun n1 => xt_go ((5, .retAddr 0, .int 63, .int (Int32.ofNat 20)) :: []) [] xn_sm (xt_v7.set 1 (.int (Int32.ofNat n1))))) = true := by decide +kernel
set_option maxRecDepth 100000 in
theorem xg_20_n10 : (([60, 61, 62, 63] : List Nat).all (fun n1 => xt_go ((5, .retAddr 0, .int 63, .int (Int32.ofNat 20)) :: []) [] xn_sm (xt_v7.set 1 (.int (Int32.ofNat n1))))) = true := by decide +kernel
theorem xg_20_n (n1 : Nat) (h : n1 < 64) : xt_go ((5, .retAddr 0, .int 63, .int (Int32.ofNat 20)) :: []) [] xn_sm (xt_v7.set 1 (.int (Int32.ofNat n1))) = true := by
  have hm : n1 ∈ ([0, 1, 2, 3, 4, 5] : List Nat) ∨ n1 ∈ ([6, 7, 8, 9, 10, 11] : List Nat) ∨ n1 ∈ ([12, 13, 14, 15, 16, 17] : List Nat) ∨ n1 ∈ ([18, 19, 20, 21, 22, 23] : List Nat) ∨ n1 ∈ ([24, 25, 26, 27, 28, 29] : List Nat) ∨ n1 ∈ ([30, 31, 32, 33, 34, 35] : List Nat) ∨ n1 ∈ ([36, 37, 38, 39, 40, 41] : List Nat) ∨ n1 ∈ ([42, 43, 44, 45, 46, 47] : List Nat) ∨ n1 ∈ ([48, 49, 50, 51, 52, 53] : List Nat) ∨ n1 ∈ ([54, 55, 56, 57, 58, 59] : List Nat) ∨ n1 ∈ ([60, 61, 62, 63] : List Nat) := (by decide +kernel : ∀ n1, n1 < 64 → n1 ∈ ([0, 1, 2, 3, 4, 5] : List Nat) ∨ n1 ∈ ([6, 7, 8, 9, 10, 11] : List Nat) ∨ n1 ∈ ([12, 13, 14, 15, 16, 17] : List Nat) ∨ n1 ∈ ([18, 19, 20, 21, 22, 23] : List Nat) ∨ n1 ∈ ([24, 25, 26, 27, 28, 29] : List Nat) ∨ n1 ∈ ([30, 31, 32, 33, 34, 35] : List Nat) ∨ n1 ∈ ([36, 37, 38, 39, 40, 41] : List Nat) ∨ n1 ∈ ([42, 43, 44, 45, 46, 47] : List Nat) ∨ n1 ∈ ([48, 49, 50, 51, 52, 53] : List Nat) ∨ n1 ∈ ([54, 55, 56, 57, 58, 59] : List Nat) ∨ n1 ∈ ([60, 61, 62, 63] : List Nat)) n1 h
  rcases hm with hm | hm | hm | hm | hm | hm | hm | hm | hm | hm | hm
  · exact List.all_eq_true.mp xg_20_n0 n1 hm
  · exact List.all_eq_true.mp xg_20_n1 n1 hm
  · exact List.all_eq_true.mp xg_20_n2 n1 hm
  · exact List.all_eq_true.mp xg_20_n3 n1 hm
  · exact List.all_eq_true.mp xg_20_n4 n1 hm
  · exact List.all_eq_true.mp xg_20_n5 n1 hm
  · exact List.all_eq_true.mp xg_20_n6 n1 hm
  · exact List.all_eq_true.mp xg_20_n7 n1 hm
  · exact List.all_eq_true.mp xg_20_n8 n1 hm
  · exact List.all_eq_true.mp xg_20_n9 n1 hm
  · exact List.all_eq_true.mp xg_20_n10 n1 hm
theorem xg_20 {p : Program} {l : Launch} {e : Env} {s : State} {m : MethodId} {below : List Frame} {meth : Method} {c : Code} {b : Nat} {xs : Nat → Int32} {D : va_G} {cy : Nat → ClassId} {sg : Nat → Nat} (h : xt_Ctx p l s m meth c b 7 xs D cy sg) (hk : xs 0 &&& 63 = Int32.ofNat 20) : xt_Goal p l e s m below meth c b := by
  refine xt_call h 20 hk rfl xt_sc7 [] rfl xg_20_ps [xg_20_in] 60 (by decide +kernel) xg_20_all (fun q hq hT => ?_)
  cases (List.mem_singleton.mp hq)
  have a1 := (xt_T1 (hT (1, .retAddr 1, .int (Int32.ofNat 0), false) (by simp [xg_20_in]))).2 rfl
  have b1 := (xt_T1 (hT (1, .int (Int32.ofNat 63), .retAddr 1, false) (by simp [xg_20_in]))).2 rfl
  obtain ⟨n1, hn1, ln1, en1⟩ := xt_num (x := xs 1) (lo := 0) (hi := 63) (by decide) (by decide) a1 b1
  exact xt_oneS h 20 hk rfl (xt_sc_set xt_sc7 en1) [] hT (by decide +kernel) (xn_sm_ok h.1 h.2.2.2.2.2.2.2.1) (xg_20_n n1 hn1)
end
section
/-! the tables: every method that is reached is as its bytecode says: printed by wip/p1/gtab.py -/
set_option maxRecDepth 100000 in
theorem xk_0 : xr_Mok xr_mt xm_0 = true := by decide +kernel
set_option maxRecDepth 100000 in
theorem xk_1 : xr_Mok xr_mt xm_1 = true := by decide +kernel
set_option maxRecDepth 100000 in
theorem xk_2 : xr_Mok xr_mt xm_2 = true := by decide +kernel
set_option maxRecDepth 100000 in
theorem xk_3 : xr_Mok xr_mt xm_3 = true := by decide +kernel
set_option maxRecDepth 100000 in
theorem xk_4 : xr_Mok xr_mt xm_4 = true := by decide +kernel
set_option maxRecDepth 100000 in
theorem xk_5 : xr_Mok xr_mt xm_5 = true := by decide +kernel
set_option maxRecDepth 100000 in
theorem xk_6 : xr_Mok xr_mt xm_6 = true := by decide +kernel
set_option maxRecDepth 100000 in
theorem xk_7 : xr_Mok xr_mt xm_7 = true := by decide +kernel
set_option maxRecDepth 100000 in
theorem xk_8 : xr_Mok xr_mt xm_8 = true := by decide +kernel
set_option maxRecDepth 100000 in
theorem xk_9 : xr_Mok xr_mt xm_9 = true := by decide +kernel
set_option maxRecDepth 100000 in
theorem xk_10 : xr_Mok xr_mt xm_10 = true := by decide +kernel
set_option maxRecDepth 100000 in
theorem xk_11 : xr_Mok xr_mt xm_11 = true := by decide +kernel
set_option maxRecDepth 100000 in
theorem xk_12 : xr_Mok xr_mt xm_12 = true := by decide +kernel
set_option maxRecDepth 100000 in
theorem xk_13 : xr_Mok xr_mt xm_13 = true := by decide +kernel
set_option maxRecDepth 100000 in
theorem xk_14 : xr_Mok xr_mt xm_14 = true := by decide +kernel
set_option maxRecDepth 100000 in
theorem xk_15 : xr_Mok xr_mt xm_15 = true := by decide +kernel
set_option maxRecDepth 100000 in
theorem xk_16 : xr_Mok xr_mt xm_16 = true := by decide +kernel
set_option maxRecDepth 100000 in
theorem xk_17 : xr_Mok xr_mt xm_17 = true := by decide +kernel
set_option maxRecDepth 100000 in
theorem xk_18 : xr_Mok xr_mt xm_18 = true := by decide +kernel
set_option maxRecDepth 100000 in
theorem xk_19 : xr_Mok xr_mt xm_19 = true := by decide +kernel
set_option maxRecDepth 100000 in
theorem xk_20 : xr_Mok xr_mt xm_20 = true := by decide +kernel
set_option maxRecDepth 100000 in
theorem xk_21 : xr_Mok xr_mt xm_21 = true := by decide +kernel
set_option maxRecDepth 100000 in
theorem xk_22 : xr_Mok xr_mt xm_22 = true := by decide +kernel
set_option maxRecDepth 100000 in
theorem xk_23 : xr_Mok xr_mt xm_23 = true := by decide +kernel
set_option maxRecDepth 100000 in
theorem xk_24 : xr_Mok xr_mt xm_24 = true := by decide +kernel
set_option maxRecDepth 100000 in
theorem xk_25 : xr_Mok xr_mt xm_25 = true := by decide +kernel
set_option maxRecDepth 100000 in
theorem xk_26 : xr_Mok xr_mt xm_26 = true := by decide +kernel
set_option maxRecDepth 100000 in
theorem xk_27 : xr_Mok xr_mt xm_27 = true := by decide +kernel
set_option maxRecDepth 100000 in
theorem xk_28 : xr_Mok xr_mt xm_28 = true := by decide +kernel
set_option maxRecDepth 100000 in
theorem xk_29 : xr_Mok xr_mt xm_29 = true := by decide +kernel
set_option maxRecDepth 100000 in
theorem xk_30 : xr_Mok xr_mt xm_30 = true := by decide +kernel
set_option maxRecDepth 100000 in
theorem xk_31 : xr_Mok xr_mt xm_31 = true := by decide +kernel
set_option maxRecDepth 100000 in
theorem xk_32 : xr_Mok xr_mt xm_32 = true := by decide +kernel
set_option maxRecDepth 100000 in
theorem xk_33 : xr_Mok xr_mt xm_33 = true := by decide +kernel
set_option maxRecDepth 100000 in
theorem xk_34 : xr_Mok xr_mt xm_34 = true := by decide +kernel
end
section
/-! the tables: every method that is reached is as its bytecode says: printed by wip/p1/gtab.py -/
set_option maxRecDepth 100000 in
theorem xk_35 : xr_Mok xr_mt xm_35 = true := by decide +kernel
set_option maxRecDepth 100000 in
theorem xk_36 : xr_Mok xr_mt xm_36 = true := by decide +kernel
set_option maxRecDepth 100000 in
theorem xk_37 : xr_Mok xr_mt xm_37 = true := by decide +kernel
set_option maxRecDepth 100000 in
theorem xk_38 : xr_Mok xr_mt xm_38 = true := by decide +kernel
set_option maxRecDepth 100000 in
theorem xk_39 : xr_Mok xr_mt xm_39 = true := by decide +kernel
set_option maxRecDepth 100000 in
theorem xk_40 : xr_Mok xr_mt xm_40 = true := by decide +kernel
set_option maxRecDepth 100000 in
theorem xk_41 : xr_Mok xr_mt xm_41 = true := by decide +kernel
set_option maxRecDepth 100000 in
theorem xk_42 : xr_Mok xr_mt xm_42 = true := by decide +kernel
set_option maxRecDepth 100000 in
theorem xk_43 : xr_Mok xr_mt xm_43 = true := by decide +kernel
set_option maxRecDepth 100000 in
theorem xk_44 : xr_Mok xr_mt xm_44 = true := by decide +kernel
set_option maxRecDepth 100000 in
theorem xk_45 : xr_Mok xr_mt xm_45 = true := by decide +kernel
set_option maxRecDepth 100000 in
theorem xk_46 : xr_Mok xr_mt xm_46 = true := by decide +kernel
set_option maxRecDepth 100000 in
theorem xk_47 : xr_Mok xr_mt xm_47 = true := by decide +kernel
set_option maxRecDepth 100000 in
theorem xk_48 : xr_Mok xr_mt xm_48 = true := by decide +kernel
set_option maxRecDepth 100000 in
theorem xk_49 : xr_Mok xr_mt xm_49 = true := by decide +kernel
set_option maxRecDepth 100000 in
theorem xk_50 : xr_Mok xr_mt xm_50 = true := by decide +kernel
set_option maxRecDepth 100000 in
theorem xk_51 : xr_Mok xr_mt xm_51 = true := by decide +kernel
set_option maxRecDepth 100000 in
theorem xk_52 : xr_Mok xr_mt xm_52 = true := by decide +kernel
set_option maxRecDepth 100000 in
theorem xk_53 : xr_Mok xr_mt xm_53 = true := by decide +kernel
set_option maxRecDepth 100000 in
theorem xk_54 : xr_Mok xr_mt xm_54 = true := by decide +kernel
set_option maxRecDepth 100000 in
theorem xk_55 : xr_Mok xr_mt xm_55 = true := by decide +kernel
set_option maxRecDepth 100000 in
theorem xk_56 : xr_Mok xr_mt xm_56 = true := by decide +kernel
set_option maxRecDepth 100000 in
theorem xk_57 : xr_Mok xr_mt xm_57 = true := by decide +kernel
set_option maxRecDepth 100000 in
theorem xk_58 : xr_Mok xr_mt xm_58 = true := by decide +kernel
set_option maxRecDepth 100000 in
theorem xk_59 : xr_Mok xr_mt xm_59 = true := by decide +kernel
set_option maxRecDepth 100000 in
theorem xk_60 : xr_Mok xr_mt xm_60 = true := by decide +kernel
set_option maxRecDepth 100000 in
theorem xk_61 : xr_Mok xr_mt xm_61 = true := by decide +kernel
set_option maxRecDepth 100000 in
theorem xk_62 : xr_Mok xr_mt xm_62 = true := by decide +kernel
set_option maxRecDepth 100000 in
theorem xk_63 : xr_Mok xr_mt xm_63 = true := by decide +kernel
set_option maxRecDepth 100000 in
theorem xk_64 : xr_Mok xr_mt xm_64 = true := by decide +kernel
set_option maxRecDepth 100000 in
theorem xk_65 : xr_Mok xr_mt xm_65 = true := by decide +kernel
set_option maxRecDepth 100000 in
theorem xk_66 : xr_Mok xr_mt xm_66 = true := by decide +kernel
set_option maxRecDepth 100000 in
theorem xk_67 : xr_Mok xr_mt xm_67 = true := by decide +kernel
set_option maxRecDepth 100000 in
theorem xk_68 : xr_Mok xr_mt xm_68 = true := by decide +kernel
set_option maxRecDepth 100000 in
theorem xk_69 : xr_Mok xr_mt xm_69 = true := by decide +kernel
end
section
/-! the tables: every method that is reached is as its bytecode says: printed by wip/p1/gtab.py -/
set_option maxRecDepth 100000 in
theorem xk_70 : xr_Mok xr_mt xm_70 = true := by decide +kernel
set_option maxRecDepth 100000 in
theorem xk_71 : xr_Mok xr_mt xm_71 = true := by decide +kernel
set_option maxRecDepth 100000 in
theorem xk_72 : xr_Mok xr_mt xm_72 = true := by decide +kernel
set_option maxRecDepth 100000 in
theorem xk_73 : xr_Mok xr_mt xm_73 = true := by decide +kernel
set_option maxRecDepth 100000 in
theorem xk_74 : xr_Mok xr_mt xm_74 = true := by decide +kernel
set_option maxRecDepth 100000 in
theorem xk_75 : xr_Mok xr_mt xm_75 = true := by decide +kernel
set_option maxRecDepth 100000 in
theorem xk_76 : xr_Mok xr_mt xm_76 = true := by decide +kernel
set_option maxRecDepth 100000 in
theorem xk_77 : xr_Mok xr_mt xm_77 = true := by decide +kernel
set_option maxRecDepth 100000 in
theorem xk_78 : xr_Mok xr_mt xm_78 = true := by decide +kernel
set_option maxRecDepth 100000 in
theorem xk_79 : xr_Mok xr_mt xm_79 = true := by decide +kernel
set_option maxRecDepth 100000 in
theorem xk_80 : xr_Mok xr_mt xm_80 = true := by decide +kernel
set_option maxRecDepth 100000 in
theorem xk_81 : xr_Mok xr_mt xm_81 = true := by decide +kernel
set_option maxRecDepth 100000 in
theorem xk_82 : xr_Mok xr_mt xm_82 = true := by decide +kernel
set_option maxRecDepth 100000 in
theorem xk_83 : xr_Mok xr_mt xm_83 = true := by decide +kernel
set_option maxRecDepth 100000 in
theorem xk_84 : xr_Mok xr_mt xm_84 = true := by decide +kernel
set_option maxRecDepth 100000 in
theorem xk_85 : xr_Mok xr_mt xm_85 = true := by decide +kernel
set_option maxRecDepth 100000 in
theorem xk_86 : xr_Mok xr_mt xm_86 = true := by decide +kernel
set_option maxRecDepth 100000 in
theorem xk_87 : xr_Mok xr_mt xm_87 = true := by decide +kernel
set_option maxRecDepth 100000 in
theorem xk_88 : xr_Mok xr_mt xm_88 = true := by decide +kernel
set_option maxRecDepth 100000 in
theorem xk_89 : xr_Mok xr_mt xm_89 = true := by decide +kernel
set_option maxRecDepth 100000 in
theorem xk_90 : xr_Mok xr_mt xm_90 = true := by decide +kernel
set_option maxRecDepth 100000 in
theorem xk_91 : xr_Mok xr_mt xm_91 = true := by decide +kernel
set_option maxRecDepth 100000 in
theorem xk_92 : xr_Mok xr_mt xm_92 = true := by decide +kernel
set_option maxRecDepth 100000 in
theorem xk_93 : xr_Mok xr_mt xm_93 = true := by decide +kernel
set_option maxRecDepth 100000 in
theorem xk_94 : xr_Mok xr_mt xm_94 = true := by decide +kernel
set_option maxRecDepth 100000 in
theorem xk_95 : xr_Mok xr_mt xm_95 = true := by decide +kernel
set_option maxRecDepth 100000 in
theorem xk_96 : xr_Mok xr_mt xm_96 = true := by decide +kernel
set_option maxRecDepth 100000 in
theorem xk_97 : xr_Mok xr_mt xm_97 = true := by decide +kernel
set_option maxRecDepth 100000 in
theorem xk_98 : xr_Mok xr_mt xm_98 = true := by decide +kernel
set_option maxRecDepth 100000 in
theorem xk_99 : xr_Mok xr_mt xm_99 = true := by decide +kernel
set_option maxRecDepth 100000 in
theorem xk_100 : xr_Mok xr_mt xm_100 = true := by decide +kernel
set_option maxRecDepth 100000 in
theorem xk_101 : xr_Mok xr_mt xm_101 = true := by decide +kernel
set_option maxRecDepth 100000 in
theorem xk_102 : xr_Mok xr_mt xm_102 = true := by decide +kernel
set_option maxRecDepth 100000 in
theorem xk_103 : xr_Mok xr_mt xm_103 = true := by decide +kernel
set_option maxRecDepth 100000 in
theorem xk_104 : xr_Mok xr_mt xm_104 = true := by decide +kernel
end
section
/-! the tables: every method that is reached is as its bytecode says: printed by wip/p1/gtab.py -/
set_option maxRecDepth 100000 in
theorem xk_105 : xr_Mok xr_mt xm_105 = true := by decide +kernel
set_option maxRecDepth 100000 in
theorem xk_106 : xr_Mok xr_mt xm_106 = true := by decide +kernel
set_option maxRecDepth 100000 in
theorem xk_107 : xr_Mok xr_mt xm_107 = true := by decide +kernel
set_option maxRecDepth 100000 in
theorem xk_108 : xr_Mok xr_mt xm_108 = true := by decide +kernel
set_option maxRecDepth 100000 in
theorem xk_109 : xr_Mok xr_mt xm_109 = true := by decide +kernel
set_option maxRecDepth 100000 in
theorem xk_110 : xr_Mok xr_mt xm_110 = true := by decide +kernel
set_option maxRecDepth 100000 in
theorem xk_111 : xr_Mok xr_mt xm_111 = true := by decide +kernel
set_option maxRecDepth 100000 in
theorem xk_112 : xr_Mok xr_mt xm_112 = true := by decide +kernel
set_option maxRecDepth 100000 in
theorem xk_113 : xr_Mok xr_mt xm_113 = true := by decide +kernel
set_option maxRecDepth 100000 in
theorem xk_114 : xr_Mok xr_mt xm_114 = true := by decide +kernel
set_option maxRecDepth 100000 in
theorem xk_115 : xr_Mok xr_mt xm_115 = true := by decide +kernel
set_option maxRecDepth 100000 in
theorem xk_116 : xr_Mok xr_mt xm_116 = true := by decide +kernel
set_option maxRecDepth 100000 in
theorem xk_117 : xr_Mok xr_mt xm_117 = true := by decide +kernel
set_option maxRecDepth 100000 in
theorem xk_118 : xr_Mok xr_mt xm_118 = true := by decide +kernel
set_option maxRecDepth 100000 in
theorem xk_119 : xr_Mok xr_mt xm_119 = true := by decide +kernel
set_option maxRecDepth 100000 in
theorem xk_120 : xr_Mok xr_mt xm_120 = true := by decide +kernel
set_option maxRecDepth 100000 in
theorem xk_121 : xr_Mok xr_mt xm_121 = true := by decide +kernel
set_option maxRecDepth 100000 in
theorem xk_122 : xr_Mok xr_mt xm_122 = true := by decide +kernel
set_option maxRecDepth 100000 in
theorem xk_123 : xr_Mok xr_mt xm_123 = true := by decide +kernel
set_option maxRecDepth 100000 in
theorem xk_124 : xr_Mok xr_mt xm_124 = true := by decide +kernel
set_option maxRecDepth 100000 in
theorem xk_125 : xr_Mok xr_mt xm_125 = true := by decide +kernel
set_option maxRecDepth 100000 in
theorem xk_126 : xr_Mok xr_mt xm_126 = true := by decide +kernel
set_option maxRecDepth 100000 in
theorem xk_127 : xr_Mok xr_mt xm_127 = true := by decide +kernel
set_option maxRecDepth 100000 in
theorem xk_128 : xr_Mok xr_mt xm_128 = true := by decide +kernel
set_option maxRecDepth 100000 in
theorem xk_129 : xr_Mok xr_mt xm_129 = true := by decide +kernel
set_option maxRecDepth 100000 in
theorem xk_130 : xr_Mok xr_mt xm_130 = true := by decide +kernel
set_option maxRecDepth 100000 in
theorem xk_131 : xr_Mok xr_mt xm_131 = true := by decide +kernel
set_option maxRecDepth 100000 in
theorem xk_132 : xr_Mok xr_mt xm_132 = true := by decide +kernel
set_option maxRecDepth 100000 in
theorem xk_133 : xr_Mok xr_mt xm_133 = true := by decide +kernel
set_option maxRecDepth 100000 in
theorem xk_134 : xr_Mok xr_mt xm_134 = true := by decide +kernel
set_option maxRecDepth 100000 in
theorem xk_135 : xr_Mok xr_mt xm_135 = true := by decide +kernel
set_option maxRecDepth 100000 in
theorem xk_136 : xr_Mok xr_mt xm_136 = true := by decide +kernel
set_option maxRecDepth 100000 in
theorem xk_137 : xr_Mok xr_mt xm_137 = true := by decide +kernel
set_option maxRecDepth 100000 in
theorem xk_138 : xr_Mok xr_mt xm_138 = true := by decide +kernel
set_option maxRecDepth 100000 in
theorem xk_139 : xr_Mok xr_mt xm_139 = true := by decide +kernel
end
section
/-! the tables: every method that is reached is as its bytecode says: printed by wip/p1/gtab.py -/
set_option maxRecDepth 100000 in
theorem xk_140 : xr_Mok xr_mt xm_140 = true := by decide +kernel
set_option maxRecDepth 100000 in
theorem xk_141 : xr_Mok xr_mt xm_141 = true := by decide +kernel
set_option maxRecDepth 100000 in
theorem xk_142 : xr_Mok xr_mt xm_142 = true := by decide +kernel
set_option maxRecDepth 100000 in
theorem xk_143 : xr_Mok xr_mt xm_143 = true := by decide +kernel
set_option maxRecDepth 100000 in
theorem xk_144 : xr_Mok xr_mt xm_144 = true := by decide +kernel
set_option maxRecDepth 100000 in
theorem xk_145 : xr_Mok xr_mt xm_145 = true := by decide +kernel
set_option maxRecDepth 100000 in
theorem xk_146 : xr_Mok xr_mt xm_146 = true := by decide +kernel
set_option maxRecDepth 100000 in
theorem xk_147 : xr_Mok xr_mt xm_147 = true := by decide +kernel
set_option maxRecDepth 100000 in
theorem xk_148 : xr_Mok xr_mt xm_148 = true := by decide +kernel
set_option maxRecDepth 100000 in
theorem xk_149 : xr_Mok xr_mt xm_149 = true := by decide +kernel
set_option maxRecDepth 100000 in
theorem xk_150 : xr_Mok xr_mt xm_150 = true := by decide +kernel
set_option maxRecDepth 100000 in
theorem xk_151 : xr_Mok xr_mt xm_151 = true := by decide +kernel
set_option maxRecDepth 100000 in
theorem xk_152 : xr_Mok xr_mt xm_152 = true := by decide +kernel
set_option maxRecDepth 100000 in
theorem xk_153 : xr_Mok xr_mt xm_153 = true := by decide +kernel
set_option maxRecDepth 100000 in
theorem xk_154 : xr_Mok xr_mt xm_154 = true := by decide +kernel
set_option maxRecDepth 100000 in
theorem xk_155 : xr_Mok xr_mt xm_155 = true := by decide +kernel
set_option maxRecDepth 100000 in
theorem xk_156 : xr_Mok xr_mt xm_156 = true := by decide +kernel
set_option maxRecDepth 100000 in
theorem xk_157 : xr_Mok xr_mt xm_157 = true := by decide +kernel
set_option maxRecDepth 100000 in
theorem xk_158 : xr_Mok xr_mt xm_158 = true := by decide +kernel
set_option maxRecDepth 100000 in
theorem xk_159 : xr_Mok xr_mt xm_159 = true := by decide +kernel
set_option maxRecDepth 100000 in
theorem xk_160 : xr_Mok xr_mt xm_160 = true := by decide +kernel
set_option maxRecDepth 100000 in
theorem xk_161 : xr_Mok xr_mt xm_161 = true := by decide +kernel
set_option maxRecDepth 100000 in
theorem xk_162 : xr_Mok xr_mt xm_162 = true := by decide +kernel
set_option maxRecDepth 100000 in
theorem xk_163 : xr_Mok xr_mt xm_163 = true := by decide +kernel
set_option maxRecDepth 100000 in
theorem xk_164 : xr_Mok xr_mt xm_164 = true := by decide +kernel
set_option maxRecDepth 100000 in
theorem xk_165 : xr_Mok xr_mt xm_165 = true := by decide +kernel
set_option maxRecDepth 100000 in
theorem xk_166 : xr_Mok xr_mt xm_166 = true := by decide +kernel
set_option maxRecDepth 100000 in
theorem xk_167 : xr_Mok xr_mt xm_167 = true := by decide +kernel
set_option maxRecDepth 100000 in
theorem xk_168 : xr_Mok xr_mt xm_168 = true := by decide +kernel
set_option maxRecDepth 100000 in
theorem xk_169 : xr_Mok xr_mt xm_169 = true := by decide +kernel
set_option maxRecDepth 100000 in
theorem xk_170 : xr_Mok xr_mt xm_170 = true := by decide +kernel
set_option maxRecDepth 100000 in
theorem xk_171 : xr_Mok xr_mt xm_171 = true := by decide +kernel
set_option maxRecDepth 100000 in
theorem xk_172 : xr_Mok xr_mt xm_172 = true := by decide +kernel
set_option maxRecDepth 100000 in
theorem xk_173 : xr_Mok xr_mt xm_173 = true := by decide +kernel
set_option maxRecDepth 100000 in
theorem xk_174 : xr_Mok xr_mt xm_174 = true := by decide +kernel
end
section
/-! the tables: every method that is reached is as its bytecode says: printed by wip/p1/gtab.py -/
set_option maxRecDepth 100000 in
theorem xk_175 : xr_Mok xr_mt xm_175 = true := by decide +kernel
set_option maxRecDepth 100000 in
theorem xk_176 : xr_Mok xr_mt xm_176 = true := by decide +kernel
set_option maxRecDepth 100000 in
theorem xk_177 : xr_Mok xr_mt xm_177 = true := by decide +kernel
set_option maxRecDepth 100000 in
theorem xk_178 : xr_Mok xr_mt xm_178 = true := by decide +kernel
set_option maxRecDepth 100000 in
theorem xk_179 : xr_Mok xr_mt xm_179 = true := by decide +kernel
set_option maxRecDepth 100000 in
theorem xk_180 : xr_Mok xr_mt xm_180 = true := by decide +kernel
set_option maxRecDepth 100000 in
theorem xk_181 : xr_Mok xr_mt xm_181 = true := by decide +kernel
set_option maxRecDepth 100000 in
theorem xk_182 : xr_Mok xr_mt xm_182 = true := by decide +kernel
set_option maxRecDepth 100000 in
theorem xk_183 : xr_Mok xr_mt xm_183 = true := by decide +kernel
set_option maxRecDepth 100000 in
theorem xk_184 : xr_Mok xr_mt xm_184 = true := by decide +kernel
set_option maxRecDepth 100000 in
theorem xk_185 : xr_Mok xr_mt xm_185 = true := by decide +kernel
set_option maxRecDepth 100000 in
theorem xk_186 : xr_Mok xr_mt xm_186 = true := by decide +kernel
set_option maxRecDepth 100000 in
theorem xk_187 : xr_Mok xr_mt xm_187 = true := by decide +kernel
set_option maxRecDepth 100000 in
theorem xk_188 : xr_Mok xr_mt xm_188 = true := by decide +kernel
set_option maxRecDepth 100000 in
theorem xk_189 : xr_Mok xr_mt xm_189 = true := by decide +kernel
set_option maxRecDepth 100000 in
theorem xk_190 : xr_Mok xr_mt xm_190 = true := by decide +kernel
set_option maxRecDepth 100000 in
theorem xk_191 : xr_Mok xr_mt xm_191 = true := by decide +kernel
set_option maxRecDepth 100000 in
theorem xk_192 : xr_Mok xr_mt xm_192 = true := by decide +kernel
set_option maxRecDepth 100000 in
theorem xk_193 : xr_Mok xr_mt xm_193 = true := by decide +kernel
set_option maxRecDepth 100000 in
theorem xk_194 : xr_Mok xr_mt xm_194 = true := by decide +kernel
set_option maxRecDepth 100000 in
theorem xk_195 : xr_Mok xr_mt xm_195 = true := by decide +kernel
set_option maxRecDepth 100000 in
theorem xk_196 : xr_Mok xr_mt xm_196 = true := by decide +kernel
set_option maxRecDepth 100000 in
theorem xk_197 : xr_Mok xr_mt xm_197 = true := by decide +kernel
set_option maxRecDepth 100000 in
theorem xk_198 : xr_Mok xr_mt xm_198 = true := by decide +kernel
set_option maxRecDepth 100000 in
theorem xk_199 : xr_Mok xr_mt xm_199 = true := by decide +kernel
set_option maxRecDepth 100000 in
theorem xk_200 : xr_Mok xr_mt xm_200 = true := by decide +kernel
set_option maxRecDepth 100000 in
theorem xk_201 : xr_Mok xr_mt xm_201 = true := by decide +kernel
set_option maxRecDepth 100000 in
theorem xk_202 : xr_Mok xr_mt xm_202 = true := by decide +kernel
set_option maxRecDepth 100000 in
theorem xk_203 : xr_Mok xr_mt xm_203 = true := by decide +kernel
set_option maxRecDepth 100000 in
theorem xk_204 : xr_Mok xr_mt xm_204 = true := by decide +kernel
set_option maxRecDepth 100000 in
theorem xk_205 : xr_Mok xr_mt xm_205 = true := by decide +kernel
set_option maxRecDepth 100000 in
theorem xk_all : ∀ M ∈ xr_mt, xr_Mok xr_mt M = true := List.forall_mem_cons.mpr ⟨xk_0, List.forall_mem_cons.mpr ⟨xk_1, List.forall_mem_cons.mpr ⟨xk_2, List.forall_mem_cons.mpr ⟨xk_3, List.forall_mem_cons.mpr ⟨xk_4, List.forall_mem_cons.mpr ⟨xk_5, List.forall_mem_cons.mpr ⟨xk_6, List.forall_mem_cons.mpr ⟨xk_7, List.forall_mem_cons.mpr ⟨xk_8, List.forall_mem_cons.mpr ⟨xk_9, List.forall_mem_cons.mpr ⟨xk_10, List.forall_mem_cons.mpr ⟨xk_11, List.forall_mem_cons.mpr ⟨xk_12, List.forall_mem_cons.mpr ⟨xk_13, List.forall_mem_cons.mpr ⟨xk_14, List.forall_mem_cons.mpr ⟨xk_15, List.forall_mem_cons.mpr ⟨xk_16, List.forall_mem_cons.mpr ⟨xk_17, List.forall_mem_cons.mpr ⟨xk_18, List.forall_mem_cons.mpr ⟨xk_19, List.forall_mem_cons.mpr ⟨xk_20, List.forall_mem_cons.mpr ⟨xk_21, List.forall_mem_cons.mpr ⟨xk_22, List.forall_mem_cons.mpr ⟨xk_23, List.forall_mem_cons.mpr ⟨xk_24, List.forall_mem_cons.mpr ⟨xk_25, List.forall_mem_cons.mpr ⟨xk_26, List.forall_mem_cons.mpr ⟨xk_27, List.forall_mem_cons.mpr ⟨xk_28, List.forall_mem_cons.mpr ⟨xk_29, List.forall_mem_cons.mpr ⟨xk_30, List.forall_mem_cons.mpr ⟨xk_31, List.forall_mem_cons.mpr ⟨xk_32, List.forall_mem_cons.mpr ⟨xk_33, List.forall_mem_cons.mpr ⟨xk_34, List.forall_mem_cons.mpr ⟨xk_35, List.forall_mem_cons.mpr ⟨xk_36, List.forall_mem_cons.mpr ⟨xk_37, List.forall_mem_cons.mpr ⟨xk_38, List.forall_mem_cons.mpr ⟨xk_39, List.forall_mem_cons.mpr ⟨xk_40, List.forall_mem_cons.mpr ⟨xk_41, List.forall_mem_cons.mpr ⟨xk_42, List.forall_mem_cons.mpr ⟨xk_43, List.forall_mem_cons.mpr ⟨xk_44, List.forall_mem_cons.mpr ⟨xk_45, List.forall_mem_cons.mpr ⟨xk_46, List.forall_mem_cons.mpr ⟨xk_47, List.forall_mem_cons.mpr ⟨xk_48, List.forall_mem_cons.mpr ⟨xk_49, List.forall_mem_cons.mpr ⟨xk_50, List.forall_mem_cons.mpr ⟨xk_51, List.forall_mem_cons.mpr ⟨xk_52, List.forall_mem_cons.mpr ⟨xk_53, List.forall_mem_cons.mpr ⟨xk_54, List.forall_mem_cons.mpr ⟨xk_55, List.forall_mem_cons.mpr ⟨xk_56, List.forall_mem_cons.mpr ⟨xk_57, List.forall_mem_cons.mpr ⟨xk_58, List.forall_mem_cons.mpr ⟨xk_59, List.forall_mem_cons.mpr ⟨xk_60, List.forall_mem_cons.mpr ⟨xk_61, List.forall_mem_cons.mpr ⟨xk_62, List.forall_mem_cons.mpr ⟨xk_63, List.forall_mem_cons.mpr ⟨xk_64, List.forall_mem_cons.mpr ⟨xk_65, List.forall_mem_cons.mpr ⟨xk_66, List.forall_mem_cons.mpr ⟨xk_67, List.forall_mem_cons.mpr ⟨xk_68, List.forall_mem_cons.mpr ⟨xk_69, List.forall_mem_cons.mpr ⟨xk_70, List.forall_mem_cons.mpr ⟨xk_71, List.forall_mem_cons.mpr ⟨xk_72, List.forall_mem_cons.mpr ⟨xk_73, List.forall_mem_cons.mpr ⟨xk_74, List.forall_mem_cons.mpr ⟨xk_75, List.forall_mem_cons.mpr ⟨xk_76, List.forall_mem_cons.mpr ⟨xk_77, List.forall_mem_cons.mpr ⟨xk_78, List.forall_mem_cons.mpr ⟨xk_79, List.forall_mem_cons.mpr ⟨xk_80, List.forall_mem_cons.mpr ⟨xk_81, List.forall_mem_cons.mpr ⟨xk_82, List.forall_mem_cons.mpr ⟨xk_83, List.forall_mem_cons.mpr ⟨xk_84, List.forall_mem_cons.mpr ⟨xk_85, List.forall_mem_cons.mpr ⟨xk_86, List.forall_mem_cons.mpr ⟨xk_87, List.forall_mem_cons.mpr ⟨xk_88, List.forall_mem_cons.mpr ⟨xk_89, List.forall_mem_cons.mpr ⟨xk_90, List.forall_mem_cons.mpr ⟨xk_91, List.forall_mem_cons.mpr ⟨xk_92, List.forall_mem_cons.mpr ⟨xk_93, List.forall_mem_cons.mpr ⟨xk_94, List.forall_mem_cons.mpr ⟨xk_95, List.forall_mem_cons.mpr ⟨xk_96, List.forall_mem_cons.mpr ⟨xk_97, List.forall_mem_cons.mpr ⟨xk_98, List.forall_mem_cons.mpr ⟨xk_99, List.forall_mem_cons.mpr ⟨xk_100, List.forall_mem_cons.mpr ⟨xk_101, List.forall_mem_cons.mpr ⟨xk_102, List.forall_mem_cons.mpr ⟨xk_103, List.forall_mem_cons.mpr ⟨xk_104, List.forall_mem_cons.mpr ⟨xk_105, List.forall_mem_cons.mpr ⟨xk_106, List.forall_mem_cons.mpr ⟨xk_107, List.forall_mem_cons.mpr ⟨xk_108, List.forall_mem_cons.mpr ⟨xk_109, List.forall_mem_cons.mpr ⟨xk_110, List.forall_mem_cons.mpr ⟨xk_111, List.forall_mem_cons.mpr ⟨xk_112, List.forall_mem_cons.mpr ⟨xk_113, List.forall_mem_cons.mpr ⟨xk_114, List.forall_mem_cons.mpr ⟨xk_115, List.forall_mem_cons.mpr ⟨xk_116, List.forall_mem_cons.mpr ⟨xk_117, List.forall_mem_cons.mpr ⟨xk_118, List.forall_mem_cons.mpr ⟨xk_119, List.forall_mem_cons.mpr ⟨xk_120, List.forall_mem_cons.mpr ⟨xk_121, List.forall_mem_cons.mpr ⟨xk_122, List.forall_mem_cons.mpr ⟨xk_123, List.forall_mem_cons.mpr ⟨xk_124, List.forall_mem_cons.mpr ⟨xk_125, List.forall_mem_cons.mpr ⟨xk_126, List.forall_mem_cons.mpr ⟨xk_127, List.forall_mem_cons.mpr ⟨xk_128, List.forall_mem_cons.mpr ⟨xk_129, List.forall_mem_cons.mpr ⟨xk_130, List.forall_mem_cons.mpr ⟨xk_131, List.forall_mem_cons.mpr ⟨xk_132, List.forall_mem_cons.mpr ⟨xk_133, List.forall_mem_cons.mpr ⟨xk_134, List.forall_mem_cons.mpr ⟨xk_135, List.forall_mem_cons.mpr ⟨xk_136, List.forall_mem_cons.mpr ⟨xk_137, List.forall_mem_cons.mpr ⟨xk_138, List.forall_mem_cons.mpr ⟨xk_139, List.forall_mem_cons.mpr ⟨xk_140, List.forall_mem_cons.mpr ⟨xk_141, List.forall_mem_cons.mpr ⟨xk_142, List.forall_mem_cons.mpr ⟨xk_143, List.forall_mem_cons.mpr ⟨xk_144, List.forall_mem_cons.mpr ⟨xk_145, List.forall_mem_cons.mpr ⟨xk_146, List.forall_mem_cons.mpr ⟨xk_147, List.forall_mem_cons.mpr ⟨xk_148, List.forall_mem_cons.mpr ⟨xk_149, List.forall_mem_cons.mpr ⟨xk_150, List.forall_mem_cons.mpr ⟨xk_151, List.forall_mem_cons.mpr ⟨xk_152, List.forall_mem_cons.mpr ⟨xk_153, List.forall_mem_cons.mpr ⟨xk_154, List.forall_mem_cons.mpr ⟨xk_155, List.forall_mem_cons.mpr ⟨xk_156, List.forall_mem_cons.mpr ⟨xk_157, List.forall_mem_cons.mpr ⟨xk_158, List.forall_mem_cons.mpr ⟨xk_159, List.forall_mem_cons.mpr ⟨xk_160, List.forall_mem_cons.mpr ⟨xk_161, List.forall_mem_cons.mpr ⟨xk_162, List.forall_mem_cons.mpr ⟨xk_163, List.forall_mem_cons.mpr ⟨xk_164, List.forall_mem_cons.mpr ⟨xk_165, List.forall_mem_cons.mpr ⟨xk_166, List.forall_mem_cons.mpr ⟨xk_167, List.forall_mem_cons.mpr ⟨xk_168, List.forall_mem_cons.mpr ⟨xk_169, List.forall_mem_cons.mpr ⟨xk_170, List.forall_mem_cons.mpr ⟨xk_171, List.forall_mem_cons.mpr ⟨xk_172, List.forall_mem_cons.mpr ⟨xk_173, List.forall_mem_cons.mpr ⟨xk_174, List.forall_mem_cons.mpr ⟨xk_175, List.forall_mem_cons.mpr ⟨xk_176, List.forall_mem_cons.mpr ⟨xk_177, List.forall_mem_cons.mpr ⟨xk_178, List.forall_mem_cons.mpr ⟨xk_179, List.forall_mem_cons.mpr ⟨xk_180, List.forall_mem_cons.mpr ⟨xk_181, List.forall_mem_cons.mpr ⟨xk_182, List.forall_mem_cons.mpr ⟨xk_183, List.forall_mem_cons.mpr ⟨xk_184, List.forall_mem_cons.mpr ⟨xk_185, List.forall_mem_cons.mpr ⟨xk_186, List.forall_mem_cons.mpr ⟨xk_187, List.forall_mem_cons.mpr ⟨xk_188, List.forall_mem_cons.mpr ⟨xk_189, List.forall_mem_cons.mpr ⟨xk_190, List.forall_mem_cons.mpr ⟨xk_191, List.forall_mem_cons.mpr ⟨xk_192, List.forall_mem_cons.mpr ⟨xk_193, List.forall_mem_cons.mpr ⟨xk_194, List.forall_mem_cons.mpr ⟨xk_195, List.forall_mem_cons.mpr ⟨xk_196, List.forall_mem_cons.mpr ⟨xk_197, List.forall_mem_cons.mpr ⟨xk_198, List.forall_mem_cons.mpr ⟨xk_199, List.forall_mem_cons.mpr ⟨xk_200, List.forall_mem_cons.mpr ⟨xk_201, List.forall_mem_cons.mpr ⟨xk_202, List.forall_mem_cons.mpr ⟨xk_203, List.forall_mem_cons.mpr ⟨xk_204, List.forall_mem_cons.mpr ⟨xk_205, (fun _ h => by cases h)⟩⟩⟩⟩⟩⟩⟩⟩⟩⟩⟩⟩⟩⟩⟩⟩⟩⟩⟩⟩⟩⟩⟩⟩⟩⟩⟩⟩⟩⟩⟩⟩⟩⟩⟩⟩⟩⟩⟩⟩⟩⟩⟩⟩⟩⟩⟩⟩⟩⟩⟩⟩⟩⟩⟩⟩⟩⟩⟩⟩⟩⟩⟩⟩⟩⟩⟩⟩⟩⟩⟩⟩⟩⟩⟩⟩⟩⟩⟩⟩⟩⟩⟩⟩⟩⟩⟩⟩⟩⟩⟩⟩⟩⟩⟩⟩⟩⟩⟩⟩⟩⟩⟩⟩⟩⟩⟩⟩⟩⟩⟩⟩⟩⟩⟩⟩⟩⟩⟩⟩⟩⟩⟩⟩⟩⟩⟩⟩⟩⟩⟩⟩⟩⟩⟩⟩⟩⟩⟩⟩⟩⟩⟩⟩⟩⟩⟩⟩⟩⟩⟩⟩⟩⟩⟩⟩⟩⟩⟩⟩⟩⟩⟩⟩⟩⟩⟩⟩⟩⟩⟩⟩⟩⟩⟩⟩⟩⟩⟩⟩⟩⟩⟩⟩⟩⟩⟩⟩⟩⟩⟩⟩⟩⟩⟩⟩⟩⟩⟩⟩⟩⟩⟩⟩⟩⟩
end
section
/-! the law's own table -/
theorem xk_cat {α : Type} {p : α → Bool} {l : List α} {a n : Nat} (h1 : ((l.drop a).take n).all p = true) (h2 : (l.drop (a + n)).all p = true) : (l.drop a).all p = true := by
  have e : l.drop a = (l.drop a).take n ++ l.drop (a + n) := by rw [← List.drop_drop, List.take_append_drop]
  rw [e, List.all_append, h1, h2]
  rfl
set_option maxRecDepth 100000 in
theorem xk_l0 : ((xm_law.2.2.2.2.2.2.drop 0).take 40).all (xr_chk xr_mt xm_law) = true := by decide +kernel
set_option maxRecDepth 100000 in
theorem xk_l1 : ((xm_law.2.2.2.2.2.2.drop 40).take 40).all (xr_chk xr_mt xm_law) = true := by decide +kernel
set_option maxRecDepth 100000 in
theorem xk_l2 : ((xm_law.2.2.2.2.2.2.drop 80).take 40).all (xr_chk xr_mt xm_law) = true := by decide +kernel
set_option maxRecDepth 100000 in
theorem xk_l3 : ((xm_law.2.2.2.2.2.2.drop 120).take 40).all (xr_chk xr_mt xm_law) = true := by decide +kernel
set_option maxRecDepth 100000 in
theorem xk_l4 : ((xm_law.2.2.2.2.2.2.drop 160).take 40).all (xr_chk xr_mt xm_law) = true := by decide +kernel
set_option maxRecDepth 100000 in
theorem xk_l5 : ((xm_law.2.2.2.2.2.2.drop 200).take 40).all (xr_chk xr_mt xm_law) = true := by decide +kernel
set_option maxRecDepth 100000 in
theorem xk_l6 : ((xm_law.2.2.2.2.2.2.drop 240).take 40).all (xr_chk xr_mt xm_law) = true := by decide +kernel
set_option maxRecDepth 100000 in
theorem xk_l7 : ((xm_law.2.2.2.2.2.2.drop 280).take 40).all (xr_chk xr_mt xm_law) = true := by decide +kernel
set_option maxRecDepth 100000 in
theorem xk_l8 : ((xm_law.2.2.2.2.2.2.drop 320).take 40).all (xr_chk xr_mt xm_law) = true := by decide +kernel
set_option maxRecDepth 100000 in
theorem xk_l9 : ((xm_law.2.2.2.2.2.2.drop 360).take 40).all (xr_chk xr_mt xm_law) = true := by decide +kernel
set_option maxRecDepth 100000 in
theorem xk_l10 : ((xm_law.2.2.2.2.2.2.drop 400).take 40).all (xr_chk xr_mt xm_law) = true := by decide +kernel
set_option maxRecDepth 100000 in
theorem xk_l11 : ((xm_law.2.2.2.2.2.2.drop 440).take 40).all (xr_chk xr_mt xm_law) = true := by decide +kernel
set_option maxRecDepth 100000 in
theorem xk_l12 : ((xm_law.2.2.2.2.2.2.drop 480).take 40).all (xr_chk xr_mt xm_law) = true := by decide +kernel
set_option maxRecDepth 100000 in
theorem xk_l13 : ((xm_law.2.2.2.2.2.2.drop 520).take 40).all (xr_chk xr_mt xm_law) = true := by decide +kernel
set_option maxRecDepth 100000 in
theorem xk_l14 : ((xm_law.2.2.2.2.2.2.drop 560).take 40).all (xr_chk xr_mt xm_law) = true := by decide +kernel
set_option maxRecDepth 100000 in
theorem xk_l15 : ((xm_law.2.2.2.2.2.2.drop 600).take 40).all (xr_chk xr_mt xm_law) = true := by decide +kernel
set_option maxRecDepth 100000 in
theorem xk_l16 : ((xm_law.2.2.2.2.2.2.drop 640).take 40).all (xr_chk xr_mt xm_law) = true := by decide +kernel
set_option maxRecDepth 100000 in
theorem xk_l17 : ((xm_law.2.2.2.2.2.2.drop 680).take 40).all (xr_chk xr_mt xm_law) = true := by decide +kernel
set_option maxRecDepth 100000 in
theorem xk_l18 : ((xm_law.2.2.2.2.2.2.drop 720).take 40).all (xr_chk xr_mt xm_law) = true := by decide +kernel
set_option maxRecDepth 100000 in
theorem xk_l19 : ((xm_law.2.2.2.2.2.2.drop 760).take 40).all (xr_chk xr_mt xm_law) = true := by decide +kernel
set_option maxRecDepth 100000 in
theorem xk_l20 : ((xm_law.2.2.2.2.2.2.drop 800).take 40).all (xr_chk xr_mt xm_law) = true := by decide +kernel
set_option maxRecDepth 100000 in
theorem xk_l21 : ((xm_law.2.2.2.2.2.2.drop 840).take 40).all (xr_chk xr_mt xm_law) = true := by decide +kernel
set_option maxRecDepth 100000 in
theorem xk_l22 : ((xm_law.2.2.2.2.2.2.drop 880).take 40).all (xr_chk xr_mt xm_law) = true := by decide +kernel
set_option maxRecDepth 100000 in
theorem xk_l23 : ((xm_law.2.2.2.2.2.2.drop 920).take 40).all (xr_chk xr_mt xm_law) = true := by decide +kernel
set_option maxRecDepth 100000 in
theorem xk_l24 : ((xm_law.2.2.2.2.2.2.drop 960).take 40).all (xr_chk xr_mt xm_law) = true := by decide +kernel
set_option maxRecDepth 100000 in
theorem xk_l25 : ((xm_law.2.2.2.2.2.2.drop 1000).take 40).all (xr_chk xr_mt xm_law) = true := by decide +kernel
set_option maxRecDepth 100000 in
theorem xk_l26 : ((xm_law.2.2.2.2.2.2.drop 1040).take 40).all (xr_chk xr_mt xm_law) = true := by decide +kernel
set_option maxRecDepth 100000 in
theorem xk_l27 : ((xm_law.2.2.2.2.2.2.drop 1080).take 40).all (xr_chk xr_mt xm_law) = true := by decide +kernel
set_option maxRecDepth 100000 in
theorem xk_l28 : ((xm_law.2.2.2.2.2.2.drop 1120).take 40).all (xr_chk xr_mt xm_law) = true := by decide +kernel
set_option maxRecDepth 100000 in
theorem xk_l29 : ((xm_law.2.2.2.2.2.2.drop 1160).take 40).all (xr_chk xr_mt xm_law) = true := by decide +kernel
set_option maxRecDepth 100000 in
theorem xk_l30 : ((xm_law.2.2.2.2.2.2.drop 1200).take 40).all (xr_chk xr_mt xm_law) = true := by decide +kernel
set_option maxRecDepth 100000 in
theorem xk_l31 : ((xm_law.2.2.2.2.2.2.drop 1240).take 40).all (xr_chk xr_mt xm_law) = true := by decide +kernel
set_option maxRecDepth 100000 in
theorem xk_l32 : ((xm_law.2.2.2.2.2.2.drop 1280).take 40).all (xr_chk xr_mt xm_law) = true := by decide +kernel
set_option maxRecDepth 100000 in
theorem xk_le : (xm_law.2.2.2.2.2.2.drop 1320).all (xr_chk xr_mt xm_law) = true := by decide +kernel
set_option maxRecDepth 100000 in
theorem xk_lr : (xm_law.2.2.2.2.2.2.drop 0).all (xr_chk xr_mt xm_law) = true := (xk_cat (a := 0) (n := 40) xk_l0 (xk_cat (a := 40) (n := 40) xk_l1 (xk_cat (a := 80) (n := 40) xk_l2 (xk_cat (a := 120) (n := 40) xk_l3 (xk_cat (a := 160) (n := 40) xk_l4 (xk_cat (a := 200) (n := 40) xk_l5 (xk_cat (a := 240) (n := 40) xk_l6 (xk_cat (a := 280) (n := 40) xk_l7 (xk_cat (a := 320) (n := 40) xk_l8 (xk_cat (a := 360) (n := 40) xk_l9 (xk_cat (a := 400) (n := 40) xk_l10 (xk_cat (a := 440) (n := 40) xk_l11 (xk_cat (a := 480) (n := 40) xk_l12 (xk_cat (a := 520) (n := 40) xk_l13 (xk_cat (a := 560) (n := 40) xk_l14 (xk_cat (a := 600) (n := 40) xk_l15 (xk_cat (a := 640) (n := 40) xk_l16 (xk_cat (a := 680) (n := 40) xk_l17 (xk_cat (a := 720) (n := 40) xk_l18 (xk_cat (a := 760) (n := 40) xk_l19 (xk_cat (a := 800) (n := 40) xk_l20 (xk_cat (a := 840) (n := 40) xk_l21 (xk_cat (a := 880) (n := 40) xk_l22 (xk_cat (a := 920) (n := 40) xk_l23 (xk_cat (a := 960) (n := 40) xk_l24 (xk_cat (a := 1000) (n := 40) xk_l25 (xk_cat (a := 1040) (n := 40) xk_l26 (xk_cat (a := 1080) (n := 40) xk_l27 (xk_cat (a := 1120) (n := 40) xk_l28 (xk_cat (a := 1160) (n := 40) xk_l29 (xk_cat (a := 1200) (n := 40) xk_l30 (xk_cat (a := 1240) (n := 40) xk_l31 (xk_cat (a := 1280) (n := 40) xk_l32 xk_le)))))))))))))))))))))))))))))))))
set_option maxRecDepth 100000 in
theorem xk_l : (plainName xm_law.1.cls && (decide (xm_law.2.2.1 ≤ 100) && (decide (xr_pc xm_law.2.2.2.2.2.2 = 0) && xr_hcs xm_law))) = true := by decide +kernel
theorem xk_law : xr_Mok xr_mt xm_law = true := by
  have h := xk_l
  simp only [Bool.and_eq_true] at h
  unfold xr_Mok
  rw [h.1, h.2.1, h.2.2.1, h.2.2.2, Bool.true_and, Bool.true_and, Bool.true_and, Bool.true_and]
  exact xk_lr
end
section
theorem i_vc : Claimed_1_1 ∧ Claimed_1_2 := sorry
end
