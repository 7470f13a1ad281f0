section
-- ===== PART A: goes FIRST, ahead of the names: the tables' words, and 'selects' of the private methods out of them =====
/-- a private method of a class that the tables say can be made, by its rows of tables_1 -/
def lw_okq (q : MethodName × Nat) : Prop := (q.1.cls ≠ "java/lang/invoke/MethodHandle" ∧ q.1.cls ≠ "java/lang/invoke/VarHandle") ∧ Cond.instantiable q.1.cls q.2 ∈ tables_1 ∧ Cond.privateMethod q.1 ∈ tables_1 ∧ Cond.instanceMethod q.1 ∈ tables_1
theorem lw_p0 : lw_okq (⟨"JobLoop", "settleFromOutside", "(IIII)Z"⟩, 7) := ⟨⟨by decide +kernel, by decide +kernel⟩, List.mem_of_getElem? (i := 14) (by decide +kernel), List.mem_of_getElem? (i := 295) (by decide +kernel), List.mem_of_getElem? (i := 296) (by decide +kernel)⟩
theorem lw_p1 : lw_okq (⟨"JobLoop", "isValue", "(II)Z"⟩, 7) := ⟨⟨by decide +kernel, by decide +kernel⟩, List.mem_of_getElem? (i := 14) (by decide +kernel), List.mem_of_getElem? (i := 306) (by decide +kernel), List.mem_of_getElem? (i := 307) (by decide +kernel)⟩
theorem lw_p2 : lw_okq (⟨"JobLoop$Promises", "lineUp", "(III)V"⟩, 15) := ⟨⟨by decide +kernel, by decide +kernel⟩, List.mem_of_getElem? (i := 22) (by decide +kernel), List.mem_of_getElem? (i := 342) (by decide +kernel), List.mem_of_getElem? (i := 343) (by decide +kernel)⟩
theorem lw_p3 : lw_okq (⟨"JobLoop$Runner", "enter", "(IIJ)V"⟩, 14) := ⟨⟨by decide +kernel, by decide +kernel⟩, List.mem_of_getElem? (i := 202) (by decide +kernel), List.mem_of_getElem? (i := 417) (by decide +kernel), List.mem_of_getElem? (i := 418) (by decide +kernel)⟩
theorem lw_p4 : lw_okq (⟨"JobLoop$Runner", "doStep", "(II)I"⟩, 14) := ⟨⟨by decide +kernel, by decide +kernel⟩, List.mem_of_getElem? (i := 202) (by decide +kernel), List.mem_of_getElem? (i := 431) (by decide +kernel), List.mem_of_getElem? (i := 432) (by decide +kernel)⟩
theorem lw_p5 : lw_okq (⟨"JobLoop$Runner", "faultOf", "(IIJ)I"⟩, 14) := ⟨⟨by decide +kernel, by decide +kernel⟩, List.mem_of_getElem? (i := 202) (by decide +kernel), List.mem_of_getElem? (i := 451) (by decide +kernel), List.mem_of_getElem? (i := 452) (by decide +kernel)⟩
theorem lw_p6 : lw_okq (⟨"JobLoop$Runner", "jumpIfZero", "(II)V"⟩, 14) := ⟨⟨by decide +kernel, by decide +kernel⟩, List.mem_of_getElem? (i := 202) (by decide +kernel), List.mem_of_getElem? (i := 476) (by decide +kernel), List.mem_of_getElem? (i := 477) (by decide +kernel)⟩
theorem lw_p7 : lw_okq (⟨"JobLoop$Runner", "jumpIfAbove", "(II)V"⟩, 14) := ⟨⟨by decide +kernel, by decide +kernel⟩, List.mem_of_getElem? (i := 202) (by decide +kernel), List.mem_of_getElem? (i := 480) (by decide +kernel), List.mem_of_getElem? (i := 481) (by decide +kernel)⟩
theorem lw_p8 : lw_okq (⟨"JobLoop$Runner", "giveZero", "(I)I"⟩, 14) := ⟨⟨by decide +kernel, by decide +kernel⟩, List.mem_of_getElem? (i := 202) (by decide +kernel), List.mem_of_getElem? (i := 484) (by decide +kernel), List.mem_of_getElem? (i := 485) (by decide +kernel)⟩
theorem lw_p9 : lw_okq (⟨"JobLoop$Runner", "stop", "(I)V"⟩, 14) := ⟨⟨by decide +kernel, by decide +kernel⟩, List.mem_of_getElem? (i := 202) (by decide +kernel), List.mem_of_getElem? (i := 488) (by decide +kernel), List.mem_of_getElem? (i := 489) (by decide +kernel)⟩
theorem lw_p10 : lw_okq (⟨"JobLoop$Runner", "leaveTry", "(II)Z"⟩, 14) := ⟨⟨by decide +kernel, by decide +kernel⟩, List.mem_of_getElem? (i := 202) (by decide +kernel), List.mem_of_getElem? (i := 499) (by decide +kernel), List.mem_of_getElem? (i := 500) (by decide +kernel)⟩
theorem lw_p11 : lw_okq (⟨"JobLoop$Runner", "end", "(II)V"⟩, 14) := ⟨⟨by decide +kernel, by decide +kernel⟩, List.mem_of_getElem? (i := 202) (by decide +kernel), List.mem_of_getElem? (i := 508) (by decide +kernel), List.mem_of_getElem? (i := 509) (by decide +kernel)⟩
theorem lw_p12 : lw_okq (⟨"JobLoop", "doJob", "(I)V"⟩, 7) := ⟨⟨by decide +kernel, by decide +kernel⟩, List.mem_of_getElem? (i := 14) (by decide +kernel), List.mem_of_getElem? (i := 577) (by decide +kernel), List.mem_of_getElem? (i := 578) (by decide +kernel)⟩
theorem lw_p13 : lw_okq (⟨"JobLoop", "adopt", "(IJI)V"⟩, 7) := ⟨⟨by decide +kernel, by decide +kernel⟩, List.mem_of_getElem? (i := 14) (by decide +kernel), List.mem_of_getElem? (i := 602) (by decide +kernel), List.mem_of_getElem? (i := 603) (by decide +kernel)⟩
theorem lw_p14 : lw_okq (⟨"JobLoop", "doTask", "(I)V"⟩, 7) := ⟨⟨by decide +kernel, by decide +kernel⟩, List.mem_of_getElem? (i := 14) (by decide +kernel), List.mem_of_getElem? (i := 652) (by decide +kernel), List.mem_of_getElem? (i := 653) (by decide +kernel)⟩
theorem lw_p15 : lw_okq (⟨"JobLoopModel", "clear", "()V"⟩, 57) := ⟨⟨by decide +kernel, by decide +kernel⟩, List.mem_of_getElem? (i := 763) (by decide +kernel), List.mem_of_getElem? (i := 769) (by decide +kernel), List.mem_of_getElem? (i := 770) (by decide +kernel)⟩
def lw_privs_1 : List (MethodName × Nat) := [(⟨"JobLoop", "settleFromOutside", "(IIII)Z"⟩, 7), (⟨"JobLoop", "isValue", "(II)Z"⟩, 7), (⟨"JobLoop$Promises", "lineUp", "(III)V"⟩, 15), (⟨"JobLoop$Runner", "enter", "(IIJ)V"⟩, 14), (⟨"JobLoop$Runner", "doStep", "(II)I"⟩, 14), (⟨"JobLoop$Runner", "faultOf", "(IIJ)I"⟩, 14), (⟨"JobLoop$Runner", "jumpIfZero", "(II)V"⟩, 14), (⟨"JobLoop$Runner", "jumpIfAbove", "(II)V"⟩, 14), (⟨"JobLoop$Runner", "giveZero", "(I)I"⟩, 14), (⟨"JobLoop$Runner", "stop", "(I)V"⟩, 14), (⟨"JobLoop$Runner", "leaveTry", "(II)Z"⟩, 14), (⟨"JobLoop$Runner", "end", "(II)V"⟩, 14), (⟨"JobLoop", "doJob", "(I)V"⟩, 7), (⟨"JobLoop", "adopt", "(IJI)V"⟩, 7), (⟨"JobLoop", "doTask", "(I)V"⟩, 7), (⟨"JobLoopModel", "clear", "()V"⟩, 57)]
theorem lw_r1 : ∀ q ∈ lw_privs_1, lw_okq q := List.forall_mem_cons.mpr ⟨lw_p0, List.forall_mem_cons.mpr ⟨lw_p1, List.forall_mem_cons.mpr ⟨lw_p2, List.forall_mem_cons.mpr ⟨lw_p3, List.forall_mem_cons.mpr ⟨lw_p4, List.forall_mem_cons.mpr ⟨lw_p5, List.forall_mem_cons.mpr ⟨lw_p6, List.forall_mem_cons.mpr ⟨lw_p7, List.forall_mem_cons.mpr ⟨lw_p8, List.forall_mem_cons.mpr ⟨lw_p9, List.forall_mem_cons.mpr ⟨lw_p10, List.forall_mem_cons.mpr ⟨lw_p11, List.forall_mem_cons.mpr ⟨lw_p12, List.forall_mem_cons.mpr ⟨lw_p13, List.forall_mem_cons.mpr ⟨lw_p14, List.forall_mem_cons.mpr ⟨lw_p15, fun _ h => absurd h List.not_mem_nil⟩⟩⟩⟩⟩⟩⟩⟩⟩⟩⟩⟩⟩⟩⟩⟩
theorem lw_p16 : lw_okq (⟨"JobLoopModel", "isPromise", "(I)Z"⟩, 57) := ⟨⟨by decide +kernel, by decide +kernel⟩, List.mem_of_getElem? (i := 763) (by decide +kernel), List.mem_of_getElem? (i := 955) (by decide +kernel), List.mem_of_getElem? (i := 956) (by decide +kernel)⟩
theorem lw_p17 : lw_okq (⟨"JobLoopModel", "isValue", "(II)Z"⟩, 57) := ⟨⟨by decide +kernel, by decide +kernel⟩, List.mem_of_getElem? (i := 763) (by decide +kernel), List.mem_of_getElem? (i := 962) (by decide +kernel), List.mem_of_getElem? (i := 963) (by decide +kernel)⟩
theorem lw_p18 : lw_okq (⟨"JobLoopModel", "resolveBy", "(IIII)V"⟩, 57) := ⟨⟨by decide +kernel, by decide +kernel⟩, List.mem_of_getElem? (i := 763) (by decide +kernel), List.mem_of_getElem? (i := 966) (by decide +kernel), List.mem_of_getElem? (i := 967) (by decide +kernel)⟩
theorem lw_p19 : lw_okq (⟨"JobLoopModel", "takes", "(II)Z"⟩, 57) := ⟨⟨by decide +kernel, by decide +kernel⟩, List.mem_of_getElem? (i := 763) (by decide +kernel), List.mem_of_getElem? (i := 970) (by decide +kernel), List.mem_of_getElem? (i := 971) (by decide +kernel)⟩
theorem lw_p20 : lw_okq (⟨"JobLoopModel", "settle", "(IIII)V"⟩, 57) := ⟨⟨by decide +kernel, by decide +kernel⟩, List.mem_of_getElem? (i := 763) (by decide +kernel), List.mem_of_getElem? (i := 974) (by decide +kernel), List.mem_of_getElem? (i := 975) (by decide +kernel)⟩
theorem lw_p21 : lw_okq (⟨"JobLoopModel", "firstOn", "(I)I"⟩, 57) := ⟨⟨by decide +kernel, by decide +kernel⟩, List.mem_of_getElem? (i := 763) (by decide +kernel), List.mem_of_getElem? (i := 978) (by decide +kernel), List.mem_of_getElem? (i := 979) (by decide +kernel)⟩
theorem lw_p22 : lw_okq (⟨"JobLoopModel", "carry", "(IIII)V"⟩, 57) := ⟨⟨by decide +kernel, by decide +kernel⟩, List.mem_of_getElem? (i := 763) (by decide +kernel), List.mem_of_getElem? (i := 982) (by decide +kernel), List.mem_of_getElem? (i := 983) (by decide +kernel)⟩
theorem lw_p23 : lw_okq (⟨"JobLoopModel", "enter", "(IIIII)I"⟩, 57) := ⟨⟨by decide +kernel, by decide +kernel⟩, List.mem_of_getElem? (i := 763) (by decide +kernel), List.mem_of_getElem? (i := 986) (by decide +kernel), List.mem_of_getElem? (i := 987) (by decide +kernel)⟩
theorem lw_p24 : lw_okq (⟨"JobLoopModel", "rejectBy", "(IIII)V"⟩, 57) := ⟨⟨by decide +kernel, by decide +kernel⟩, List.mem_of_getElem? (i := 763) (by decide +kernel), List.mem_of_getElem? (i := 994) (by decide +kernel), List.mem_of_getElem? (i := 995) (by decide +kernel)⟩
theorem lw_p25 : lw_okq (⟨"JobLoopModel", "waitFor", "(IIIII)V"⟩, 57) := ⟨⟨by decide +kernel, by decide +kernel⟩, List.mem_of_getElem? (i := 763) (by decide +kernel), List.mem_of_getElem? (i := 1003) (by decide +kernel), List.mem_of_getElem? (i := 1004) (by decide +kernel)⟩
theorem lw_p26 : lw_okq (⟨"JobLoopModel", "begin", "(IIIII)V"⟩, 57) := ⟨⟨by decide +kernel, by decide +kernel⟩, List.mem_of_getElem? (i := 763) (by decide +kernel), List.mem_of_getElem? (i := 1023) (by decide +kernel), List.mem_of_getElem? (i := 1024) (by decide +kernel)⟩
theorem lw_p27 : lw_okq (⟨"JobLoopModel", "go", "()V"⟩, 57) := ⟨⟨by decide +kernel, by decide +kernel⟩, List.mem_of_getElem? (i := 763) (by decide +kernel), List.mem_of_getElem? (i := 1027) (by decide +kernel), List.mem_of_getElem? (i := 1028) (by decide +kernel)⟩
theorem lw_p28 : lw_okq (⟨"JobLoopModel", "finish", "(ZII)V"⟩, 57) := ⟨⟨by decide +kernel, by decide +kernel⟩, List.mem_of_getElem? (i := 763) (by decide +kernel), List.mem_of_getElem? (i := 1031) (by decide +kernel), List.mem_of_getElem? (i := 1032) (by decide +kernel)⟩
theorem lw_p29 : lw_okq (⟨"JobLoopModel", "endBy", "(IZIII)V"⟩, 57) := ⟨⟨by decide +kernel, by decide +kernel⟩, List.mem_of_getElem? (i := 763) (by decide +kernel), List.mem_of_getElem? (i := 1035) (by decide +kernel), List.mem_of_getElem? (i := 1036) (by decide +kernel)⟩
theorem lw_p30 : lw_okq (⟨"JobLoopModel", "fling", "(II)V"⟩, 57) := ⟨⟨by decide +kernel, by decide +kernel⟩, List.mem_of_getElem? (i := 763) (by decide +kernel), List.mem_of_getElem? (i := 1039) (by decide +kernel), List.mem_of_getElem? (i := 1040) (by decide +kernel)⟩
theorem lw_p31 : lw_okq (⟨"JobLoopModel", "put", "(II)V"⟩, 57) := ⟨⟨by decide +kernel, by decide +kernel⟩, List.mem_of_getElem? (i := 763) (by decide +kernel), List.mem_of_getElem? (i := 1043) (by decide +kernel), List.mem_of_getElem? (i := 1044) (by decide +kernel)⟩
def lw_privs_2 : List (MethodName × Nat) := [(⟨"JobLoopModel", "isPromise", "(I)Z"⟩, 57), (⟨"JobLoopModel", "isValue", "(II)Z"⟩, 57), (⟨"JobLoopModel", "resolveBy", "(IIII)V"⟩, 57), (⟨"JobLoopModel", "takes", "(II)Z"⟩, 57), (⟨"JobLoopModel", "settle", "(IIII)V"⟩, 57), (⟨"JobLoopModel", "firstOn", "(I)I"⟩, 57), (⟨"JobLoopModel", "carry", "(IIII)V"⟩, 57), (⟨"JobLoopModel", "enter", "(IIIII)I"⟩, 57), (⟨"JobLoopModel", "rejectBy", "(IIII)V"⟩, 57), (⟨"JobLoopModel", "waitFor", "(IIIII)V"⟩, 57), (⟨"JobLoopModel", "begin", "(IIIII)V"⟩, 57), (⟨"JobLoopModel", "go", "()V"⟩, 57), (⟨"JobLoopModel", "finish", "(ZII)V"⟩, 57), (⟨"JobLoopModel", "endBy", "(IZIII)V"⟩, 57), (⟨"JobLoopModel", "fling", "(II)V"⟩, 57), (⟨"JobLoopModel", "put", "(II)V"⟩, 57)]
theorem lw_r2 : ∀ q ∈ lw_privs_2, lw_okq q := List.forall_mem_cons.mpr ⟨lw_p16, List.forall_mem_cons.mpr ⟨lw_p17, List.forall_mem_cons.mpr ⟨lw_p18, List.forall_mem_cons.mpr ⟨lw_p19, List.forall_mem_cons.mpr ⟨lw_p20, List.forall_mem_cons.mpr ⟨lw_p21, List.forall_mem_cons.mpr ⟨lw_p22, List.forall_mem_cons.mpr ⟨lw_p23, List.forall_mem_cons.mpr ⟨lw_p24, List.forall_mem_cons.mpr ⟨lw_p25, List.forall_mem_cons.mpr ⟨lw_p26, List.forall_mem_cons.mpr ⟨lw_p27, List.forall_mem_cons.mpr ⟨lw_p28, List.forall_mem_cons.mpr ⟨lw_p29, List.forall_mem_cons.mpr ⟨lw_p30, List.forall_mem_cons.mpr ⟨lw_p31, fun _ h => absurd h List.not_mem_nil⟩⟩⟩⟩⟩⟩⟩⟩⟩⟩⟩⟩⟩⟩⟩⟩
theorem lw_p32 : lw_okq (⟨"JobLoopModel", "endOf", "(II)I"⟩, 57) := ⟨⟨by decide +kernel, by decide +kernel⟩, List.mem_of_getElem? (i := 763) (by decide +kernel), List.mem_of_getElem? (i := 1047) (by decide +kernel), List.mem_of_getElem? (i := 1048) (by decide +kernel)⟩
theorem lw_p33 : lw_okq (⟨"JobLoopModel", "does", "(III)V"⟩, 57) := ⟨⟨by decide +kernel, by decide +kernel⟩, List.mem_of_getElem? (i := 763) (by decide +kernel), List.mem_of_getElem? (i := 1051) (by decide +kernel), List.mem_of_getElem? (i := 1052) (by decide +kernel)⟩
theorem lw_p34 : lw_okq (⟨"JobLoopModel", "note", "(II)V"⟩, 57) := ⟨⟨by decide +kernel, by decide +kernel⟩, List.mem_of_getElem? (i := 763) (by decide +kernel), List.mem_of_getElem? (i := 1055) (by decide +kernel), List.mem_of_getElem? (i := 1056) (by decide +kernel)⟩
theorem lw_p35 : lw_okq (⟨"JobLoopModel", "awaits", "()V"⟩, 57) := ⟨⟨by decide +kernel, by decide +kernel⟩, List.mem_of_getElem? (i := 763) (by decide +kernel), List.mem_of_getElem? (i := 1059) (by decide +kernel), List.mem_of_getElem? (i := 1060) (by decide +kernel)⟩
theorem lw_p36 : lw_okq (⟨"JobLoopModel", "make", "()I"⟩, 57) := ⟨⟨by decide +kernel, by decide +kernel⟩, List.mem_of_getElem? (i := 763) (by decide +kernel), List.mem_of_getElem? (i := 1063) (by decide +kernel), List.mem_of_getElem? (i := 1064) (by decide +kernel)⟩
theorem lw_p37 : lw_okq (⟨"JobLoopModel", "task", "(IIII)Z"⟩, 57) := ⟨⟨by decide +kernel, by decide +kernel⟩, List.mem_of_getElem? (i := 763) (by decide +kernel), List.mem_of_getElem? (i := 1067) (by decide +kernel), List.mem_of_getElem? (i := 1068) (by decide +kernel)⟩
theorem lw_p38 : lw_okq (⟨"JobLoopModel", "waiting", "(I)I"⟩, 57) := ⟨⟨by decide +kernel, by decide +kernel⟩, List.mem_of_getElem? (i := 763) (by decide +kernel), List.mem_of_getElem? (i := 1079) (by decide +kernel), List.mem_of_getElem? (i := 1080) (by decide +kernel)⟩
theorem lw_p39 : lw_okq (⟨"JobLoopModel", "isLoose", "(I)Z"⟩, 57) := ⟨⟨by decide +kernel, by decide +kernel⟩, List.mem_of_getElem? (i := 763) (by decide +kernel), List.mem_of_getElem? (i := 1083) (by decide +kernel), List.mem_of_getElem? (i := 1084) (by decide +kernel)⟩
theorem lw_p40 : lw_okq (⟨"JobLoopModel", "turn", "()Z"⟩, 57) := ⟨⟨by decide +kernel, by decide +kernel⟩, List.mem_of_getElem? (i := 763) (by decide +kernel), List.mem_of_getElem? (i := 1099) (by decide +kernel), List.mem_of_getElem? (i := 1100) (by decide +kernel)⟩
theorem lw_p41 : lw_okq (⟨"JobLoopModel", "job", "(I)V"⟩, 57) := ⟨⟨by decide +kernel, by decide +kernel⟩, List.mem_of_getElem? (i := 763) (by decide +kernel), List.mem_of_getElem? (i := 1103) (by decide +kernel), List.mem_of_getElem? (i := 1104) (by decide +kernel)⟩
theorem lw_p42 : lw_okq (⟨"JobLoopModel", "adopt", "(III)V"⟩, 57) := ⟨⟨by decide +kernel, by decide +kernel⟩, List.mem_of_getElem? (i := 763) (by decide +kernel), List.mem_of_getElem? (i := 1107) (by decide +kernel), List.mem_of_getElem? (i := 1108) (by decide +kernel)⟩
theorem lw_p43 : lw_okq (⟨"JobLoopModel", "placed", "(IIIII)V"⟩, 57) := ⟨⟨by decide +kernel, by decide +kernel⟩, List.mem_of_getElem? (i := 763) (by decide +kernel), List.mem_of_getElem? (i := 1111) (by decide +kernel), List.mem_of_getElem? (i := 1112) (by decide +kernel)⟩
theorem lw_p44 : lw_okq (⟨"JobLoopModel", "done", "(III)V"⟩, 57) := ⟨⟨by decide +kernel, by decide +kernel⟩, List.mem_of_getElem? (i := 763) (by decide +kernel), List.mem_of_getElem? (i := 1115) (by decide +kernel), List.mem_of_getElem? (i := 1116) (by decide +kernel)⟩
def lw_privs_3 : List (MethodName × Nat) := [(⟨"JobLoopModel", "endOf", "(II)I"⟩, 57), (⟨"JobLoopModel", "does", "(III)V"⟩, 57), (⟨"JobLoopModel", "note", "(II)V"⟩, 57), (⟨"JobLoopModel", "awaits", "()V"⟩, 57), (⟨"JobLoopModel", "make", "()I"⟩, 57), (⟨"JobLoopModel", "task", "(IIII)Z"⟩, 57), (⟨"JobLoopModel", "waiting", "(I)I"⟩, 57), (⟨"JobLoopModel", "isLoose", "(I)Z"⟩, 57), (⟨"JobLoopModel", "turn", "()Z"⟩, 57), (⟨"JobLoopModel", "job", "(I)V"⟩, 57), (⟨"JobLoopModel", "adopt", "(III)V"⟩, 57), (⟨"JobLoopModel", "placed", "(IIIII)V"⟩, 57), (⟨"JobLoopModel", "done", "(III)V"⟩, 57)]
theorem lw_r3 : ∀ q ∈ lw_privs_3, lw_okq q := List.forall_mem_cons.mpr ⟨lw_p32, List.forall_mem_cons.mpr ⟨lw_p33, List.forall_mem_cons.mpr ⟨lw_p34, List.forall_mem_cons.mpr ⟨lw_p35, List.forall_mem_cons.mpr ⟨lw_p36, List.forall_mem_cons.mpr ⟨lw_p37, List.forall_mem_cons.mpr ⟨lw_p38, List.forall_mem_cons.mpr ⟨lw_p39, List.forall_mem_cons.mpr ⟨lw_p40, List.forall_mem_cons.mpr ⟨lw_p41, List.forall_mem_cons.mpr ⟨lw_p42, List.forall_mem_cons.mpr ⟨lw_p43, List.forall_mem_cons.mpr ⟨lw_p44, fun _ h => absurd h List.not_mem_nil⟩⟩⟩⟩⟩⟩⟩⟩⟩⟩⟩⟩⟩
def lw_privs : List (MethodName × Nat) := lw_privs_1 ++ (lw_privs_2 ++ (lw_privs_3))
def lw_tbl : List Cond := k2_sels lw_privs ++ tables_1
theorem lw_privs_ok : ∀ q ∈ lw_privs, lw_okq q := by
  show ∀ q ∈ lw_privs_1 ++ (lw_privs_2 ++ (lw_privs_3)), lw_okq q
  exact List.forall_mem_append.mpr ⟨lw_r1, List.forall_mem_append.mpr ⟨lw_r2, lw_r3⟩⟩
/-- the words that a callee may rest on, too -/
def am_T : List Cond := lw_tbl.filter goodWord
theorem am_mem {w : Cond} (i : Nat) (h : lw_tbl[i]? = some w) (hg : goodWord w = true) : w ∈ am_T := List.mem_filter.mpr ⟨List.mem_of_getElem? h, hg⟩
theorem am_T_good : ∀ w ∈ am_T, goodWord w = true := fun w h => (List.mem_filter.mp h).2
end
section
def RX0 : String := "JobLoop$Functions"
def TX0 : u_T := fun k => match k with
  | 0 => ("JobLoop$Functions", "sizes", "LJobLoop$Row;", true)
  | 1 => ("JobLoop$Functions", "kinds", "LJobLoop$Row;", true)
  | _ => ("JobLoop$Functions", "values", "LJobLoop$Row;", true)
def tyX0 : Nat → FieldType := fun k => match k with
  | 0 => .object "JobLoop$Row"
  | 1 => .object "JobLoop$Row"
  | _ => .object "JobLoop$Row"
abbrev wsX00 : List Cond := u_ws RX0 TX0 3
theorem nmX0 : ∀ a, a < 3 → ∀ b, b < 3 → a ≠ b → (TX0 a).2.1 ≠ (TX0 b).2.1 := by decide +kernel
theorem tyX0_ok : ∀ k, k < 3 → parseFieldDescriptor (TX0 k).2.2.1 = some (tyX0 k) := by decide +kernel
abbrev cX0_init : ByteArray := prog_2_method_1_code
def yX0_init : MethodName := ⟨RX0, "<init>", "()V"⟩
abbrev cX0_mayBeStep : ByteArray := prog_2_method_2_code
def yX0_mayBeStep : MethodName := ⟨RX0, "mayBeStep", "(III)Z"⟩
abbrev cX0_isFull : ByteArray := prog_2_method_3_code
def yX0_isFull : MethodName := ⟨RX0, "isFull", "(I)Z"⟩
abbrev cX0_add : ByteArray := prog_2_method_4_code
def yX0_add : MethodName := ⟨RX0, "add", "(IIJ)I"⟩
abbrev cX0_removeAll : ByteArray := prog_2_method_5_code
def yX0_removeAll : MethodName := ⟨RX0, "removeAll", "(I)I"⟩
abbrev cX0_sizeOf : ByteArray := prog_2_method_6_code
def yX0_sizeOf : MethodName := ⟨RX0, "sizeOf", "(I)I"⟩
abbrev cX0_kindOf : ByteArray := prog_2_method_7_code
def yX0_kindOf : MethodName := ⟨RX0, "kindOf", "(II)I"⟩
abbrev cX0_valueOf : ByteArray := prog_2_method_8_code
def yX0_valueOf : MethodName := ⟨RX0, "valueOf", "(II)J"⟩
abbrev cX0_behindTry : ByteArray := prog_2_method_9_code
def yX0_behindTry : MethodName := ⟨RX0, "behindTry", "(II)I"⟩
def RX1 : String := "JobLoop$Groups"
def TX1 : u_T := fun k => match k with
  | 0 => ("JobLoop$Groups", "items", "LJobLoop$Row;", true)
  | 1 => ("JobLoop$Groups", "kinds", "LJobLoop$Row;", true)
  | 2 => ("JobLoop$Groups", "placesLeft", "LJobLoop$Row;", true)
  | 3 => ("JobLoop$Groups", "sums", "LJobLoop$Row;", true)
  | 4 => ("JobLoop$Groups", "promises", "LJobLoop$Promises;", true)
  | _ => ("JobLoop$Groups", "size", "I", false)
def tyX1 : Nat → FieldType := fun k => match k with
  | 0 => .object "JobLoop$Row"
  | 1 => .object "JobLoop$Row"
  | 2 => .object "JobLoop$Row"
  | 3 => .object "JobLoop$Row"
  | 4 => .object "JobLoop$Promises"
  | _ => .int
abbrev wsX10 : List Cond := u_ws RX1 TX1 6
theorem nmX1 : ∀ a, a < 6 → ∀ b, b < 6 → a ≠ b → (TX1 a).2.1 ≠ (TX1 b).2.1 := by decide +kernel
theorem tyX1_ok : ∀ k, k < 6 → parseFieldDescriptor (TX1 k).2.2.1 = some (tyX1 k) := by decide +kernel
abbrev cX1_init : ByteArray := prog_3_method_1_code
def yX1_init : MethodName := ⟨RX1, "<init>", "(LJobLoop$Promises;)V"⟩
abbrev cX1_clear : ByteArray := prog_3_method_2_code
def yX1_clear : MethodName := ⟨RX1, "clear", "()V"⟩
abbrev cX1_items : ByteArray := prog_3_method_3_code
def yX1_items : MethodName := ⟨RX1, "items", "()I"⟩
abbrev cX1_isFull : ByteArray := prog_3_method_4_code
def yX1_isFull : MethodName := ⟨RX1, "isFull", "()Z"⟩
abbrev cX1_addItem : ByteArray := prog_3_method_5_code
def yX1_addItem : MethodName := ⟨RX1, "addItem", "(J)I"⟩
abbrev cX1_hasRoom : ByteArray := prog_3_method_6_code
def yX1_hasRoom : MethodName := ⟨RX1, "hasRoom", "()Z"⟩
abbrev cX1_form : ByteArray := prog_3_method_7_code
def yX1_form : MethodName := ⟨RX1, "form", "(I)I"⟩
abbrev cX1_settlePlace : ByteArray := prog_3_method_8_code
def yX1_settlePlace : MethodName := ⟨RX1, "settlePlace", "(IIIJ)V"⟩
abbrev cX1_settleIfComplete : ByteArray := prog_3_method_9_code
def yX1_settleIfComplete : MethodName := ⟨RX1, "settleIfComplete", "(I)V"⟩
def RX2 : String := "JobLoop$Notes"
def TX2 : u_T := fun k => match k with
  | 0 => ("JobLoop$Notes", "values", "LJobLoop$Row;", true)
  | 1 => ("JobLoop$Notes", "noteTurns", "LJobLoop$Row;", true)
  | 2 => ("JobLoop$Notes", "total", "I", false)
  | _ => ("JobLoop$Notes", "turns", "I", false)
def tyX2 : Nat → FieldType := fun k => match k with
  | 0 => .object "JobLoop$Row"
  | 1 => .object "JobLoop$Row"
  | 2 => .int
  | _ => .int
abbrev wsX20 : List Cond := u_ws RX2 TX2 4
theorem nmX2 : ∀ a, a < 4 → ∀ b, b < 4 → a ≠ b → (TX2 a).2.1 ≠ (TX2 b).2.1 := by decide +kernel
theorem tyX2_ok : ∀ k, k < 4 → parseFieldDescriptor (TX2 k).2.2.1 = some (tyX2 k) := by decide +kernel
abbrev cX2_init : ByteArray := prog_4_method_1_code
def yX2_init : MethodName := ⟨RX2, "<init>", "()V"⟩
abbrev cX2_clear : ByteArray := prog_4_method_2_code
def yX2_clear : MethodName := ⟨RX2, "clear", "()V"⟩
abbrev cX2_beginTurn : ByteArray := prog_4_method_3_code
def yX2_beginTurn : MethodName := ⟨RX2, "beginTurn", "()V"⟩
abbrev cX2_turns : ByteArray := prog_4_method_4_code
def yX2_turns : MethodName := ⟨RX2, "turns", "()I"⟩
abbrev cX2_total : ByteArray := prog_4_method_5_code
def yX2_total : MethodName := ⟨RX2, "total", "()I"⟩
abbrev cX2_kept : ByteArray := prog_4_method_6_code
def yX2_kept : MethodName := ⟨RX2, "kept", "()I"⟩
abbrev cX2_add : ByteArray := prog_4_method_7_code
def yX2_add : MethodName := ⟨RX2, "add", "(J)V"⟩
abbrev cX2_valueOf : ByteArray := prog_4_method_8_code
def yX2_valueOf : MethodName := ⟨RX2, "valueOf", "(I)J"⟩
abbrev cX2_turnOf : ByteArray := prog_4_method_9_code
def yX2_turnOf : MethodName := ⟨RX2, "turnOf", "(I)I"⟩
def RX3 : String := "JobLoop$Promises"
def TX3 : u_T := fun k => match k with
  | 0 => ("JobLoop$Promises", "status", "LJobLoop$Row;", true)
  | 1 => ("JobLoop$Promises", "value", "LJobLoop$Row;", true)
  | 2 => ("JobLoop$Promises", "lastKey", "LJobLoop$Row;", true)
  | 3 => ("JobLoop$Promises", "keyUsed", "LJobLoop$Row;", true)
  | 4 => ("JobLoop$Promises", "waitedFor", "LJobLoop$Row;", true)
  | 5 => ("JobLoop$Promises", "adopted", "LJobLoop$Row;", true)
  | 6 => ("JobLoop$Promises", "reactions", "LJobLoop$Row;", true)
  | 7 => ("JobLoop$Promises", "firstReaction", "LJobLoop$Row;", true)
  | 8 => ("JobLoop$Promises", "lastReaction", "LJobLoop$Row;", true)
  | 9 => ("JobLoop$Promises", "next", "LJobLoop$Row;", true)
  | 10 => ("JobLoop$Promises", "source", "LJobLoop$Row;", true)
  | 11 => ("JobLoop$Promises", "made", "I", false)
  | 12 => ("JobLoop$Promises", "jobs", "I", false)
  | 13 => ("JobLoop$Promises", "firstJob", "I", false)
  | _ => ("JobLoop$Promises", "lastJob", "I", false)
def tyX3 : Nat → FieldType := fun k => match k with
  | 0 => .object "JobLoop$Row"
  | 1 => .object "JobLoop$Row"
  | 2 => .object "JobLoop$Row"
  | 3 => .object "JobLoop$Row"
  | 4 => .object "JobLoop$Row"
  | 5 => .object "JobLoop$Row"
  | 6 => .object "JobLoop$Row"
  | 7 => .object "JobLoop$Row"
  | 8 => .object "JobLoop$Row"
  | 9 => .object "JobLoop$Row"
  | 10 => .object "JobLoop$Row"
  | 11 => .int
  | 12 => .int
  | 13 => .int
  | _ => .int
abbrev wsX30 : List Cond := u_ws RX3 TX3 15
theorem nmX3 : ∀ a, a < 15 → ∀ b, b < 15 → a ≠ b → (TX3 a).2.1 ≠ (TX3 b).2.1 := by decide +kernel
theorem tyX3_ok : ∀ k, k < 15 → parseFieldDescriptor (TX3 k).2.2.1 = some (tyX3 k) := by decide +kernel
abbrev cX3_init : ByteArray := prog_5_method_1_code
def yX3_init : MethodName := ⟨RX3, "<init>", "()V"⟩
abbrev cX3_clear : ByteArray := prog_5_method_2_code
def yX3_clear : MethodName := ⟨RX3, "clear", "()V"⟩
abbrev cX3_made : ByteArray := prog_5_method_3_code
def yX3_made : MethodName := ⟨RX3, "made", "()I"⟩
abbrev cX3_isFull : ByteArray := prog_5_method_4_code
def yX3_isFull : MethodName := ⟨RX3, "isFull", "()Z"⟩
abbrev cX3_has : ByteArray := prog_5_method_5_code
def yX3_has : MethodName := ⟨RX3, "has", "(I)Z"⟩
abbrev cX3_statusOf : ByteArray := prog_5_method_6_code
def yX3_statusOf : MethodName := ⟨RX3, "statusOf", "(I)I"⟩
abbrev cX3_valueOf : ByteArray := prog_5_method_7_code
def yX3_valueOf : MethodName := ⟨RX3, "valueOf", "(I)J"⟩
abbrev cX3_lastKeyOf : ByteArray := prog_5_method_8_code
def yX3_lastKeyOf : MethodName := ⟨RX3, "lastKeyOf", "(I)I"⟩
abbrev cX3_isKeyUsed : ByteArray := prog_5_method_9_code
def yX3_isKeyUsed : MethodName := ⟨RX3, "isKeyUsed", "(I)Z"⟩
abbrev cX3_reactionsOf : ByteArray := prog_5_method_10_code
def yX3_reactionsOf : MethodName := ⟨RX3, "reactionsOf", "(I)I"⟩
abbrev cX3_isLoose : ByteArray := prog_5_method_11_code
def yX3_isLoose : MethodName := ⟨RX3, "isLoose", "(I)Z"⟩
abbrev cX3_loose : ByteArray := prog_5_method_12_code
def yX3_loose : MethodName := ⟨RX3, "loose", "()I"⟩
abbrev cX3_make : ByteArray := prog_5_method_13_code
def yX3_make : MethodName := ⟨RX3, "make", "()I"⟩
abbrev cX3_promiseFor : ByteArray := prog_5_method_14_code
def yX3_promiseFor : MethodName := ⟨RX3, "promiseFor", "(J)I"⟩
abbrev cX3_addKey : ByteArray := prog_5_method_15_code
def yX3_addKey : MethodName := ⟨RX3, "addKey", "(I)I"⟩
abbrev cX3_toAdopt : ByteArray := prog_5_method_16_code
def yX3_toAdopt : MethodName := ⟨RX3, "toAdopt", "(I)J"⟩
abbrev cX3_settleBy : ByteArray := prog_5_method_17_code
def yX3_settleBy : MethodName := ⟨RX3, "settleBy", "(IIJI)V"⟩
abbrev cX3_waitFor : ByteArray := prog_5_method_18_code
def yX3_waitFor : MethodName := ⟨RX3, "waitFor", "(II)V"⟩
abbrev cX3_lineUp : ByteArray := prog_5_method_19_code
def yX3_lineUp : MethodName := ⟨RX3, "lineUp", "(III)V"⟩
abbrev cX3_jobs : ByteArray := prog_5_method_20_code
def yX3_jobs : MethodName := ⟨RX3, "jobs", "()I"⟩
abbrev cX3_takeJob : ByteArray := prog_5_method_21_code
def yX3_takeJob : MethodName := ⟨RX3, "takeJob", "()I"⟩
abbrev cX3_sourceOf : ByteArray := prog_5_method_22_code
def yX3_sourceOf : MethodName := ⟨RX3, "sourceOf", "(I)I"⟩
def RX4 : String := "JobLoop$Row"
def TX4 : u_T := fun k => match k with
  | _ => ("JobLoop$Row", "cells", "[J", true)
def tyX4 : Nat → FieldType := fun k => match k with
  | _ => .array .long
abbrev wsX40 : List Cond := u_ws RX4 TX4 1
theorem nmX4 : ∀ a, a < 1 → ∀ b, b < 1 → a ≠ b → (TX4 a).2.1 ≠ (TX4 b).2.1 := by decide +kernel
theorem tyX4_ok : ∀ k, k < 1 → parseFieldDescriptor (TX4 k).2.2.1 = some (tyX4 k) := by decide +kernel
abbrev cX4_init : ByteArray := prog_6_method_1_code
def yX4_init : MethodName := ⟨RX4, "<init>", "(I)V"⟩
abbrev cX4_at : ByteArray := prog_6_method_2_code
def yX4_at : MethodName := ⟨RX4, "at", "(I)I"⟩
abbrev cX4_valueAt : ByteArray := prog_6_method_3_code
def yX4_valueAt : MethodName := ⟨RX4, "valueAt", "(I)J"⟩
abbrev cX4_put : ByteArray := prog_6_method_4_code
def yX4_put : MethodName := ⟨RX4, "put", "(IJ)V"⟩
abbrev cX4_fill : ByteArray := prog_6_method_5_code
def yX4_fill : MethodName := ⟨RX4, "fill", "(J)V"⟩
def RX5 : String := "JobLoop$Runner"
def TX5 : u_T := fun k => match k with
  | 0 => ("JobLoop$Runner", "functions", "LJobLoop$Functions;", true)
  | 1 => ("JobLoop$Runner", "promises", "LJobLoop$Promises;", true)
  | 2 => ("JobLoop$Runner", "tasks", "LJobLoop$Tasks;", true)
  | 3 => ("JobLoop$Runner", "notes", "LJobLoop$Notes;", true)
  | 4 => ("JobLoop$Runner", "function", "LJobLoop$Row;", true)
  | 5 => ("JobLoop$Runner", "place", "LJobLoop$Row;", true)
  | 6 => ("JobLoop$Runner", "xs", "LJobLoop$Row;", true)
  | 7 => ("JobLoop$Runner", "caller", "LJobLoop$Row;", true)
  | 8 => ("JobLoop$Runner", "stopped", "LJobLoop$Row;", true)
  | 9 => ("JobLoop$Runner", "onFulfilled", "LJobLoop$Row;", true)
  | 10 => ("JobLoop$Runner", "onRejected", "LJobLoop$Row;", true)
  | 11 => ("JobLoop$Runner", "current", "I", false)
  | 12 => ("JobLoop$Runner", "doneFor", "I", false)
  | _ => ("JobLoop$Runner", "steps", "I", false)
def tyX5 : Nat → FieldType := fun k => match k with
  | 0 => .object "JobLoop$Functions"
  | 1 => .object "JobLoop$Promises"
  | 2 => .object "JobLoop$Tasks"
  | 3 => .object "JobLoop$Notes"
  | 4 => .object "JobLoop$Row"
  | 5 => .object "JobLoop$Row"
  | 6 => .object "JobLoop$Row"
  | 7 => .object "JobLoop$Row"
  | 8 => .object "JobLoop$Row"
  | 9 => .object "JobLoop$Row"
  | 10 => .object "JobLoop$Row"
  | 11 => .int
  | 12 => .int
  | _ => .int
abbrev wsX50 : List Cond := u_ws RX5 TX5 14
theorem nmX5 : ∀ a, a < 14 → ∀ b, b < 14 → a ≠ b → (TX5 a).2.1 ≠ (TX5 b).2.1 := by decide +kernel
theorem tyX5_ok : ∀ k, k < 14 → parseFieldDescriptor (TX5 k).2.2.1 = some (tyX5 k) := by decide +kernel
abbrev cX5_init : ByteArray := prog_7_method_1_code
def yX5_init : MethodName := ⟨RX5, "<init>", "(LJobLoop$Functions;LJobLoop$Promises;LJobLoop$Tasks;LJobLoop$Notes;)V"⟩
abbrev cX5_clear : ByteArray := prog_7_method_2_code
def yX5_clear : MethodName := ⟨RX5, "clear", "()V"⟩
abbrev cX5_isStopped : ByteArray := prog_7_method_3_code
def yX5_isStopped : MethodName := ⟨RX5, "isStopped", "(I)Z"⟩
abbrev cX5_addHandlers : ByteArray := prog_7_method_4_code
def yX5_addHandlers : MethodName := ⟨RX5, "addHandlers", "(III)I"⟩
abbrev cX5_handle : ByteArray := prog_7_method_5_code
def yX5_handle : MethodName := ⟨RX5, "handle", "(IIJ)V"⟩
abbrev cX5_perform : ByteArray := prog_7_method_6_code
def yX5_perform : MethodName := ⟨RX5, "perform", "(IJI)V"⟩
abbrev cX5_begin : ByteArray := prog_7_method_7_code
def yX5_begin : MethodName := ⟨RX5, "begin", "(IJ)I"⟩
abbrev cX5_enter : ByteArray := prog_7_method_8_code
def yX5_enter : MethodName := ⟨RX5, "enter", "(IIJ)V"⟩
abbrev cX5_resume : ByteArray := prog_7_method_9_code
def yX5_resume : MethodName := ⟨RX5, "resume", "(IIJ)V"⟩
abbrev cX5_goOn : ByteArray := prog_7_method_10_code
def yX5_goOn : MethodName := ⟨RX5, "goOn", "()V"⟩
abbrev cX5_doStep : ByteArray := prog_7_method_11_code
def yX5_doStep : MethodName := ⟨RX5, "doStep", "(II)I"⟩
abbrev cX5_faultOf : ByteArray := prog_7_method_12_code
def yX5_faultOf : MethodName := ⟨RX5, "faultOf", "(IIJ)I"⟩
abbrev cX5_jumpIfZero : ByteArray := prog_7_method_13_code
def yX5_jumpIfZero : MethodName := ⟨RX5, "jumpIfZero", "(II)V"⟩
abbrev cX5_jumpIfAbove : ByteArray := prog_7_method_14_code
def yX5_jumpIfAbove : MethodName := ⟨RX5, "jumpIfAbove", "(II)V"⟩
abbrev cX5_giveZero : ByteArray := prog_7_method_15_code
def yX5_giveZero : MethodName := ⟨RX5, "giveZero", "(I)I"⟩
abbrev cX5_leaveTry : ByteArray := prog_7_method_16_code
def yX5_leaveTry : MethodName := ⟨RX5, "leaveTry", "(II)Z"⟩
abbrev cX5_stop : ByteArray := prog_7_method_17_code
def yX5_stop : MethodName := ⟨RX5, "stop", "(I)V"⟩
abbrev cX5_end : ByteArray := prog_7_method_18_code
def yX5_end : MethodName := ⟨RX5, "end", "(II)V"⟩
def RX6 : String := "JobLoop$Tasks"
def TX6 : u_T := fun k => match k with
  | 0 => ("JobLoop$Tasks", "functions", "LJobLoop$Row;", true)
  | 1 => ("JobLoop$Tasks", "values", "LJobLoop$Row;", true)
  | 2 => ("JobLoop$Tasks", "dues", "LJobLoop$Row;", true)
  | 3 => ("JobLoop$Tasks", "size", "I", false)
  | _ => ("JobLoop$Tasks", "time", "I", false)
def tyX6 : Nat → FieldType := fun k => match k with
  | 0 => .object "JobLoop$Row"
  | 1 => .object "JobLoop$Row"
  | 2 => .object "JobLoop$Row"
  | 3 => .int
  | _ => .int
abbrev wsX60 : List Cond := u_ws RX6 TX6 5
theorem nmX6 : ∀ a, a < 5 → ∀ b, b < 5 → a ≠ b → (TX6 a).2.1 ≠ (TX6 b).2.1 := by decide +kernel
theorem tyX6_ok : ∀ k, k < 5 → parseFieldDescriptor (TX6 k).2.2.1 = some (tyX6 k) := by decide +kernel
abbrev cX6_init : ByteArray := prog_8_method_1_code
def yX6_init : MethodName := ⟨RX6, "<init>", "()V"⟩
abbrev cX6_clear : ByteArray := prog_8_method_2_code
def yX6_clear : MethodName := ⟨RX6, "clear", "()V"⟩
abbrev cX6_size : ByteArray := prog_8_method_3_code
def yX6_size : MethodName := ⟨RX6, "size", "()I"⟩
abbrev cX6_time : ByteArray := prog_8_method_4_code
def yX6_time : MethodName := ⟨RX6, "time", "()I"⟩
abbrev cX6_isFull : ByteArray := prog_8_method_5_code
def yX6_isFull : MethodName := ⟨RX6, "isFull", "()Z"⟩
abbrev cX6_add : ByteArray := prog_8_method_6_code
def yX6_add : MethodName := ⟨RX6, "add", "(IJI)I"⟩
abbrev cX6_dueFirst : ByteArray := prog_8_method_7_code
def yX6_dueFirst : MethodName := ⟨RX6, "dueFirst", "()I"⟩
abbrev cX6_functionOf : ByteArray := prog_8_method_8_code
def yX6_functionOf : MethodName := ⟨RX6, "functionOf", "(I)I"⟩
abbrev cX6_valueOf : ByteArray := prog_8_method_9_code
def yX6_valueOf : MethodName := ⟨RX6, "valueOf", "(I)J"⟩
abbrev cX6_finish : ByteArray := prog_8_method_10_code
def yX6_finish : MethodName := ⟨RX6, "finish", "(I)V"⟩
def RX7 : String := "JobLoop$Thenables"
def TX7 : u_T := fun k => match k with
  | 0 => ("JobLoop$Thenables", "kinds", "LJobLoop$Row;", true)
  | 1 => ("JobLoop$Thenables", "us", "LJobLoop$Row;", true)
  | _ => ("JobLoop$Thenables", "ws", "LJobLoop$Row;", true)
def tyX7 : Nat → FieldType := fun k => match k with
  | 0 => .object "JobLoop$Row"
  | 1 => .object "JobLoop$Row"
  | _ => .object "JobLoop$Row"
abbrev wsX70 : List Cond := u_ws RX7 TX7 3
theorem nmX7 : ∀ a, a < 3 → ∀ b, b < 3 → a ≠ b → (TX7 a).2.1 ≠ (TX7 b).2.1 := by decide +kernel
theorem tyX7_ok : ∀ k, k < 3 → parseFieldDescriptor (TX7 k).2.2.1 = some (tyX7 k) := by decide +kernel
abbrev cX7_init : ByteArray := prog_9_method_1_code
def yX7_init : MethodName := ⟨RX7, "<init>", "()V"⟩
abbrev cX7_clear : ByteArray := prog_9_method_2_code
def yX7_clear : MethodName := ⟨RX7, "clear", "()V"⟩
abbrev cX7_change : ByteArray := prog_9_method_3_code
def yX7_change : MethodName := ⟨RX7, "change", "(IIJJ)V"⟩
abbrev cX7_kindOf : ByteArray := prog_9_method_4_code
def yX7_kindOf : MethodName := ⟨RX7, "kindOf", "(I)I"⟩
abbrev cX7_uOf : ByteArray := prog_9_method_5_code
def yX7_uOf : MethodName := ⟨RX7, "uOf", "(I)J"⟩
abbrev cX7_wOf : ByteArray := prog_9_method_6_code
def yX7_wOf : MethodName := ⟨RX7, "wOf", "(I)J"⟩
def RX8 : String := "JobLoop$Value"
def TX8 : u_T := fun k => match k with
  | _ => ("", "", "", false)
def tyX8 : Nat → FieldType := fun k => match k with
  | _ => .int
abbrev wsX80 : List Cond := u_ws RX8 TX8 0
theorem nmX8 : ∀ a, a < 0 → ∀ b, b < 0 → a ≠ b → (TX8 a).2.1 ≠ (TX8 b).2.1 := by decide +kernel
theorem tyX8_ok : ∀ k, k < 0 → parseFieldDescriptor (TX8 k).2.2.1 = some (tyX8 k) := by decide +kernel
abbrev cX8_of : ByteArray := prog_10_method_2_code
def yX8_of : MethodName := ⟨RX8, "of", "(II)J"⟩
abbrev cX8_sortOf : ByteArray := prog_10_method_3_code
def yX8_sortOf : MethodName := ⟨RX8, "sortOf", "(J)I"⟩
abbrev cX8_numberOf : ByteArray := prog_10_method_4_code
def yX8_numberOf : MethodName := ⟨RX8, "numberOf", "(J)I"⟩
abbrev cX8_exists : ByteArray := prog_10_method_5_code
def yX8_exists : MethodName := ⟨RX8, "exists", "(III)Z"⟩
def RX9 : String := "JobLoop"
def TX9 : u_T := fun k => match k with
  | 0 => ("JobLoop", "promises", "LJobLoop$Promises;", true)
  | 1 => ("JobLoop", "thenables", "LJobLoop$Thenables;", true)
  | 2 => ("JobLoop", "functions", "LJobLoop$Functions;", true)
  | 3 => ("JobLoop", "tasks", "LJobLoop$Tasks;", true)
  | 4 => ("JobLoop", "notes", "LJobLoop$Notes;", true)
  | 5 => ("JobLoop", "groups", "LJobLoop$Groups;", true)
  | _ => ("JobLoop", "runner", "LJobLoop$Runner;", true)
def tyX9 : Nat → FieldType := fun k => match k with
  | 0 => .object "JobLoop$Promises"
  | 1 => .object "JobLoop$Thenables"
  | 2 => .object "JobLoop$Functions"
  | 3 => .object "JobLoop$Tasks"
  | 4 => .object "JobLoop$Notes"
  | 5 => .object "JobLoop$Groups"
  | _ => .object "JobLoop$Runner"
abbrev wsX90 : List Cond := u_ws RX9 TX9 7
theorem nmX9 : ∀ a, a < 7 → ∀ b, b < 7 → a ≠ b → (TX9 a).2.1 ≠ (TX9 b).2.1 := by decide +kernel
theorem tyX9_ok : ∀ k, k < 7 → parseFieldDescriptor (TX9 k).2.2.1 = some (tyX9 k) := by decide +kernel
abbrev cX9_init : ByteArray := prog_1_method_1_code
def yX9_init : MethodName := ⟨RX9, "<init>", "()V"⟩
abbrev cX9_promise : ByteArray := prog_1_method_2_code
def yX9_promise : MethodName := ⟨RX9, "promise", "()I"⟩
abbrev cX9_resolve : ByteArray := prog_1_method_3_code
def yX9_resolve : MethodName := ⟨RX9, "resolve", "(III)Z"⟩
abbrev cX9_reject : ByteArray := prog_1_method_4_code
def yX9_reject : MethodName := ⟨RX9, "reject", "(III)Z"⟩
abbrev cX9_settleFromOutside : ByteArray := prog_1_method_5_code
def yX9_settleFromOutside : MethodName := ⟨RX9, "settleFromOutside", "(IIII)Z"⟩
abbrev cX9_then : ByteArray := prog_1_method_6_code
def yX9_then : MethodName := ⟨RX9, "then", "(III)I"⟩
abbrev cX9_thenable : ByteArray := prog_1_method_7_code
def yX9_thenable : MethodName := ⟨RX9, "thenable", "(IIIIII)Z"⟩
abbrev cX9_step : ByteArray := prog_1_method_8_code
def yX9_step : MethodName := ⟨RX9, "step", "(IIII)I"⟩
abbrev cX9_empty : ByteArray := prog_1_method_9_code
def yX9_empty : MethodName := ⟨RX9, "empty", "(I)I"⟩
abbrev cX9_start : ByteArray := prog_1_method_10_code
def yX9_start : MethodName := ⟨RX9, "start", "(III)I"⟩
abbrev cX9_later : ByteArray := prog_1_method_11_code
def yX9_later : MethodName := ⟨RX9, "later", "(IIII)I"⟩
abbrev cX9_item : ByteArray := prog_1_method_12_code
def yX9_item : MethodName := ⟨RX9, "item", "(II)I"⟩
abbrev cX9_group : ByteArray := prog_1_method_13_code
def yX9_group : MethodName := ⟨RX9, "group", "(I)I"⟩
abbrev cX9_run : ByteArray := prog_1_method_14_code
def yX9_run : MethodName := ⟨RX9, "run", "(I)I"⟩
abbrev cX9_forget : ByteArray := prog_1_method_15_code
def yX9_forget : MethodName := ⟨RX9, "forget", "()I"⟩
abbrev cX9_state : ByteArray := prog_1_method_16_code
def yX9_state : MethodName := ⟨RX9, "state", "(II)I"⟩
abbrev cX9_noted : ByteArray := prog_1_method_17_code
def yX9_noted : MethodName := ⟨RX9, "noted", "(II)J"⟩
abbrev cX9_count : ByteArray := prog_1_method_18_code
def yX9_count : MethodName := ⟨RX9, "count", "(I)I"⟩
abbrev cX9_doJob : ByteArray := prog_1_method_19_code
def yX9_doJob : MethodName := ⟨RX9, "doJob", "(I)V"⟩
abbrev cX9_adopt : ByteArray := prog_1_method_20_code
def yX9_adopt : MethodName := ⟨RX9, "adopt", "(IJI)V"⟩
abbrev cX9_doTask : ByteArray := prog_1_method_21_code
def yX9_doTask : MethodName := ⟨RX9, "doTask", "(I)V"⟩
abbrev cX9_isValue : ByteArray := prog_1_method_22_code
def yX9_isValue : MethodName := ⟨RX9, "isValue", "(II)Z"⟩
abbrev cX9_isFunction : ByteArray := prog_1_method_23_code
def yX9_isFunction : MethodName := ⟨RX9, "isFunction", "(I)Z"⟩
abbrev cX9_isHandler : ByteArray := prog_1_method_24_code
def yX9_isHandler : MethodName := ⟨RX9, "isHandler", "(I)Z"⟩
abbrev cX9_isWithin : ByteArray := prog_1_method_25_code
def yX9_isWithin : MethodName := ⟨RX9, "isWithin", "(II)Z"⟩
abbrev cX9_jobOf : ByteArray := prog_1_method_26_code
def yX9_jobOf : MethodName := ⟨RX9, "jobOf", "(II)I"⟩
def RX10 : String := "JobLoopModel"
def TX10 : u_T := fun k => match k with
  | 0 => ("JobLoopModel", "how", "[I", true)
  | 1 => ("JobLoopModel", "sort", "[I", true)
  | 2 => ("JobLoopModel", "num", "[I", true)
  | 3 => ("JobLoopModel", "key", "[I", true)
  | 4 => ("JobLoopModel", "stopF", "[I", true)
  | 5 => ("JobLoopModel", "stopAt", "[I", true)
  | 6 => ("JobLoopModel", "used", "[Z", true)
  | 7 => ("JobLoopModel", "waited", "[Z", true)
  | 8 => ("JobLoopModel", "stopped", "[Z", true)
  | 9 => ("JobLoopModel", "promises", "I", false)
  | 10 => ("JobLoopModel", "what", "[I", true)
  | 11 => ("JobLoopModel", "on", "[I", true)
  | 12 => ("JobLoopModel", "order", "[I", true)
  | 13 => ("JobLoopModel", "a", "[I", true)
  | 14 => ("JobLoopModel", "b", "[I", true)
  | 15 => ("JobLoopModel", "c", "[I", true)
  | 16 => ("JobLoopModel", "with", "[I", true)
  | 17 => ("JobLoopModel", "vSort", "[I", true)
  | 18 => ("JobLoopModel", "vNum", "[I", true)
  | 19 => ("JobLoopModel", "clock", "I", false)
  | 20 => ("JobLoopModel", "kind", "[I", true)
  | 21 => ("JobLoopModel", "uSort", "[I", true)
  | 22 => ("JobLoopModel", "u", "[I", true)
  | 23 => ("JobLoopModel", "wSort", "[I", true)
  | 24 => ("JobLoopModel", "w", "[I", true)
  | 25 => ("JobLoopModel", "steps", "[I", true)
  | 26 => ("JobLoopModel", "stepWhat", "[I", true)
  | 27 => ("JobLoopModel", "stepSort", "[I", true)
  | 28 => ("JobLoopModel", "stepN", "[I", true)
  | 29 => ("JobLoopModel", "groupKind", "[I", true)
  | 30 => ("JobLoopModel", "groupSize", "[I", true)
  | 31 => ("JobLoopModel", "groupCount", "[I", true)
  | 32 => ("JobLoopModel", "groupSum", "[I", true)
  | 33 => ("JobLoopModel", "itemSort", "[I", true)
  | 34 => ("JobLoopModel", "itemNum", "[I", true)
  | 35 => ("JobLoopModel", "items", "I", false)
  | 36 => ("JobLoopModel", "due", "[I", true)
  | 37 => ("JobLoopModel", "taskOrder", "[I", true)
  | 38 => ("JobLoopModel", "taskF", "[I", true)
  | 39 => ("JobLoopModel", "taskSort", "[I", true)
  | 40 => ("JobLoopModel", "taskNum", "[I", true)
  | 41 => ("JobLoopModel", "time", "I", false)
  | 42 => ("JobLoopModel", "turns", "I", false)
  | 43 => ("JobLoopModel", "noteSort", "[I", true)
  | 44 => ("JobLoopModel", "noteNum", "[I", true)
  | 45 => ("JobLoopModel", "noteTurn", "[I", true)
  | 46 => ("JobLoopModel", "notes", "I", false)
  | 47 => ("JobLoopModel", "runF", "[I", true)
  | 48 => ("JobLoopModel", "runAt", "[I", true)
  | 49 => ("JobLoopModel", "xSort", "[I", true)
  | 50 => ("JobLoopModel", "xNum", "[I", true)
  | 51 => ("JobLoopModel", "runFor", "[I", true)
  | 52 => ("JobLoopModel", "top", "I", false)
  | 53 => ("JobLoopModel", "taken", "I", false)
  | 54 => ("JobLoopModel", "gaveSort", "I", false)
  | 55 => ("JobLoopModel", "gaveNum", "I", false)
  | _ => ("JobLoopModel", "threw", "Z", false)
def tyX10 : Nat → FieldType := fun k => match k with
  | 0 => .array .int
  | 1 => .array .int
  | 2 => .array .int
  | 3 => .array .int
  | 4 => .array .int
  | 5 => .array .int
  | 6 => .array .boolean
  | 7 => .array .boolean
  | 8 => .array .boolean
  | 9 => .int
  | 10 => .array .int
  | 11 => .array .int
  | 12 => .array .int
  | 13 => .array .int
  | 14 => .array .int
  | 15 => .array .int
  | 16 => .array .int
  | 17 => .array .int
  | 18 => .array .int
  | 19 => .int
  | 20 => .array .int
  | 21 => .array .int
  | 22 => .array .int
  | 23 => .array .int
  | 24 => .array .int
  | 25 => .array .int
  | 26 => .array .int
  | 27 => .array .int
  | 28 => .array .int
  | 29 => .array .int
  | 30 => .array .int
  | 31 => .array .int
  | 32 => .array .int
  | 33 => .array .int
  | 34 => .array .int
  | 35 => .int
  | 36 => .array .int
  | 37 => .array .int
  | 38 => .array .int
  | 39 => .array .int
  | 40 => .array .int
  | 41 => .int
  | 42 => .int
  | 43 => .array .int
  | 44 => .array .int
  | 45 => .array .int
  | 46 => .int
  | 47 => .array .int
  | 48 => .array .int
  | 49 => .array .int
  | 50 => .array .int
  | 51 => .array .int
  | 52 => .int
  | 53 => .int
  | 54 => .int
  | 55 => .int
  | _ => .boolean
abbrev wsX100 : List Cond := u_ws RX10 TX10 57
theorem nmX10 : ∀ a, a < 57 → ∀ b, b < 57 → a ≠ b → (TX10 a).2.1 ≠ (TX10 b).2.1 := by decide +kernel
theorem tyX10_ok : ∀ k, k < 57 → parseFieldDescriptor (TX10 k).2.2.1 = some (tyX10 k) := by decide +kernel
abbrev cX10_init : ByteArray := prog_12_method_1_code
def yX10_init : MethodName := ⟨RX10, "<init>", "()V"⟩
abbrev cX10_clear : ByteArray := prog_12_method_2_code
def yX10_clear : MethodName := ⟨RX10, "clear", "()V"⟩
abbrev cX10_in : ByteArray := prog_12_method_3_code
def yX10_in : MethodName := ⟨RX10, "in", "(III)Z"⟩
abbrev cX10_isPromise : ByteArray := prog_12_method_4_code
def yX10_isPromise : MethodName := ⟨RX10, "isPromise", "(I)Z"⟩
abbrev cX10_isValue : ByteArray := prog_12_method_5_code
def yX10_isValue : MethodName := ⟨RX10, "isValue", "(II)Z"⟩
abbrev cX10_promise : ByteArray := prog_12_method_6_code
def yX10_promise : MethodName := ⟨RX10, "promise", "()I"⟩
abbrev cX10_enter : ByteArray := prog_12_method_7_code
def yX10_enter : MethodName := ⟨RX10, "enter", "(IIIII)I"⟩
abbrev cX10_carry : ByteArray := prog_12_method_8_code
def yX10_carry : MethodName := ⟨RX10, "carry", "(IIII)V"⟩
abbrev cX10_firstOn : ByteArray := prog_12_method_9_code
def yX10_firstOn : MethodName := ⟨RX10, "firstOn", "(I)I"⟩
abbrev cX10_settle : ByteArray := prog_12_method_10_code
def yX10_settle : MethodName := ⟨RX10, "settle", "(IIII)V"⟩
abbrev cX10_takes : ByteArray := prog_12_method_11_code
def yX10_takes : MethodName := ⟨RX10, "takes", "(II)Z"⟩
abbrev cX10_resolveBy : ByteArray := prog_12_method_12_code
def yX10_resolveBy : MethodName := ⟨RX10, "resolveBy", "(IIII)V"⟩
abbrev cX10_rejectBy : ByteArray := prog_12_method_13_code
def yX10_rejectBy : MethodName := ⟨RX10, "rejectBy", "(IIII)V"⟩
abbrev cX10_endBy : ByteArray := prog_12_method_14_code
def yX10_endBy : MethodName := ⟨RX10, "endBy", "(IZIII)V"⟩
abbrev cX10_waitFor : ByteArray := prog_12_method_15_code
def yX10_waitFor : MethodName := ⟨RX10, "waitFor", "(IIIII)V"⟩
abbrev cX10_resolve : ByteArray := prog_12_method_16_code
def yX10_resolve : MethodName := ⟨RX10, "resolve", "(III)Z"⟩
abbrev cX10_reject : ByteArray := prog_12_method_17_code
def yX10_reject : MethodName := ⟨RX10, "reject", "(III)Z"⟩
abbrev cX10_then : ByteArray := prog_12_method_18_code
def yX10_then : MethodName := ⟨RX10, "then", "(III)I"⟩
abbrev cX10_thenable : ByteArray := prog_12_method_19_code
def yX10_thenable : MethodName := ⟨RX10, "thenable", "(IIIIII)Z"⟩
abbrev cX10_step : ByteArray := prog_12_method_20_code
def yX10_step : MethodName := ⟨RX10, "step", "(IIII)I"⟩
abbrev cX10_empty : ByteArray := prog_12_method_21_code
def yX10_empty : MethodName := ⟨RX10, "empty", "(I)I"⟩
abbrev cX10_begin : ByteArray := prog_12_method_22_code
def yX10_begin : MethodName := ⟨RX10, "begin", "(IIIII)V"⟩
abbrev cX10_put : ByteArray := prog_12_method_23_code
def yX10_put : MethodName := ⟨RX10, "put", "(II)V"⟩
abbrev cX10_endOf : ByteArray := prog_12_method_24_code
def yX10_endOf : MethodName := ⟨RX10, "endOf", "(II)I"⟩
abbrev cX10_fling : ByteArray := prog_12_method_25_code
def yX10_fling : MethodName := ⟨RX10, "fling", "(II)V"⟩
abbrev cX10_finish : ByteArray := prog_12_method_26_code
def yX10_finish : MethodName := ⟨RX10, "finish", "(ZII)V"⟩
abbrev cX10_note : ByteArray := prog_12_method_27_code
def yX10_note : MethodName := ⟨RX10, "note", "(II)V"⟩
abbrev cX10_awaits : ByteArray := prog_12_method_28_code
def yX10_awaits : MethodName := ⟨RX10, "awaits", "()V"⟩
abbrev cX10_make : ByteArray := prog_12_method_29_code
def yX10_make : MethodName := ⟨RX10, "make", "()I"⟩
abbrev cX10_does : ByteArray := prog_12_method_30_code
def yX10_does : MethodName := ⟨RX10, "does", "(III)V"⟩
abbrev cX10_go : ByteArray := prog_12_method_31_code
def yX10_go : MethodName := ⟨RX10, "go", "()V"⟩
abbrev cX10_start : ByteArray := prog_12_method_32_code
def yX10_start : MethodName := ⟨RX10, "start", "(III)I"⟩
abbrev cX10_task : ByteArray := prog_12_method_33_code
def yX10_task : MethodName := ⟨RX10, "task", "(IIII)Z"⟩
abbrev cX10_later : ByteArray := prog_12_method_34_code
def yX10_later : MethodName := ⟨RX10, "later", "(IIII)I"⟩
abbrev cX10_item : ByteArray := prog_12_method_35_code
def yX10_item : MethodName := ⟨RX10, "item", "(II)I"⟩
abbrev cX10_group : ByteArray := prog_12_method_36_code
def yX10_group : MethodName := ⟨RX10, "group", "(I)I"⟩
abbrev cX10_placed : ByteArray := prog_12_method_37_code
def yX10_placed : MethodName := ⟨RX10, "placed", "(IIIII)V"⟩
abbrev cX10_adopt : ByteArray := prog_12_method_38_code
def yX10_adopt : MethodName := ⟨RX10, "adopt", "(III)V"⟩
abbrev cX10_done : ByteArray := prog_12_method_39_code
def yX10_done : MethodName := ⟨RX10, "done", "(III)V"⟩
abbrev cX10_job : ByteArray := prog_12_method_40_code
def yX10_job : MethodName := ⟨RX10, "job", "(I)V"⟩
abbrev cX10_turn : ByteArray := prog_12_method_41_code
def yX10_turn : MethodName := ⟨RX10, "turn", "()Z"⟩
abbrev cX10_run : ByteArray := prog_12_method_42_code
def yX10_run : MethodName := ⟨RX10, "run", "(I)I"⟩
abbrev cX10_forget : ByteArray := prog_12_method_43_code
def yX10_forget : MethodName := ⟨RX10, "forget", "()I"⟩
abbrev cX10_isLoose : ByteArray := prog_12_method_44_code
def yX10_isLoose : MethodName := ⟨RX10, "isLoose", "(I)Z"⟩
abbrev cX10_state : ByteArray := prog_12_method_45_code
def yX10_state : MethodName := ⟨RX10, "state", "(II)I"⟩
abbrev cX10_waiting : ByteArray := prog_12_method_46_code
def yX10_waiting : MethodName := ⟨RX10, "waiting", "(I)I"⟩
abbrev cX10_noted : ByteArray := prog_12_method_47_code
def yX10_noted : MethodName := ⟨RX10, "noted", "(II)J"⟩
abbrev cX10_count : ByteArray := prog_12_method_48_code
def yX10_count : MethodName := ⟨RX10, "count", "(I)I"⟩
def RL : String := "JobLoopLaw"
abbrev cL_law : ByteArray := code
def yL_law : MethodName := ⟨RL, "law", "([I)Z"⟩
abbrev vwCl : List vw_C := [(RX0, TX0, 3), (RX1, TX1, 6), (RX2, TX2, 4), (RX3, TX3, 15), (RX4, TX4, 1), (RX5, TX5, 14), (RX6, TX6, 5), (RX7, TX7, 3), (RX9, TX9, 7), (RX10, TX10, 57)]
set_option maxRecDepth 100000 in
theorem am_hin0 : ∀ w ∈ u_ws RX0 TX0 3, w ∈ am_T := by
  have h : (u_ws RX0 TX0 3).all (fun w => decide (w ∈ am_T)) = true := by decide +kernel
  intro w hw
  exact of_decide_eq_true (List.all_eq_true.mp h w hw)
set_option maxRecDepth 100000 in
theorem am_hin1 : ∀ w ∈ u_ws RX1 TX1 6, w ∈ am_T := by
  have h : (u_ws RX1 TX1 6).all (fun w => decide (w ∈ am_T)) = true := by decide +kernel
  intro w hw
  exact of_decide_eq_true (List.all_eq_true.mp h w hw)
set_option maxRecDepth 100000 in
theorem am_hin2 : ∀ w ∈ u_ws RX2 TX2 4, w ∈ am_T := by
  have h : (u_ws RX2 TX2 4).all (fun w => decide (w ∈ am_T)) = true := by decide +kernel
  intro w hw
  exact of_decide_eq_true (List.all_eq_true.mp h w hw)
set_option maxRecDepth 100000 in
theorem am_hin3 : ∀ w ∈ u_ws RX3 TX3 15, w ∈ am_T := by
  have h : (u_ws RX3 TX3 15).all (fun w => decide (w ∈ am_T)) = true := by decide +kernel
  intro w hw
  exact of_decide_eq_true (List.all_eq_true.mp h w hw)
set_option maxRecDepth 100000 in
theorem am_hin4 : ∀ w ∈ u_ws RX4 TX4 1, w ∈ am_T := by
  have h : (u_ws RX4 TX4 1).all (fun w => decide (w ∈ am_T)) = true := by decide +kernel
  intro w hw
  exact of_decide_eq_true (List.all_eq_true.mp h w hw)
set_option maxRecDepth 100000 in
theorem am_hin5 : ∀ w ∈ u_ws RX5 TX5 14, w ∈ am_T := by
  have h : (u_ws RX5 TX5 14).all (fun w => decide (w ∈ am_T)) = true := by decide +kernel
  intro w hw
  exact of_decide_eq_true (List.all_eq_true.mp h w hw)
set_option maxRecDepth 100000 in
theorem am_hin6 : ∀ w ∈ u_ws RX6 TX6 5, w ∈ am_T := by
  have h : (u_ws RX6 TX6 5).all (fun w => decide (w ∈ am_T)) = true := by decide +kernel
  intro w hw
  exact of_decide_eq_true (List.all_eq_true.mp h w hw)
set_option maxRecDepth 100000 in
theorem am_hin7 : ∀ w ∈ u_ws RX7 TX7 3, w ∈ am_T := by
  have h : (u_ws RX7 TX7 3).all (fun w => decide (w ∈ am_T)) = true := by decide +kernel
  intro w hw
  exact of_decide_eq_true (List.all_eq_true.mp h w hw)
set_option maxRecDepth 100000 in
theorem am_hin9 : ∀ w ∈ u_ws RX9 TX9 7, w ∈ am_T := by
  have h : (u_ws RX9 TX9 7).all (fun w => decide (w ∈ am_T)) = true := by decide +kernel
  intro w hw
  exact of_decide_eq_true (List.all_eq_true.mp h w hw)
set_option maxRecDepth 100000 in
theorem am_hin10 : ∀ w ∈ u_ws RX10 TX10 57, w ∈ am_T := by
  have h : (u_ws RX10 TX10 57).all (fun w => decide (w ∈ am_T)) = true := by decide +kernel
  intro w hw
  exact of_decide_eq_true (List.all_eq_true.mp h w hw)
end
section
set_option maxRecDepth 20000 in
theorem dX0_init_0 : decode cX0_init 0 = .ok (.aload_n 0, 1) := by decide +kernel
set_option maxRecDepth 20000 in
theorem dX0_init_1 : decode cX0_init 1 = .ok (.invokespecial 3, 3) := by decide +kernel
set_option maxRecDepth 20000 in
theorem dX0_init_4 : decode cX0_init 4 = .ok (.aload_n 0, 1) := by decide +kernel
set_option maxRecDepth 20000 in
theorem dX0_init_5 : decode cX0_init 5 = .ok (.new 9, 3) := by decide +kernel
set_option maxRecDepth 20000 in
theorem dX0_init_8 : decode cX0_init 8 = .ok (.dup, 1) := by decide +kernel
set_option maxRecDepth 20000 in
theorem dX0_init_9 : decode cX0_init 9 = .ok (.bipush 10, 2) := by decide +kernel
set_option maxRecDepth 20000 in
theorem dX0_init_11 : decode cX0_init 11 = .ok (.invokespecial 11, 3) := by decide +kernel
set_option maxRecDepth 20000 in
theorem dX0_init_14 : decode cX0_init 14 = .ok (.putfield 14, 3) := by decide +kernel
set_option maxRecDepth 20000 in
theorem dX0_init_17 : decode cX0_init 17 = .ok (.aload_n 0, 1) := by decide +kernel
set_option maxRecDepth 20000 in
theorem dX0_init_18 : decode cX0_init 18 = .ok (.new 9, 3) := by decide +kernel
set_option maxRecDepth 20000 in
theorem dX0_init_21 : decode cX0_init 21 = .ok (.dup, 1) := by decide +kernel
set_option maxRecDepth 20000 in
theorem dX0_init_22 : decode cX0_init 22 = .ok (.bipush 100, 2) := by decide +kernel
set_option maxRecDepth 20000 in
theorem dX0_init_24 : decode cX0_init 24 = .ok (.invokespecial 11, 3) := by decide +kernel
set_option maxRecDepth 20000 in
theorem dX0_init_27 : decode cX0_init 27 = .ok (.putfield 20, 3) := by decide +kernel
set_option maxRecDepth 20000 in
theorem dX0_init_30 : decode cX0_init 30 = .ok (.aload_n 0, 1) := by decide +kernel
set_option maxRecDepth 20000 in
theorem dX0_init_31 : decode cX0_init 31 = .ok (.new 9, 3) := by decide +kernel
set_option maxRecDepth 20000 in
theorem dX0_init_34 : decode cX0_init 34 = .ok (.dup, 1) := by decide +kernel
set_option maxRecDepth 20000 in
theorem dX0_init_35 : decode cX0_init 35 = .ok (.bipush 100, 2) := by decide +kernel
set_option maxRecDepth 20000 in
theorem dX0_init_37 : decode cX0_init 37 = .ok (.invokespecial 11, 3) := by decide +kernel
set_option maxRecDepth 20000 in
theorem dX0_init_40 : decode cX0_init 40 = .ok (.putfield 23, 3) := by decide +kernel
set_option maxRecDepth 20000 in
theorem dX0_init_43 : decode cX0_init 43 = .ok (.return_, 1) := by decide +kernel
set_option maxRecDepth 20000 in
theorem dX0_mayBeStep_0 : decode cX0_mayBeStep 0 = .ok (.iload_n 0, 1) := by decide +kernel
set_option maxRecDepth 20000 in
theorem dX0_mayBeStep_1 : decode cX0_mayBeStep 1 = .ok (.tableswitch 94 2 14 #[67, 94, 94, 94, 94, 94, 75, 87, 87, 75, 75, 80, 80], 67) := by decide +kernel
set_option maxRecDepth 20000 in
theorem dX0_mayBeStep_68 : decode cX0_mayBeStep 68 = .ok (.iload_n 1, 1) := by decide +kernel
set_option maxRecDepth 20000 in
theorem dX0_mayBeStep_69 : decode cX0_mayBeStep 69 = .ok (.iload_n 2, 1) := by decide +kernel
set_option maxRecDepth 20000 in
theorem dX0_mayBeStep_70 : decode cX0_mayBeStep 70 = .ok (.bipush 100, 2) := by decide +kernel
set_option maxRecDepth 20000 in
theorem dX0_mayBeStep_72 : decode cX0_mayBeStep 72 = .ok (.invokestatic 26, 3) := by decide +kernel
set_option maxRecDepth 20000 in
theorem dX0_mayBeStep_75 : decode cX0_mayBeStep 75 = .ok (.ireturn, 1) := by decide +kernel
set_option maxRecDepth 20000 in
theorem dX0_mayBeStep_76 : decode cX0_mayBeStep 76 = .ok (.iload_n 2, 1) := by decide +kernel
set_option maxRecDepth 20000 in
theorem dX0_mayBeStep_77 : decode cX0_mayBeStep 77 = .ok (.invokestatic 32, 3) := by decide +kernel
set_option maxRecDepth 20000 in
theorem dX0_mayBeStep_80 : decode cX0_mayBeStep 80 = .ok (.ireturn, 1) := by decide +kernel
set_option maxRecDepth 20000 in
theorem dX0_mayBeStep_81 : decode cX0_mayBeStep 81 = .ok (.iload_n 2, 1) := by decide +kernel
set_option maxRecDepth 20000 in
theorem dX0_mayBeStep_82 : decode cX0_mayBeStep 82 = .ok (.bipush 11, 2) := by decide +kernel
set_option maxRecDepth 20000 in
theorem dX0_mayBeStep_84 : decode cX0_mayBeStep 84 = .ok (.invokestatic 36, 3) := by decide +kernel
set_option maxRecDepth 20000 in
theorem dX0_mayBeStep_87 : decode cX0_mayBeStep 87 = .ok (.ireturn, 1) := by decide +kernel
set_option maxRecDepth 20000 in
theorem dX0_mayBeStep_88 : decode cX0_mayBeStep 88 = .ok (.iload_n 2, 1) := by decide +kernel
set_option maxRecDepth 20000 in
theorem dX0_mayBeStep_89 : decode cX0_mayBeStep 89 = .ok (.bipush 100, 2) := by decide +kernel
set_option maxRecDepth 20000 in
theorem dX0_mayBeStep_91 : decode cX0_mayBeStep 91 = .ok (.invokestatic 36, 3) := by decide +kernel
set_option maxRecDepth 20000 in
theorem dX0_mayBeStep_94 : decode cX0_mayBeStep 94 = .ok (.ireturn, 1) := by decide +kernel
set_option maxRecDepth 20000 in
theorem dX0_mayBeStep_95 : decode cX0_mayBeStep 95 = .ok (.iload_n 0, 1) := by decide +kernel
set_option maxRecDepth 20000 in
theorem dX0_mayBeStep_96 : decode cX0_mayBeStep 96 = .ok (.bipush 15, 2) := by decide +kernel
set_option maxRecDepth 20000 in
theorem dX0_mayBeStep_98 : decode cX0_mayBeStep 98 = .ok (.invokestatic 36, 3) := by decide +kernel
set_option maxRecDepth 20000 in
theorem dX0_mayBeStep_101 : decode cX0_mayBeStep 101 = .ok (.ireturn, 1) := by decide +kernel
set_option maxRecDepth 20000 in
theorem dX0_isFull_0 : decode cX0_isFull 0 = .ok (.aload_n 0, 1) := by decide +kernel
set_option maxRecDepth 20000 in
theorem dX0_isFull_1 : decode cX0_isFull 1 = .ok (.getfield 14, 3) := by decide +kernel
set_option maxRecDepth 20000 in
theorem dX0_isFull_4 : decode cX0_isFull 4 = .ok (.iload_n 1, 1) := by decide +kernel
set_option maxRecDepth 20000 in
theorem dX0_isFull_5 : decode cX0_isFull 5 = .ok (.invokevirtual 40, 3) := by decide +kernel
set_option maxRecDepth 20000 in
theorem dX0_isFull_8 : decode cX0_isFull 8 = .ok (.bipush 10, 2) := by decide +kernel
set_option maxRecDepth 20000 in
theorem dX0_isFull_10 : decode cX0_isFull 10 = .ok (.if_icmp .lt 7, 3) := by decide +kernel
set_option maxRecDepth 20000 in
theorem dX0_isFull_13 : decode cX0_isFull 13 = .ok (.iconst 1, 1) := by decide +kernel
set_option maxRecDepth 20000 in
theorem dX0_isFull_14 : decode cX0_isFull 14 = .ok (.goto 4, 3) := by decide +kernel
set_option maxRecDepth 20000 in
theorem dX0_isFull_17 : decode cX0_isFull 17 = .ok (.iconst 0, 1) := by decide +kernel
set_option maxRecDepth 20000 in
theorem dX0_isFull_18 : decode cX0_isFull 18 = .ok (.ireturn, 1) := by decide +kernel
set_option maxRecDepth 20000 in
theorem dX0_add_0 : decode cX0_add 0 = .ok (.aload_n 0, 1) := by decide +kernel
set_option maxRecDepth 20000 in
theorem dX0_add_1 : decode cX0_add 1 = .ok (.getfield 14, 3) := by decide +kernel
set_option maxRecDepth 20000 in
theorem dX0_add_4 : decode cX0_add 4 = .ok (.iload_n 1, 1) := by decide +kernel
set_option maxRecDepth 20000 in
theorem dX0_add_5 : decode cX0_add 5 = .ok (.invokevirtual 40, 3) := by decide +kernel
set_option maxRecDepth 20000 in
theorem dX0_add_8 : decode cX0_add 8 = .ok (.istore 5, 2) := by decide +kernel
set_option maxRecDepth 20000 in
theorem dX0_add_10 : decode cX0_add 10 = .ok (.aload_n 0, 1) := by decide +kernel
set_option maxRecDepth 20000 in
theorem dX0_add_11 : decode cX0_add 11 = .ok (.getfield 20, 3) := by decide +kernel
set_option maxRecDepth 20000 in
theorem dX0_add_14 : decode cX0_add 14 = .ok (.iload_n 1, 1) := by decide +kernel
set_option maxRecDepth 20000 in
theorem dX0_add_15 : decode cX0_add 15 = .ok (.bipush 10, 2) := by decide +kernel
set_option maxRecDepth 20000 in
theorem dX0_add_17 : decode cX0_add 17 = .ok (.imul, 1) := by decide +kernel
set_option maxRecDepth 20000 in
theorem dX0_add_18 : decode cX0_add 18 = .ok (.iload 5, 2) := by decide +kernel
set_option maxRecDepth 20000 in
theorem dX0_add_20 : decode cX0_add 20 = .ok (.iadd, 1) := by decide +kernel
set_option maxRecDepth 20000 in
theorem dX0_add_21 : decode cX0_add 21 = .ok (.iload_n 2, 1) := by decide +kernel
set_option maxRecDepth 20000 in
theorem dX0_add_22 : decode cX0_add 22 = .ok (.i2l, 1) := by decide +kernel
set_option maxRecDepth 20000 in
theorem dX0_add_23 : decode cX0_add 23 = .ok (.invokevirtual 44, 3) := by decide +kernel
set_option maxRecDepth 20000 in
theorem dX0_add_26 : decode cX0_add 26 = .ok (.aload_n 0, 1) := by decide +kernel
set_option maxRecDepth 20000 in
theorem dX0_add_27 : decode cX0_add 27 = .ok (.getfield 23, 3) := by decide +kernel
set_option maxRecDepth 20000 in
theorem dX0_add_30 : decode cX0_add 30 = .ok (.iload_n 1, 1) := by decide +kernel
set_option maxRecDepth 20000 in
theorem dX0_add_31 : decode cX0_add 31 = .ok (.bipush 10, 2) := by decide +kernel
set_option maxRecDepth 20000 in
theorem dX0_add_33 : decode cX0_add 33 = .ok (.imul, 1) := by decide +kernel
set_option maxRecDepth 20000 in
theorem dX0_add_34 : decode cX0_add 34 = .ok (.iload 5, 2) := by decide +kernel
set_option maxRecDepth 20000 in
theorem dX0_add_36 : decode cX0_add 36 = .ok (.iadd, 1) := by decide +kernel
set_option maxRecDepth 20000 in
theorem dX0_add_37 : decode cX0_add 37 = .ok (.lload_n 3, 1) := by decide +kernel
set_option maxRecDepth 20000 in
theorem dX0_add_38 : decode cX0_add 38 = .ok (.invokevirtual 44, 3) := by decide +kernel
set_option maxRecDepth 20000 in
theorem dX0_add_41 : decode cX0_add 41 = .ok (.aload_n 0, 1) := by decide +kernel
set_option maxRecDepth 20000 in
theorem dX0_add_42 : decode cX0_add 42 = .ok (.getfield 14, 3) := by decide +kernel
set_option maxRecDepth 20000 in
theorem dX0_add_45 : decode cX0_add 45 = .ok (.iload_n 1, 1) := by decide +kernel
set_option maxRecDepth 20000 in
theorem dX0_add_46 : decode cX0_add 46 = .ok (.iload 5, 2) := by decide +kernel
set_option maxRecDepth 20000 in
theorem dX0_add_48 : decode cX0_add 48 = .ok (.iconst 1, 1) := by decide +kernel
set_option maxRecDepth 20000 in
theorem dX0_add_49 : decode cX0_add 49 = .ok (.iadd, 1) := by decide +kernel
set_option maxRecDepth 20000 in
theorem dX0_add_50 : decode cX0_add 50 = .ok (.i2l, 1) := by decide +kernel
set_option maxRecDepth 20000 in
theorem dX0_add_51 : decode cX0_add 51 = .ok (.invokevirtual 44, 3) := by decide +kernel
set_option maxRecDepth 20000 in
theorem dX0_add_54 : decode cX0_add 54 = .ok (.iload 5, 2) := by decide +kernel
set_option maxRecDepth 20000 in
theorem dX0_add_56 : decode cX0_add 56 = .ok (.iconst 1, 1) := by decide +kernel
set_option maxRecDepth 20000 in
theorem dX0_add_57 : decode cX0_add 57 = .ok (.iadd, 1) := by decide +kernel
set_option maxRecDepth 20000 in
theorem dX0_add_58 : decode cX0_add 58 = .ok (.ireturn, 1) := by decide +kernel
set_option maxRecDepth 20000 in
theorem dX0_removeAll_0 : decode cX0_removeAll 0 = .ok (.aload_n 0, 1) := by decide +kernel
set_option maxRecDepth 20000 in
theorem dX0_removeAll_1 : decode cX0_removeAll 1 = .ok (.getfield 14, 3) := by decide +kernel
set_option maxRecDepth 20000 in
theorem dX0_removeAll_4 : decode cX0_removeAll 4 = .ok (.iload_n 1, 1) := by decide +kernel
set_option maxRecDepth 20000 in
theorem dX0_removeAll_5 : decode cX0_removeAll 5 = .ok (.invokevirtual 40, 3) := by decide +kernel
set_option maxRecDepth 20000 in
theorem dX0_removeAll_8 : decode cX0_removeAll 8 = .ok (.istore_n 2, 1) := by decide +kernel
set_option maxRecDepth 20000 in
theorem dX0_removeAll_9 : decode cX0_removeAll 9 = .ok (.aload_n 0, 1) := by decide +kernel
set_option maxRecDepth 20000 in
theorem dX0_removeAll_10 : decode cX0_removeAll 10 = .ok (.getfield 14, 3) := by decide +kernel
set_option maxRecDepth 20000 in
theorem dX0_removeAll_13 : decode cX0_removeAll 13 = .ok (.iload_n 1, 1) := by decide +kernel
set_option maxRecDepth 20000 in
theorem dX0_removeAll_14 : decode cX0_removeAll 14 = .ok (.lconst 0, 1) := by decide +kernel
set_option maxRecDepth 20000 in
theorem dX0_removeAll_15 : decode cX0_removeAll 15 = .ok (.invokevirtual 44, 3) := by decide +kernel
set_option maxRecDepth 20000 in
theorem dX0_removeAll_18 : decode cX0_removeAll 18 = .ok (.iload_n 2, 1) := by decide +kernel
set_option maxRecDepth 20000 in
theorem dX0_removeAll_19 : decode cX0_removeAll 19 = .ok (.ireturn, 1) := by decide +kernel
set_option maxRecDepth 20000 in
theorem dX0_sizeOf_0 : decode cX0_sizeOf 0 = .ok (.aload_n 0, 1) := by decide +kernel
set_option maxRecDepth 20000 in
theorem dX0_sizeOf_1 : decode cX0_sizeOf 1 = .ok (.getfield 14, 3) := by decide +kernel
set_option maxRecDepth 20000 in
theorem dX0_sizeOf_4 : decode cX0_sizeOf 4 = .ok (.iload_n 1, 1) := by decide +kernel
set_option maxRecDepth 20000 in
theorem dX0_sizeOf_5 : decode cX0_sizeOf 5 = .ok (.invokevirtual 40, 3) := by decide +kernel
set_option maxRecDepth 20000 in
theorem dX0_sizeOf_8 : decode cX0_sizeOf 8 = .ok (.ireturn, 1) := by decide +kernel
set_option maxRecDepth 20000 in
theorem dX0_kindOf_0 : decode cX0_kindOf 0 = .ok (.aload_n 0, 1) := by decide +kernel
set_option maxRecDepth 20000 in
theorem dX0_kindOf_1 : decode cX0_kindOf 1 = .ok (.getfield 20, 3) := by decide +kernel
set_option maxRecDepth 20000 in
theorem dX0_kindOf_4 : decode cX0_kindOf 4 = .ok (.iload_n 1, 1) := by decide +kernel
set_option maxRecDepth 20000 in
theorem dX0_kindOf_5 : decode cX0_kindOf 5 = .ok (.bipush 10, 2) := by decide +kernel
set_option maxRecDepth 20000 in
theorem dX0_kindOf_7 : decode cX0_kindOf 7 = .ok (.imul, 1) := by decide +kernel
set_option maxRecDepth 20000 in
theorem dX0_kindOf_8 : decode cX0_kindOf 8 = .ok (.iload_n 2, 1) := by decide +kernel
set_option maxRecDepth 20000 in
theorem dX0_kindOf_9 : decode cX0_kindOf 9 = .ok (.iadd, 1) := by decide +kernel
set_option maxRecDepth 20000 in
theorem dX0_kindOf_10 : decode cX0_kindOf 10 = .ok (.invokevirtual 40, 3) := by decide +kernel
set_option maxRecDepth 20000 in
theorem dX0_kindOf_13 : decode cX0_kindOf 13 = .ok (.ireturn, 1) := by decide +kernel
set_option maxRecDepth 20000 in
theorem dX0_valueOf_0 : decode cX0_valueOf 0 = .ok (.aload_n 0, 1) := by decide +kernel
set_option maxRecDepth 20000 in
theorem dX0_valueOf_1 : decode cX0_valueOf 1 = .ok (.getfield 23, 3) := by decide +kernel
set_option maxRecDepth 20000 in
theorem dX0_valueOf_4 : decode cX0_valueOf 4 = .ok (.iload_n 1, 1) := by decide +kernel
set_option maxRecDepth 20000 in
theorem dX0_valueOf_5 : decode cX0_valueOf 5 = .ok (.bipush 10, 2) := by decide +kernel
set_option maxRecDepth 20000 in
theorem dX0_valueOf_7 : decode cX0_valueOf 7 = .ok (.imul, 1) := by decide +kernel
set_option maxRecDepth 20000 in
theorem dX0_valueOf_8 : decode cX0_valueOf 8 = .ok (.iload_n 2, 1) := by decide +kernel
set_option maxRecDepth 20000 in
theorem dX0_valueOf_9 : decode cX0_valueOf 9 = .ok (.iadd, 1) := by decide +kernel
set_option maxRecDepth 20000 in
theorem dX0_valueOf_10 : decode cX0_valueOf 10 = .ok (.invokevirtual 48, 3) := by decide +kernel
set_option maxRecDepth 20000 in
theorem dX0_valueOf_13 : decode cX0_valueOf 13 = .ok (.lreturn, 1) := by decide +kernel
set_option maxRecDepth 20000 in
theorem dX0_behindTry_0 : decode cX0_behindTry 0 = .ok (.iconst 0, 1) := by decide +kernel
set_option maxRecDepth 20000 in
theorem dX0_behindTry_1 : decode cX0_behindTry 1 = .ok (.istore_n 3, 1) := by decide +kernel
set_option maxRecDepth 20000 in
theorem dX0_behindTry_2 : decode cX0_behindTry 2 = .ok (.iconst 0, 1) := by decide +kernel
set_option maxRecDepth 20000 in
theorem dX0_behindTry_3 : decode cX0_behindTry 3 = .ok (.istore 4, 2) := by decide +kernel
set_option maxRecDepth 20000 in
theorem dX0_behindTry_5 : decode cX0_behindTry 5 = .ok (.iconst 0, 1) := by decide +kernel
set_option maxRecDepth 20000 in
theorem dX0_behindTry_6 : decode cX0_behindTry 6 = .ok (.istore 5, 2) := by decide +kernel
set_option maxRecDepth 20000 in
theorem dX0_behindTry_8 : decode cX0_behindTry 8 = .ok (.iload 5, 2) := by decide +kernel
set_option maxRecDepth 20000 in
theorem dX0_behindTry_10 : decode cX0_behindTry 10 = .ok (.aload_n 0, 1) := by decide +kernel
set_option maxRecDepth 20000 in
theorem dX0_behindTry_11 : decode cX0_behindTry 11 = .ok (.getfield 14, 3) := by decide +kernel
set_option maxRecDepth 20000 in
theorem dX0_behindTry_14 : decode cX0_behindTry 14 = .ok (.iload_n 1, 1) := by decide +kernel
set_option maxRecDepth 20000 in
theorem dX0_behindTry_15 : decode cX0_behindTry 15 = .ok (.invokevirtual 40, 3) := by decide +kernel
set_option maxRecDepth 20000 in
theorem dX0_behindTry_18 : decode cX0_behindTry 18 = .ok (.if_icmp .ge 93, 3) := by decide +kernel
set_option maxRecDepth 20000 in
theorem dX0_behindTry_21 : decode cX0_behindTry 21 = .ok (.aload_n 0, 1) := by decide +kernel
set_option maxRecDepth 20000 in
theorem dX0_behindTry_22 : decode cX0_behindTry 22 = .ok (.iload_n 1, 1) := by decide +kernel
set_option maxRecDepth 20000 in
theorem dX0_behindTry_23 : decode cX0_behindTry 23 = .ok (.iload 5, 2) := by decide +kernel
set_option maxRecDepth 20000 in
theorem dX0_behindTry_25 : decode cX0_behindTry 25 = .ok (.invokevirtual 52, 3) := by decide +kernel
set_option maxRecDepth 20000 in
theorem dX0_behindTry_28 : decode cX0_behindTry 28 = .ok (.istore 6, 2) := by decide +kernel
set_option maxRecDepth 20000 in
theorem dX0_behindTry_30 : decode cX0_behindTry 30 = .ok (.iload 6, 2) := by decide +kernel
set_option maxRecDepth 20000 in
theorem dX0_behindTry_32 : decode cX0_behindTry 32 = .ok (.bipush 6, 2) := by decide +kernel
set_option maxRecDepth 20000 in
theorem dX0_behindTry_34 : decode cX0_behindTry 34 = .ok (.if_icmp .ne 15, 3) := by decide +kernel
set_option maxRecDepth 20000 in
theorem dX0_behindTry_37 : decode cX0_behindTry 37 = .ok (.iload 5, 2) := by decide +kernel
set_option maxRecDepth 20000 in
theorem dX0_behindTry_39 : decode cX0_behindTry 39 = .ok (.iload_n 2, 1) := by decide +kernel
set_option maxRecDepth 20000 in
theorem dX0_behindTry_40 : decode cX0_behindTry 40 = .ok (.if_icmp .ge 9, 3) := by decide +kernel
set_option maxRecDepth 20000 in
theorem dX0_behindTry_43 : decode cX0_behindTry 43 = .ok (.iinc 3 1, 3) := by decide +kernel
set_option maxRecDepth 20000 in
theorem dX0_behindTry_46 : decode cX0_behindTry 46 = .ok (.goto 59, 3) := by decide +kernel
set_option maxRecDepth 20000 in
theorem dX0_behindTry_49 : decode cX0_behindTry 49 = .ok (.iload 6, 2) := by decide +kernel
set_option maxRecDepth 20000 in
theorem dX0_behindTry_51 : decode cX0_behindTry 51 = .ok (.bipush 6, 2) := by decide +kernel
set_option maxRecDepth 20000 in
theorem dX0_behindTry_53 : decode cX0_behindTry 53 = .ok (.if_icmp .ne 9, 3) := by decide +kernel
set_option maxRecDepth 20000 in
theorem dX0_behindTry_56 : decode cX0_behindTry 56 = .ok (.iinc 4 1, 3) := by decide +kernel
set_option maxRecDepth 20000 in
theorem dX0_behindTry_59 : decode cX0_behindTry 59 = .ok (.goto 46, 3) := by decide +kernel
set_option maxRecDepth 20000 in
theorem dX0_behindTry_62 : decode cX0_behindTry 62 = .ok (.iload 6, 2) := by decide +kernel
set_option maxRecDepth 20000 in
theorem dX0_behindTry_64 : decode cX0_behindTry 64 = .ok (.bipush 7, 2) := by decide +kernel
set_option maxRecDepth 20000 in
theorem dX0_behindTry_66 : decode cX0_behindTry 66 = .ok (.if_icmp .ne 14, 3) := by decide +kernel
set_option maxRecDepth 20000 in
theorem dX0_behindTry_69 : decode cX0_behindTry 69 = .ok (.iload 4, 2) := by decide +kernel
set_option maxRecDepth 20000 in
theorem dX0_behindTry_71 : decode cX0_behindTry 71 = .ok (.ifCond .le 9, 3) := by decide +kernel
set_option maxRecDepth 20000 in
theorem dX0_behindTry_74 : decode cX0_behindTry 74 = .ok (.iinc 4 (-1), 3) := by decide +kernel
set_option maxRecDepth 20000 in
theorem dX0_behindTry_77 : decode cX0_behindTry 77 = .ok (.goto 28, 3) := by decide +kernel
set_option maxRecDepth 20000 in
theorem dX0_behindTry_80 : decode cX0_behindTry 80 = .ok (.iload 6, 2) := by decide +kernel
set_option maxRecDepth 20000 in
theorem dX0_behindTry_82 : decode cX0_behindTry 82 = .ok (.bipush 7, 2) := by decide +kernel
set_option maxRecDepth 20000 in
theorem dX0_behindTry_84 : decode cX0_behindTry 84 = .ok (.if_icmp .ne 21, 3) := by decide +kernel
set_option maxRecDepth 20000 in
theorem dX0_behindTry_87 : decode cX0_behindTry 87 = .ok (.iload_n 3, 1) := by decide +kernel
set_option maxRecDepth 20000 in
theorem dX0_behindTry_88 : decode cX0_behindTry 88 = .ok (.ifCond .le 17, 3) := by decide +kernel
set_option maxRecDepth 20000 in
theorem dX0_behindTry_91 : decode cX0_behindTry 91 = .ok (.iload 5, 2) := by decide +kernel
set_option maxRecDepth 20000 in
theorem dX0_behindTry_93 : decode cX0_behindTry 93 = .ok (.iload_n 2, 1) := by decide +kernel
set_option maxRecDepth 20000 in
theorem dX0_behindTry_94 : decode cX0_behindTry 94 = .ok (.if_icmp .le 8, 3) := by decide +kernel
set_option maxRecDepth 20000 in
theorem dX0_behindTry_97 : decode cX0_behindTry 97 = .ok (.iload 5, 2) := by decide +kernel
set_option maxRecDepth 20000 in
theorem dX0_behindTry_99 : decode cX0_behindTry 99 = .ok (.iconst 1, 1) := by decide +kernel
set_option maxRecDepth 20000 in
theorem dX0_behindTry_100 : decode cX0_behindTry 100 = .ok (.iadd, 1) := by decide +kernel
set_option maxRecDepth 20000 in
theorem dX0_behindTry_101 : decode cX0_behindTry 101 = .ok (.ireturn, 1) := by decide +kernel
set_option maxRecDepth 20000 in
theorem dX0_behindTry_102 : decode cX0_behindTry 102 = .ok (.iinc 3 (-1), 3) := by decide +kernel
set_option maxRecDepth 20000 in
theorem dX0_behindTry_105 : decode cX0_behindTry 105 = .ok (.iinc 5 1, 3) := by decide +kernel
set_option maxRecDepth 20000 in
theorem dX0_behindTry_108 : decode cX0_behindTry 108 = .ok (.goto (-100), 3) := by decide +kernel
set_option maxRecDepth 20000 in
theorem dX0_behindTry_111 : decode cX0_behindTry 111 = .ok (.iconst (-1), 1) := by decide +kernel
set_option maxRecDepth 20000 in
theorem dX0_behindTry_112 : decode cX0_behindTry 112 = .ok (.ireturn, 1) := by decide +kernel
set_option maxRecDepth 20000 in
theorem dX1_init_0 : decode cX1_init 0 = .ok (.aload_n 0, 1) := by decide +kernel
set_option maxRecDepth 20000 in
theorem dX1_init_1 : decode cX1_init 1 = .ok (.invokespecial 3, 3) := by decide +kernel
set_option maxRecDepth 20000 in
theorem dX1_init_4 : decode cX1_init 4 = .ok (.aload_n 0, 1) := by decide +kernel
set_option maxRecDepth 20000 in
theorem dX1_init_5 : decode cX1_init 5 = .ok (.new 9, 3) := by decide +kernel
set_option maxRecDepth 20000 in
theorem dX1_init_8 : decode cX1_init 8 = .ok (.dup, 1) := by decide +kernel
set_option maxRecDepth 20000 in
theorem dX1_init_9 : decode cX1_init 9 = .ok (.iconst 5, 1) := by decide +kernel
set_option maxRecDepth 20000 in
theorem dX1_init_10 : decode cX1_init 10 = .ok (.invokespecial 11, 3) := by decide +kernel
set_option maxRecDepth 20000 in
theorem dX1_init_13 : decode cX1_init 13 = .ok (.putfield 14, 3) := by decide +kernel
set_option maxRecDepth 20000 in
theorem dX1_init_16 : decode cX1_init 16 = .ok (.aload_n 0, 1) := by decide +kernel
set_option maxRecDepth 20000 in
theorem dX1_init_17 : decode cX1_init 17 = .ok (.new 9, 3) := by decide +kernel
set_option maxRecDepth 20000 in
theorem dX1_init_20 : decode cX1_init 20 = .ok (.dup, 1) := by decide +kernel
set_option maxRecDepth 20000 in
theorem dX1_init_21 : decode cX1_init 21 = .ok (.bipush 100, 2) := by decide +kernel
set_option maxRecDepth 20000 in
theorem dX1_init_23 : decode cX1_init 23 = .ok (.invokespecial 11, 3) := by decide +kernel
set_option maxRecDepth 20000 in
theorem dX1_init_26 : decode cX1_init 26 = .ok (.putfield 20, 3) := by decide +kernel
set_option maxRecDepth 20000 in
theorem dX1_init_29 : decode cX1_init 29 = .ok (.aload_n 0, 1) := by decide +kernel
set_option maxRecDepth 20000 in
theorem dX1_init_30 : decode cX1_init 30 = .ok (.new 9, 3) := by decide +kernel
set_option maxRecDepth 20000 in
theorem dX1_init_33 : decode cX1_init 33 = .ok (.dup, 1) := by decide +kernel
set_option maxRecDepth 20000 in
theorem dX1_init_34 : decode cX1_init 34 = .ok (.bipush 100, 2) := by decide +kernel
set_option maxRecDepth 20000 in
theorem dX1_init_36 : decode cX1_init 36 = .ok (.invokespecial 11, 3) := by decide +kernel
set_option maxRecDepth 20000 in
theorem dX1_init_39 : decode cX1_init 39 = .ok (.putfield 23, 3) := by decide +kernel
set_option maxRecDepth 20000 in
theorem dX1_init_42 : decode cX1_init 42 = .ok (.aload_n 0, 1) := by decide +kernel
set_option maxRecDepth 20000 in
theorem dX1_init_43 : decode cX1_init 43 = .ok (.new 9, 3) := by decide +kernel
set_option maxRecDepth 20000 in
theorem dX1_init_46 : decode cX1_init 46 = .ok (.dup, 1) := by decide +kernel
set_option maxRecDepth 20000 in
theorem dX1_init_47 : decode cX1_init 47 = .ok (.bipush 100, 2) := by decide +kernel
set_option maxRecDepth 20000 in
theorem dX1_init_49 : decode cX1_init 49 = .ok (.invokespecial 11, 3) := by decide +kernel
set_option maxRecDepth 20000 in
theorem dX1_init_52 : decode cX1_init 52 = .ok (.putfield 26, 3) := by decide +kernel
set_option maxRecDepth 20000 in
theorem dX1_init_55 : decode cX1_init 55 = .ok (.aload_n 0, 1) := by decide +kernel
set_option maxRecDepth 20000 in
theorem dX1_init_56 : decode cX1_init 56 = .ok (.iconst 0, 1) := by decide +kernel
set_option maxRecDepth 20000 in
theorem dX1_init_57 : decode cX1_init 57 = .ok (.putfield 29, 3) := by decide +kernel
set_option maxRecDepth 20000 in
theorem dX1_init_60 : decode cX1_init 60 = .ok (.aload_n 0, 1) := by decide +kernel
set_option maxRecDepth 20000 in
theorem dX1_init_61 : decode cX1_init 61 = .ok (.aload_n 1, 1) := by decide +kernel
set_option maxRecDepth 20000 in
theorem dX1_init_62 : decode cX1_init 62 = .ok (.putfield 33, 3) := by decide +kernel
set_option maxRecDepth 20000 in
theorem dX1_init_65 : decode cX1_init 65 = .ok (.return_, 1) := by decide +kernel
set_option maxRecDepth 20000 in
theorem dX1_clear_0 : decode cX1_clear 0 = .ok (.aload_n 0, 1) := by decide +kernel
set_option maxRecDepth 20000 in
theorem dX1_clear_1 : decode cX1_clear 1 = .ok (.iconst 0, 1) := by decide +kernel
set_option maxRecDepth 20000 in
theorem dX1_clear_2 : decode cX1_clear 2 = .ok (.putfield 29, 3) := by decide +kernel
set_option maxRecDepth 20000 in
theorem dX1_clear_5 : decode cX1_clear 5 = .ok (.return_, 1) := by decide +kernel
set_option maxRecDepth 20000 in
theorem dX1_items_0 : decode cX1_items 0 = .ok (.aload_n 0, 1) := by decide +kernel
set_option maxRecDepth 20000 in
theorem dX1_items_1 : decode cX1_items 1 = .ok (.getfield 29, 3) := by decide +kernel
set_option maxRecDepth 20000 in
theorem dX1_items_4 : decode cX1_items 4 = .ok (.ireturn, 1) := by decide +kernel
set_option maxRecDepth 20000 in
theorem dX1_isFull_0 : decode cX1_isFull 0 = .ok (.aload_n 0, 1) := by decide +kernel
set_option maxRecDepth 20000 in
theorem dX1_isFull_1 : decode cX1_isFull 1 = .ok (.getfield 29, 3) := by decide +kernel
set_option maxRecDepth 20000 in
theorem dX1_isFull_4 : decode cX1_isFull 4 = .ok (.iconst 5, 1) := by decide +kernel
set_option maxRecDepth 20000 in
theorem dX1_isFull_5 : decode cX1_isFull 5 = .ok (.if_icmp .lt 7, 3) := by decide +kernel
set_option maxRecDepth 20000 in
theorem dX1_isFull_8 : decode cX1_isFull 8 = .ok (.iconst 1, 1) := by decide +kernel
set_option maxRecDepth 20000 in
theorem dX1_isFull_9 : decode cX1_isFull 9 = .ok (.goto 4, 3) := by decide +kernel
set_option maxRecDepth 20000 in
theorem dX1_isFull_12 : decode cX1_isFull 12 = .ok (.iconst 0, 1) := by decide +kernel
set_option maxRecDepth 20000 in
theorem dX1_isFull_13 : decode cX1_isFull 13 = .ok (.ireturn, 1) := by decide +kernel
set_option maxRecDepth 20000 in
theorem dX1_addItem_0 : decode cX1_addItem 0 = .ok (.aload_n 0, 1) := by decide +kernel
set_option maxRecDepth 20000 in
theorem dX1_addItem_1 : decode cX1_addItem 1 = .ok (.getfield 14, 3) := by decide +kernel
set_option maxRecDepth 20000 in
theorem dX1_addItem_4 : decode cX1_addItem 4 = .ok (.aload_n 0, 1) := by decide +kernel
set_option maxRecDepth 20000 in
theorem dX1_addItem_5 : decode cX1_addItem 5 = .ok (.getfield 29, 3) := by decide +kernel
set_option maxRecDepth 20000 in
theorem dX1_addItem_8 : decode cX1_addItem 8 = .ok (.lload_n 1, 1) := by decide +kernel
set_option maxRecDepth 20000 in
theorem dX1_addItem_9 : decode cX1_addItem 9 = .ok (.invokevirtual 37, 3) := by decide +kernel
set_option maxRecDepth 20000 in
theorem dX1_addItem_12 : decode cX1_addItem 12 = .ok (.aload_n 0, 1) := by decide +kernel
set_option maxRecDepth 20000 in
theorem dX1_addItem_13 : decode cX1_addItem 13 = .ok (.dup, 1) := by decide +kernel
set_option maxRecDepth 20000 in
theorem dX1_addItem_14 : decode cX1_addItem 14 = .ok (.getfield 29, 3) := by decide +kernel
set_option maxRecDepth 20000 in
theorem dX1_addItem_17 : decode cX1_addItem 17 = .ok (.iconst 1, 1) := by decide +kernel
set_option maxRecDepth 20000 in
theorem dX1_addItem_18 : decode cX1_addItem 18 = .ok (.iadd, 1) := by decide +kernel
set_option maxRecDepth 20000 in
theorem dX1_addItem_19 : decode cX1_addItem 19 = .ok (.putfield 29, 3) := by decide +kernel
set_option maxRecDepth 20000 in
theorem dX1_addItem_22 : decode cX1_addItem 22 = .ok (.aload_n 0, 1) := by decide +kernel
set_option maxRecDepth 20000 in
theorem dX1_addItem_23 : decode cX1_addItem 23 = .ok (.getfield 29, 3) := by decide +kernel
set_option maxRecDepth 20000 in
theorem dX1_addItem_26 : decode cX1_addItem 26 = .ok (.ireturn, 1) := by decide +kernel
set_option maxRecDepth 20000 in
theorem dX1_hasRoom_0 : decode cX1_hasRoom 0 = .ok (.aload_n 0, 1) := by decide +kernel
set_option maxRecDepth 20000 in
theorem dX1_hasRoom_1 : decode cX1_hasRoom 1 = .ok (.getfield 33, 3) := by decide +kernel
set_option maxRecDepth 20000 in
theorem dX1_hasRoom_4 : decode cX1_hasRoom 4 = .ok (.invokevirtual 41, 3) := by decide +kernel
set_option maxRecDepth 20000 in
theorem dX1_hasRoom_7 : decode cX1_hasRoom 7 = .ok (.iconst 1, 1) := by decide +kernel
set_option maxRecDepth 20000 in
theorem dX1_hasRoom_8 : decode cX1_hasRoom 8 = .ok (.iadd, 1) := by decide +kernel
set_option maxRecDepth 20000 in
theorem dX1_hasRoom_9 : decode cX1_hasRoom 9 = .ok (.istore_n 1, 1) := by decide +kernel
set_option maxRecDepth 20000 in
theorem dX1_hasRoom_10 : decode cX1_hasRoom 10 = .ok (.iconst 0, 1) := by decide +kernel
set_option maxRecDepth 20000 in
theorem dX1_hasRoom_11 : decode cX1_hasRoom 11 = .ok (.istore_n 2, 1) := by decide +kernel
set_option maxRecDepth 20000 in
theorem dX1_hasRoom_12 : decode cX1_hasRoom 12 = .ok (.iload_n 2, 1) := by decide +kernel
set_option maxRecDepth 20000 in
theorem dX1_hasRoom_13 : decode cX1_hasRoom 13 = .ok (.aload_n 0, 1) := by decide +kernel
set_option maxRecDepth 20000 in
theorem dX1_hasRoom_14 : decode cX1_hasRoom 14 = .ok (.getfield 29, 3) := by decide +kernel
set_option maxRecDepth 20000 in
theorem dX1_hasRoom_17 : decode cX1_hasRoom 17 = .ok (.if_icmp .ge 27, 3) := by decide +kernel
set_option maxRecDepth 20000 in
theorem dX1_hasRoom_20 : decode cX1_hasRoom 20 = .ok (.aload_n 0, 1) := by decide +kernel
set_option maxRecDepth 20000 in
theorem dX1_hasRoom_21 : decode cX1_hasRoom 21 = .ok (.getfield 14, 3) := by decide +kernel
set_option maxRecDepth 20000 in
theorem dX1_hasRoom_24 : decode cX1_hasRoom 24 = .ok (.iload_n 2, 1) := by decide +kernel
set_option maxRecDepth 20000 in
theorem dX1_hasRoom_25 : decode cX1_hasRoom 25 = .ok (.invokevirtual 47, 3) := by decide +kernel
set_option maxRecDepth 20000 in
theorem dX1_hasRoom_28 : decode cX1_hasRoom 28 = .ok (.invokestatic 51, 3) := by decide +kernel
set_option maxRecDepth 20000 in
theorem dX1_hasRoom_31 : decode cX1_hasRoom 31 = .ok (.iconst 1, 1) := by decide +kernel
set_option maxRecDepth 20000 in
theorem dX1_hasRoom_32 : decode cX1_hasRoom 32 = .ok (.if_icmp .eq 6, 3) := by decide +kernel
set_option maxRecDepth 20000 in
theorem dX1_hasRoom_35 : decode cX1_hasRoom 35 = .ok (.iinc 1 1, 3) := by decide +kernel
set_option maxRecDepth 20000 in
theorem dX1_hasRoom_38 : decode cX1_hasRoom 38 = .ok (.iinc 2 1, 3) := by decide +kernel
set_option maxRecDepth 20000 in
theorem dX1_hasRoom_41 : decode cX1_hasRoom 41 = .ok (.goto (-29), 3) := by decide +kernel
set_option maxRecDepth 20000 in
theorem dX1_hasRoom_44 : decode cX1_hasRoom 44 = .ok (.iload_n 1, 1) := by decide +kernel
set_option maxRecDepth 20000 in
theorem dX1_hasRoom_45 : decode cX1_hasRoom 45 = .ok (.bipush 100, 2) := by decide +kernel
set_option maxRecDepth 20000 in
theorem dX1_hasRoom_47 : decode cX1_hasRoom 47 = .ok (.if_icmp .gt 7, 3) := by decide +kernel
set_option maxRecDepth 20000 in
theorem dX1_hasRoom_50 : decode cX1_hasRoom 50 = .ok (.iconst 1, 1) := by decide +kernel
set_option maxRecDepth 20000 in
theorem dX1_hasRoom_51 : decode cX1_hasRoom 51 = .ok (.goto 4, 3) := by decide +kernel
set_option maxRecDepth 20000 in
theorem dX1_hasRoom_54 : decode cX1_hasRoom 54 = .ok (.iconst 0, 1) := by decide +kernel
set_option maxRecDepth 20000 in
theorem dX1_hasRoom_55 : decode cX1_hasRoom 55 = .ok (.ireturn, 1) := by decide +kernel
set_option maxRecDepth 20000 in
theorem dX1_form_0 : decode cX1_form 0 = .ok (.aload_n 0, 1) := by decide +kernel
set_option maxRecDepth 20000 in
theorem dX1_form_1 : decode cX1_form 1 = .ok (.getfield 33, 3) := by decide +kernel
set_option maxRecDepth 20000 in
theorem dX1_form_4 : decode cX1_form 4 = .ok (.invokevirtual 57, 3) := by decide +kernel
set_option maxRecDepth 20000 in
theorem dX1_form_7 : decode cX1_form 7 = .ok (.istore_n 2, 1) := by decide +kernel
set_option maxRecDepth 20000 in
theorem dX1_form_8 : decode cX1_form 8 = .ok (.aload_n 0, 1) := by decide +kernel
set_option maxRecDepth 20000 in
theorem dX1_form_9 : decode cX1_form 9 = .ok (.getfield 20, 3) := by decide +kernel
set_option maxRecDepth 20000 in
theorem dX1_form_12 : decode cX1_form 12 = .ok (.iload_n 2, 1) := by decide +kernel
set_option maxRecDepth 20000 in
theorem dX1_form_13 : decode cX1_form 13 = .ok (.iload_n 1, 1) := by decide +kernel
set_option maxRecDepth 20000 in
theorem dX1_form_14 : decode cX1_form 14 = .ok (.i2l, 1) := by decide +kernel
set_option maxRecDepth 20000 in
theorem dX1_form_15 : decode cX1_form 15 = .ok (.invokevirtual 37, 3) := by decide +kernel
set_option maxRecDepth 20000 in
theorem dX1_form_18 : decode cX1_form 18 = .ok (.aload_n 0, 1) := by decide +kernel
set_option maxRecDepth 20000 in
theorem dX1_form_19 : decode cX1_form 19 = .ok (.getfield 23, 3) := by decide +kernel
set_option maxRecDepth 20000 in
theorem dX1_form_22 : decode cX1_form 22 = .ok (.iload_n 2, 1) := by decide +kernel
set_option maxRecDepth 20000 in
theorem dX1_form_23 : decode cX1_form 23 = .ok (.aload_n 0, 1) := by decide +kernel
set_option maxRecDepth 20000 in
theorem dX1_form_24 : decode cX1_form 24 = .ok (.getfield 29, 3) := by decide +kernel
set_option maxRecDepth 20000 in
theorem dX1_form_27 : decode cX1_form 27 = .ok (.i2l, 1) := by decide +kernel
set_option maxRecDepth 20000 in
theorem dX1_form_28 : decode cX1_form 28 = .ok (.invokevirtual 37, 3) := by decide +kernel
set_option maxRecDepth 20000 in
theorem dX1_form_31 : decode cX1_form 31 = .ok (.aload_n 0, 1) := by decide +kernel
set_option maxRecDepth 20000 in
theorem dX1_form_32 : decode cX1_form 32 = .ok (.getfield 26, 3) := by decide +kernel
set_option maxRecDepth 20000 in
theorem dX1_form_35 : decode cX1_form 35 = .ok (.iload_n 2, 1) := by decide +kernel
set_option maxRecDepth 20000 in
theorem dX1_form_36 : decode cX1_form 36 = .ok (.lconst 0, 1) := by decide +kernel
set_option maxRecDepth 20000 in
theorem dX1_form_37 : decode cX1_form 37 = .ok (.invokevirtual 37, 3) := by decide +kernel
set_option maxRecDepth 20000 in
theorem dX1_form_40 : decode cX1_form 40 = .ok (.iconst 0, 1) := by decide +kernel
set_option maxRecDepth 20000 in
theorem dX1_form_41 : decode cX1_form 41 = .ok (.istore_n 3, 1) := by decide +kernel
set_option maxRecDepth 20000 in
theorem dX1_form_42 : decode cX1_form 42 = .ok (.iload_n 3, 1) := by decide +kernel
set_option maxRecDepth 20000 in
theorem dX1_form_43 : decode cX1_form 43 = .ok (.aload_n 0, 1) := by decide +kernel
set_option maxRecDepth 20000 in
theorem dX1_form_44 : decode cX1_form 44 = .ok (.getfield 29, 3) := by decide +kernel
set_option maxRecDepth 20000 in
theorem dX1_form_47 : decode cX1_form 47 = .ok (.if_icmp .ge 42, 3) := by decide +kernel
set_option maxRecDepth 20000 in
theorem dX1_form_50 : decode cX1_form 50 = .ok (.aload_n 0, 1) := by decide +kernel
set_option maxRecDepth 20000 in
theorem dX1_form_51 : decode cX1_form 51 = .ok (.getfield 33, 3) := by decide +kernel
set_option maxRecDepth 20000 in
theorem dX1_form_54 : decode cX1_form 54 = .ok (.aload_n 0, 1) := by decide +kernel
set_option maxRecDepth 20000 in
theorem dX1_form_55 : decode cX1_form 55 = .ok (.getfield 14, 3) := by decide +kernel
set_option maxRecDepth 20000 in
theorem dX1_form_58 : decode cX1_form 58 = .ok (.iload_n 3, 1) := by decide +kernel
set_option maxRecDepth 20000 in
theorem dX1_form_59 : decode cX1_form 59 = .ok (.invokevirtual 47, 3) := by decide +kernel
set_option maxRecDepth 20000 in
theorem dX1_form_62 : decode cX1_form 62 = .ok (.invokevirtual 60, 3) := by decide +kernel
set_option maxRecDepth 20000 in
theorem dX1_form_65 : decode cX1_form 65 = .ok (.istore 4, 2) := by decide +kernel
set_option maxRecDepth 20000 in
theorem dX1_form_67 : decode cX1_form 67 = .ok (.aload_n 0, 1) := by decide +kernel
set_option maxRecDepth 20000 in
theorem dX1_form_68 : decode cX1_form 68 = .ok (.getfield 33, 3) := by decide +kernel
set_option maxRecDepth 20000 in
theorem dX1_form_71 : decode cX1_form 71 = .ok (.iload 4, 2) := by decide +kernel
set_option maxRecDepth 20000 in
theorem dX1_form_73 : decode cX1_form 73 = .ok (.iload_n 2, 1) := by decide +kernel
set_option maxRecDepth 20000 in
theorem dX1_form_74 : decode cX1_form 74 = .ok (.iconst 4, 1) := by decide +kernel
set_option maxRecDepth 20000 in
theorem dX1_form_75 : decode cX1_form 75 = .ok (.iload_n 3, 1) := by decide +kernel
set_option maxRecDepth 20000 in
theorem dX1_form_76 : decode cX1_form 76 = .ok (.iadd, 1) := by decide +kernel
set_option maxRecDepth 20000 in
theorem dX1_form_77 : decode cX1_form 77 = .ok (.invokestatic 63, 3) := by decide +kernel
set_option maxRecDepth 20000 in
theorem dX1_form_80 : decode cX1_form 80 = .ok (.invokevirtual 67, 3) := by decide +kernel
set_option maxRecDepth 20000 in
theorem dX1_form_83 : decode cX1_form 83 = .ok (.iinc 3 1, 3) := by decide +kernel
set_option maxRecDepth 20000 in
theorem dX1_form_86 : decode cX1_form 86 = .ok (.goto (-44), 3) := by decide +kernel
set_option maxRecDepth 20000 in
theorem dX1_form_89 : decode cX1_form 89 = .ok (.aload_n 0, 1) := by decide +kernel
set_option maxRecDepth 20000 in
theorem dX1_form_90 : decode cX1_form 90 = .ok (.iconst 0, 1) := by decide +kernel
set_option maxRecDepth 20000 in
theorem dX1_form_91 : decode cX1_form 91 = .ok (.putfield 29, 3) := by decide +kernel
set_option maxRecDepth 20000 in
theorem dX1_form_94 : decode cX1_form 94 = .ok (.aload_n 0, 1) := by decide +kernel
set_option maxRecDepth 20000 in
theorem dX1_form_95 : decode cX1_form 95 = .ok (.iload_n 2, 1) := by decide +kernel
set_option maxRecDepth 20000 in
theorem dX1_form_96 : decode cX1_form 96 = .ok (.invokevirtual 71, 3) := by decide +kernel
set_option maxRecDepth 20000 in
theorem dX1_form_99 : decode cX1_form 99 = .ok (.iload_n 2, 1) := by decide +kernel
set_option maxRecDepth 20000 in
theorem dX1_form_100 : decode cX1_form 100 = .ok (.ireturn, 1) := by decide +kernel
set_option maxRecDepth 20000 in
theorem dX1_settlePlace_0 : decode cX1_settlePlace 0 = .ok (.aload_n 0, 1) := by decide +kernel
set_option maxRecDepth 20000 in
theorem dX1_settlePlace_1 : decode cX1_settlePlace 1 = .ok (.getfield 20, 3) := by decide +kernel
set_option maxRecDepth 20000 in
theorem dX1_settlePlace_4 : decode cX1_settlePlace 4 = .ok (.iload_n 1, 1) := by decide +kernel
set_option maxRecDepth 20000 in
theorem dX1_settlePlace_5 : decode cX1_settlePlace 5 = .ok (.invokevirtual 74, 3) := by decide +kernel
set_option maxRecDepth 20000 in
theorem dX1_settlePlace_8 : decode cX1_settlePlace 8 = .ok (.istore 6, 2) := by decide +kernel
set_option maxRecDepth 20000 in
theorem dX1_settlePlace_10 : decode cX1_settlePlace 10 = .ok (.aload_n 0, 1) := by decide +kernel
set_option maxRecDepth 20000 in
theorem dX1_settlePlace_11 : decode cX1_settlePlace 11 = .ok (.getfield 23, 3) := by decide +kernel
set_option maxRecDepth 20000 in
theorem dX1_settlePlace_14 : decode cX1_settlePlace 14 = .ok (.iload_n 1, 1) := by decide +kernel
set_option maxRecDepth 20000 in
theorem dX1_settlePlace_15 : decode cX1_settlePlace 15 = .ok (.aload_n 0, 1) := by decide +kernel
set_option maxRecDepth 20000 in
theorem dX1_settlePlace_16 : decode cX1_settlePlace 16 = .ok (.getfield 23, 3) := by decide +kernel
set_option maxRecDepth 20000 in
theorem dX1_settlePlace_19 : decode cX1_settlePlace 19 = .ok (.iload_n 1, 1) := by decide +kernel
set_option maxRecDepth 20000 in
theorem dX1_settlePlace_20 : decode cX1_settlePlace 20 = .ok (.invokevirtual 74, 3) := by decide +kernel
set_option maxRecDepth 20000 in
theorem dX1_settlePlace_23 : decode cX1_settlePlace 23 = .ok (.iconst 1, 1) := by decide +kernel
set_option maxRecDepth 20000 in
theorem dX1_settlePlace_24 : decode cX1_settlePlace 24 = .ok (.isub, 1) := by decide +kernel
set_option maxRecDepth 20000 in
theorem dX1_settlePlace_25 : decode cX1_settlePlace 25 = .ok (.i2l, 1) := by decide +kernel
set_option maxRecDepth 20000 in
theorem dX1_settlePlace_26 : decode cX1_settlePlace 26 = .ok (.invokevirtual 37, 3) := by decide +kernel
set_option maxRecDepth 20000 in
theorem dX1_settlePlace_29 : decode cX1_settlePlace 29 = .ok (.iload_n 3, 1) := by decide +kernel
set_option maxRecDepth 20000 in
theorem dX1_settlePlace_30 : decode cX1_settlePlace 30 = .ok (.iconst 1, 1) := by decide +kernel
set_option maxRecDepth 20000 in
theorem dX1_settlePlace_31 : decode cX1_settlePlace 31 = .ok (.if_icmp .ne 43, 3) := by decide +kernel
set_option maxRecDepth 20000 in
theorem dX1_settlePlace_34 : decode cX1_settlePlace 34 = .ok (.iload 6, 2) := by decide +kernel
set_option maxRecDepth 20000 in
theorem dX1_settlePlace_36 : decode cX1_settlePlace 36 = .ok (.ifCond .ne 11, 3) := by decide +kernel
set_option maxRecDepth 20000 in
theorem dX1_settlePlace_39 : decode cX1_settlePlace 39 = .ok (.lload 4, 2) := by decide +kernel
set_option maxRecDepth 20000 in
theorem dX1_settlePlace_41 : decode cX1_settlePlace 41 = .ok (.invokestatic 78, 3) := by decide +kernel
set_option maxRecDepth 20000 in
theorem dX1_settlePlace_44 : decode cX1_settlePlace 44 = .ok (.goto 4, 3) := by decide +kernel
set_option maxRecDepth 20000 in
theorem dX1_settlePlace_47 : decode cX1_settlePlace 47 = .ok (.iconst 1, 1) := by decide +kernel
set_option maxRecDepth 20000 in
theorem dX1_settlePlace_48 : decode cX1_settlePlace 48 = .ok (.istore 7, 2) := by decide +kernel
set_option maxRecDepth 20000 in
theorem dX1_settlePlace_50 : decode cX1_settlePlace 50 = .ok (.aload_n 0, 1) := by decide +kernel
set_option maxRecDepth 20000 in
theorem dX1_settlePlace_51 : decode cX1_settlePlace 51 = .ok (.getfield 26, 3) := by decide +kernel
set_option maxRecDepth 20000 in
theorem dX1_settlePlace_54 : decode cX1_settlePlace 54 = .ok (.iload_n 1, 1) := by decide +kernel
set_option maxRecDepth 20000 in
theorem dX1_settlePlace_55 : decode cX1_settlePlace 55 = .ok (.aload_n 0, 1) := by decide +kernel
set_option maxRecDepth 20000 in
theorem dX1_settlePlace_56 : decode cX1_settlePlace 56 = .ok (.getfield 26, 3) := by decide +kernel
set_option maxRecDepth 20000 in
theorem dX1_settlePlace_59 : decode cX1_settlePlace 59 = .ok (.iload_n 1, 1) := by decide +kernel
set_option maxRecDepth 20000 in
theorem dX1_settlePlace_60 : decode cX1_settlePlace 60 = .ok (.invokevirtual 74, 3) := by decide +kernel
set_option maxRecDepth 20000 in
theorem dX1_settlePlace_63 : decode cX1_settlePlace 63 = .ok (.iload_n 2, 1) := by decide +kernel
set_option maxRecDepth 20000 in
theorem dX1_settlePlace_64 : decode cX1_settlePlace 64 = .ok (.iconst 1, 1) := by decide +kernel
set_option maxRecDepth 20000 in
theorem dX1_settlePlace_65 : decode cX1_settlePlace 65 = .ok (.iadd, 1) := by decide +kernel
set_option maxRecDepth 20000 in
theorem dX1_settlePlace_66 : decode cX1_settlePlace 66 = .ok (.iload 7, 2) := by decide +kernel
set_option maxRecDepth 20000 in
theorem dX1_settlePlace_68 : decode cX1_settlePlace 68 = .ok (.imul, 1) := by decide +kernel
set_option maxRecDepth 20000 in
theorem dX1_settlePlace_69 : decode cX1_settlePlace 69 = .ok (.iadd, 1) := by decide +kernel
set_option maxRecDepth 20000 in
theorem dX1_settlePlace_70 : decode cX1_settlePlace 70 = .ok (.i2l, 1) := by decide +kernel
set_option maxRecDepth 20000 in
theorem dX1_settlePlace_71 : decode cX1_settlePlace 71 = .ok (.invokevirtual 37, 3) := by decide +kernel
set_option maxRecDepth 20000 in
theorem dX1_settlePlace_74 : decode cX1_settlePlace 74 = .ok (.iload 6, 2) := by decide +kernel
set_option maxRecDepth 20000 in
theorem dX1_settlePlace_76 : decode cX1_settlePlace 76 = .ok (.iconst 1, 1) := by decide +kernel
set_option maxRecDepth 20000 in
theorem dX1_settlePlace_77 : decode cX1_settlePlace 77 = .ok (.if_icmp .eq 24, 3) := by decide +kernel
set_option maxRecDepth 20000 in
theorem dX1_settlePlace_80 : decode cX1_settlePlace 80 = .ok (.iload 6, 2) := by decide +kernel
set_option maxRecDepth 20000 in
theorem dX1_settlePlace_82 : decode cX1_settlePlace 82 = .ok (.ifCond .ne 8, 3) := by decide +kernel
set_option maxRecDepth 20000 in
theorem dX1_settlePlace_85 : decode cX1_settlePlace 85 = .ok (.iload_n 3, 1) := by decide +kernel
set_option maxRecDepth 20000 in
theorem dX1_settlePlace_86 : decode cX1_settlePlace 86 = .ok (.iconst 2, 1) := by decide +kernel
set_option maxRecDepth 20000 in
theorem dX1_settlePlace_87 : decode cX1_settlePlace 87 = .ok (.if_icmp .eq 14, 3) := by decide +kernel
set_option maxRecDepth 20000 in
theorem dX1_settlePlace_90 : decode cX1_settlePlace 90 = .ok (.iload 6, 2) := by decide +kernel
set_option maxRecDepth 20000 in
theorem dX1_settlePlace_92 : decode cX1_settlePlace 92 = .ok (.iconst 3, 1) := by decide +kernel
set_option maxRecDepth 20000 in
theorem dX1_settlePlace_93 : decode cX1_settlePlace 93 = .ok (.if_icmp .ne 20, 3) := by decide +kernel
set_option maxRecDepth 20000 in
theorem dX1_settlePlace_96 : decode cX1_settlePlace 96 = .ok (.iload_n 3, 1) := by decide +kernel
set_option maxRecDepth 20000 in
theorem dX1_settlePlace_97 : decode cX1_settlePlace 97 = .ok (.iconst 1, 1) := by decide +kernel
set_option maxRecDepth 20000 in
theorem dX1_settlePlace_98 : decode cX1_settlePlace 98 = .ok (.if_icmp .ne 15, 3) := by decide +kernel
set_option maxRecDepth 20000 in
theorem dX1_settlePlace_101 : decode cX1_settlePlace 101 = .ok (.aload_n 0, 1) := by decide +kernel
set_option maxRecDepth 20000 in
theorem dX1_settlePlace_102 : decode cX1_settlePlace 102 = .ok (.getfield 33, 3) := by decide +kernel
set_option maxRecDepth 20000 in
theorem dX1_settlePlace_105 : decode cX1_settlePlace 105 = .ok (.iload_n 1, 1) := by decide +kernel
set_option maxRecDepth 20000 in
theorem dX1_settlePlace_106 : decode cX1_settlePlace 106 = .ok (.iload_n 3, 1) := by decide +kernel
set_option maxRecDepth 20000 in
theorem dX1_settlePlace_107 : decode cX1_settlePlace 107 = .ok (.lload 4, 2) := by decide +kernel
set_option maxRecDepth 20000 in
theorem dX1_settlePlace_109 : decode cX1_settlePlace 109 = .ok (.iconst 0, 1) := by decide +kernel
set_option maxRecDepth 20000 in
theorem dX1_settlePlace_110 : decode cX1_settlePlace 110 = .ok (.invokevirtual 81, 3) := by decide +kernel
set_option maxRecDepth 20000 in
theorem dX1_settlePlace_113 : decode cX1_settlePlace 113 = .ok (.return_, 1) := by decide +kernel
set_option maxRecDepth 20000 in
theorem dX1_settleIfComplete_0 : decode cX1_settleIfComplete 0 = .ok (.aload_n 0, 1) := by decide +kernel
set_option maxRecDepth 20000 in
theorem dX1_settleIfComplete_1 : decode cX1_settleIfComplete 1 = .ok (.getfield 23, 3) := by decide +kernel
set_option maxRecDepth 20000 in
theorem dX1_settleIfComplete_4 : decode cX1_settleIfComplete 4 = .ok (.iload_n 1, 1) := by decide +kernel
set_option maxRecDepth 20000 in
theorem dX1_settleIfComplete_5 : decode cX1_settleIfComplete 5 = .ok (.invokevirtual 74, 3) := by decide +kernel
set_option maxRecDepth 20000 in
theorem dX1_settleIfComplete_8 : decode cX1_settleIfComplete 8 = .ok (.ifCond .gt 15, 3) := by decide +kernel
set_option maxRecDepth 20000 in
theorem dX1_settleIfComplete_11 : decode cX1_settleIfComplete 11 = .ok (.aload_n 0, 1) := by decide +kernel
set_option maxRecDepth 20000 in
theorem dX1_settleIfComplete_12 : decode cX1_settleIfComplete 12 = .ok (.getfield 20, 3) := by decide +kernel
set_option maxRecDepth 20000 in
theorem dX1_settleIfComplete_15 : decode cX1_settleIfComplete 15 = .ok (.iload_n 1, 1) := by decide +kernel
set_option maxRecDepth 20000 in
theorem dX1_settleIfComplete_16 : decode cX1_settleIfComplete 16 = .ok (.invokevirtual 74, 3) := by decide +kernel
set_option maxRecDepth 20000 in
theorem dX1_settleIfComplete_19 : decode cX1_settleIfComplete 19 = .ok (.iconst 1, 1) := by decide +kernel
set_option maxRecDepth 20000 in
theorem dX1_settleIfComplete_20 : decode cX1_settleIfComplete 20 = .ok (.if_icmp .ne 4, 3) := by decide +kernel
set_option maxRecDepth 20000 in
theorem dX1_settleIfComplete_23 : decode cX1_settleIfComplete 23 = .ok (.return_, 1) := by decide +kernel
set_option maxRecDepth 20000 in
theorem dX1_settleIfComplete_24 : decode cX1_settleIfComplete 24 = .ok (.aload_n 0, 1) := by decide +kernel
set_option maxRecDepth 20000 in
theorem dX1_settleIfComplete_25 : decode cX1_settleIfComplete 25 = .ok (.getfield 20, 3) := by decide +kernel
set_option maxRecDepth 20000 in
theorem dX1_settleIfComplete_28 : decode cX1_settleIfComplete 28 = .ok (.iload_n 1, 1) := by decide +kernel
set_option maxRecDepth 20000 in
theorem dX1_settleIfComplete_29 : decode cX1_settleIfComplete 29 = .ok (.invokevirtual 74, 3) := by decide +kernel
set_option maxRecDepth 20000 in
theorem dX1_settleIfComplete_32 : decode cX1_settleIfComplete 32 = .ok (.iconst 3, 1) := by decide +kernel
set_option maxRecDepth 20000 in
theorem dX1_settleIfComplete_33 : decode cX1_settleIfComplete 33 = .ok (.if_icmp .ne 22, 3) := by decide +kernel
set_option maxRecDepth 20000 in
theorem dX1_settleIfComplete_36 : decode cX1_settleIfComplete 36 = .ok (.aload_n 0, 1) := by decide +kernel
set_option maxRecDepth 20000 in
theorem dX1_settleIfComplete_37 : decode cX1_settleIfComplete 37 = .ok (.getfield 33, 3) := by decide +kernel
set_option maxRecDepth 20000 in
theorem dX1_settleIfComplete_40 : decode cX1_settleIfComplete 40 = .ok (.iload_n 1, 1) := by decide +kernel
set_option maxRecDepth 20000 in
theorem dX1_settleIfComplete_41 : decode cX1_settleIfComplete 41 = .ok (.iconst 2, 1) := by decide +kernel
set_option maxRecDepth 20000 in
theorem dX1_settleIfComplete_42 : decode cX1_settleIfComplete 42 = .ok (.iconst 0, 1) := by decide +kernel
set_option maxRecDepth 20000 in
theorem dX1_settleIfComplete_43 : decode cX1_settleIfComplete 43 = .ok (.bipush (-5), 2) := by decide +kernel
set_option maxRecDepth 20000 in
theorem dX1_settleIfComplete_45 : decode cX1_settleIfComplete 45 = .ok (.invokestatic 85, 3) := by decide +kernel
set_option maxRecDepth 20000 in
theorem dX1_settleIfComplete_48 : decode cX1_settleIfComplete 48 = .ok (.iconst 0, 1) := by decide +kernel
set_option maxRecDepth 20000 in
theorem dX1_settleIfComplete_49 : decode cX1_settleIfComplete 49 = .ok (.invokevirtual 81, 3) := by decide +kernel
set_option maxRecDepth 20000 in
theorem dX1_settleIfComplete_52 : decode cX1_settleIfComplete 52 = .ok (.goto 25, 3) := by decide +kernel
set_option maxRecDepth 20000 in
theorem dX1_settleIfComplete_55 : decode cX1_settleIfComplete 55 = .ok (.aload_n 0, 1) := by decide +kernel
set_option maxRecDepth 20000 in
theorem dX1_settleIfComplete_56 : decode cX1_settleIfComplete 56 = .ok (.getfield 33, 3) := by decide +kernel
set_option maxRecDepth 20000 in
theorem dX1_settleIfComplete_59 : decode cX1_settleIfComplete 59 = .ok (.iload_n 1, 1) := by decide +kernel
set_option maxRecDepth 20000 in
theorem dX1_settleIfComplete_60 : decode cX1_settleIfComplete 60 = .ok (.iconst 1, 1) := by decide +kernel
set_option maxRecDepth 20000 in
theorem dX1_settleIfComplete_61 : decode cX1_settleIfComplete 61 = .ok (.iconst 0, 1) := by decide +kernel
set_option maxRecDepth 20000 in
theorem dX1_settleIfComplete_62 : decode cX1_settleIfComplete 62 = .ok (.aload_n 0, 1) := by decide +kernel
set_option maxRecDepth 20000 in
theorem dX1_settleIfComplete_63 : decode cX1_settleIfComplete 63 = .ok (.getfield 26, 3) := by decide +kernel
set_option maxRecDepth 20000 in
theorem dX1_settleIfComplete_66 : decode cX1_settleIfComplete 66 = .ok (.iload_n 1, 1) := by decide +kernel
set_option maxRecDepth 20000 in
theorem dX1_settleIfComplete_67 : decode cX1_settleIfComplete 67 = .ok (.invokevirtual 74, 3) := by decide +kernel
set_option maxRecDepth 20000 in
theorem dX1_settleIfComplete_70 : decode cX1_settleIfComplete 70 = .ok (.invokestatic 85, 3) := by decide +kernel
set_option maxRecDepth 20000 in
theorem dX1_settleIfComplete_73 : decode cX1_settleIfComplete 73 = .ok (.iconst 0, 1) := by decide +kernel
set_option maxRecDepth 20000 in
theorem dX1_settleIfComplete_74 : decode cX1_settleIfComplete 74 = .ok (.invokevirtual 81, 3) := by decide +kernel
set_option maxRecDepth 20000 in
theorem dX1_settleIfComplete_77 : decode cX1_settleIfComplete 77 = .ok (.return_, 1) := by decide +kernel
set_option maxRecDepth 20000 in
theorem dX2_init_0 : decode cX2_init 0 = .ok (.aload_n 0, 1) := by decide +kernel
set_option maxRecDepth 20000 in
theorem dX2_init_1 : decode cX2_init 1 = .ok (.invokespecial 3, 3) := by decide +kernel
set_option maxRecDepth 20000 in
theorem dX2_init_4 : decode cX2_init 4 = .ok (.aload_n 0, 1) := by decide +kernel
set_option maxRecDepth 20000 in
theorem dX2_init_5 : decode cX2_init 5 = .ok (.new 9, 3) := by decide +kernel
set_option maxRecDepth 20000 in
theorem dX2_init_8 : decode cX2_init 8 = .ok (.dup, 1) := by decide +kernel
set_option maxRecDepth 20000 in
theorem dX2_init_9 : decode cX2_init 9 = .ok (.bipush 60, 2) := by decide +kernel
set_option maxRecDepth 20000 in
theorem dX2_init_11 : decode cX2_init 11 = .ok (.invokespecial 11, 3) := by decide +kernel
set_option maxRecDepth 20000 in
theorem dX2_init_14 : decode cX2_init 14 = .ok (.putfield 14, 3) := by decide +kernel
set_option maxRecDepth 20000 in
theorem dX2_init_17 : decode cX2_init 17 = .ok (.aload_n 0, 1) := by decide +kernel
set_option maxRecDepth 20000 in
theorem dX2_init_18 : decode cX2_init 18 = .ok (.new 9, 3) := by decide +kernel
set_option maxRecDepth 20000 in
theorem dX2_init_21 : decode cX2_init 21 = .ok (.dup, 1) := by decide +kernel
set_option maxRecDepth 20000 in
theorem dX2_init_22 : decode cX2_init 22 = .ok (.bipush 60, 2) := by decide +kernel
set_option maxRecDepth 20000 in
theorem dX2_init_24 : decode cX2_init 24 = .ok (.invokespecial 11, 3) := by decide +kernel
set_option maxRecDepth 20000 in
theorem dX2_init_27 : decode cX2_init 27 = .ok (.putfield 20, 3) := by decide +kernel
set_option maxRecDepth 20000 in
theorem dX2_init_30 : decode cX2_init 30 = .ok (.aload_n 0, 1) := by decide +kernel
set_option maxRecDepth 20000 in
theorem dX2_init_31 : decode cX2_init 31 = .ok (.iconst 0, 1) := by decide +kernel
set_option maxRecDepth 20000 in
theorem dX2_init_32 : decode cX2_init 32 = .ok (.putfield 23, 3) := by decide +kernel
set_option maxRecDepth 20000 in
theorem dX2_init_35 : decode cX2_init 35 = .ok (.aload_n 0, 1) := by decide +kernel
set_option maxRecDepth 20000 in
theorem dX2_init_36 : decode cX2_init 36 = .ok (.iconst 0, 1) := by decide +kernel
set_option maxRecDepth 20000 in
theorem dX2_init_37 : decode cX2_init 37 = .ok (.putfield 27, 3) := by decide +kernel
set_option maxRecDepth 20000 in
theorem dX2_init_40 : decode cX2_init 40 = .ok (.return_, 1) := by decide +kernel
set_option maxRecDepth 20000 in
theorem dX2_clear_0 : decode cX2_clear 0 = .ok (.aload_n 0, 1) := by decide +kernel
set_option maxRecDepth 20000 in
theorem dX2_clear_1 : decode cX2_clear 1 = .ok (.iconst 0, 1) := by decide +kernel
set_option maxRecDepth 20000 in
theorem dX2_clear_2 : decode cX2_clear 2 = .ok (.putfield 23, 3) := by decide +kernel
set_option maxRecDepth 20000 in
theorem dX2_clear_5 : decode cX2_clear 5 = .ok (.aload_n 0, 1) := by decide +kernel
set_option maxRecDepth 20000 in
theorem dX2_clear_6 : decode cX2_clear 6 = .ok (.iconst 0, 1) := by decide +kernel
set_option maxRecDepth 20000 in
theorem dX2_clear_7 : decode cX2_clear 7 = .ok (.putfield 27, 3) := by decide +kernel
set_option maxRecDepth 20000 in
theorem dX2_clear_10 : decode cX2_clear 10 = .ok (.return_, 1) := by decide +kernel
set_option maxRecDepth 20000 in
theorem dX2_beginTurn_0 : decode cX2_beginTurn 0 = .ok (.aload_n 0, 1) := by decide +kernel
set_option maxRecDepth 20000 in
theorem dX2_beginTurn_1 : decode cX2_beginTurn 1 = .ok (.dup, 1) := by decide +kernel
set_option maxRecDepth 20000 in
theorem dX2_beginTurn_2 : decode cX2_beginTurn 2 = .ok (.getfield 27, 3) := by decide +kernel
set_option maxRecDepth 20000 in
theorem dX2_beginTurn_5 : decode cX2_beginTurn 5 = .ok (.iconst 1, 1) := by decide +kernel
set_option maxRecDepth 20000 in
theorem dX2_beginTurn_6 : decode cX2_beginTurn 6 = .ok (.iadd, 1) := by decide +kernel
set_option maxRecDepth 20000 in
theorem dX2_beginTurn_7 : decode cX2_beginTurn 7 = .ok (.putfield 27, 3) := by decide +kernel
set_option maxRecDepth 20000 in
theorem dX2_beginTurn_10 : decode cX2_beginTurn 10 = .ok (.return_, 1) := by decide +kernel
set_option maxRecDepth 20000 in
theorem dX2_turns_0 : decode cX2_turns 0 = .ok (.aload_n 0, 1) := by decide +kernel
set_option maxRecDepth 20000 in
theorem dX2_turns_1 : decode cX2_turns 1 = .ok (.getfield 27, 3) := by decide +kernel
set_option maxRecDepth 20000 in
theorem dX2_turns_4 : decode cX2_turns 4 = .ok (.ireturn, 1) := by decide +kernel
set_option maxRecDepth 20000 in
theorem dX2_total_0 : decode cX2_total 0 = .ok (.aload_n 0, 1) := by decide +kernel
set_option maxRecDepth 20000 in
theorem dX2_total_1 : decode cX2_total 1 = .ok (.getfield 23, 3) := by decide +kernel
set_option maxRecDepth 20000 in
theorem dX2_total_4 : decode cX2_total 4 = .ok (.ireturn, 1) := by decide +kernel
set_option maxRecDepth 20000 in
theorem dX2_kept_0 : decode cX2_kept 0 = .ok (.aload_n 0, 1) := by decide +kernel
set_option maxRecDepth 20000 in
theorem dX2_kept_1 : decode cX2_kept 1 = .ok (.getfield 23, 3) := by decide +kernel
set_option maxRecDepth 20000 in
theorem dX2_kept_4 : decode cX2_kept 4 = .ok (.bipush 60, 2) := by decide +kernel
set_option maxRecDepth 20000 in
theorem dX2_kept_6 : decode cX2_kept 6 = .ok (.invokestatic 30, 3) := by decide +kernel
set_option maxRecDepth 20000 in
theorem dX2_kept_9 : decode cX2_kept 9 = .ok (.ireturn, 1) := by decide +kernel
set_option maxRecDepth 20000 in
theorem dX2_add_0 : decode cX2_add 0 = .ok (.aload_n 0, 1) := by decide +kernel
set_option maxRecDepth 20000 in
theorem dX2_add_1 : decode cX2_add 1 = .ok (.getfield 14, 3) := by decide +kernel
set_option maxRecDepth 20000 in
theorem dX2_add_4 : decode cX2_add 4 = .ok (.aload_n 0, 1) := by decide +kernel
set_option maxRecDepth 20000 in
theorem dX2_add_5 : decode cX2_add 5 = .ok (.getfield 23, 3) := by decide +kernel
set_option maxRecDepth 20000 in
theorem dX2_add_8 : decode cX2_add 8 = .ok (.bipush 60, 2) := by decide +kernel
set_option maxRecDepth 20000 in
theorem dX2_add_10 : decode cX2_add 10 = .ok (.irem, 1) := by decide +kernel
set_option maxRecDepth 20000 in
theorem dX2_add_11 : decode cX2_add 11 = .ok (.lload_n 1, 1) := by decide +kernel
set_option maxRecDepth 20000 in
theorem dX2_add_12 : decode cX2_add 12 = .ok (.invokevirtual 36, 3) := by decide +kernel
set_option maxRecDepth 20000 in
theorem dX2_add_15 : decode cX2_add 15 = .ok (.aload_n 0, 1) := by decide +kernel
set_option maxRecDepth 20000 in
theorem dX2_add_16 : decode cX2_add 16 = .ok (.getfield 20, 3) := by decide +kernel
set_option maxRecDepth 20000 in
theorem dX2_add_19 : decode cX2_add 19 = .ok (.aload_n 0, 1) := by decide +kernel
set_option maxRecDepth 20000 in
theorem dX2_add_20 : decode cX2_add 20 = .ok (.getfield 23, 3) := by decide +kernel
set_option maxRecDepth 20000 in
theorem dX2_add_23 : decode cX2_add 23 = .ok (.bipush 60, 2) := by decide +kernel
set_option maxRecDepth 20000 in
theorem dX2_add_25 : decode cX2_add 25 = .ok (.irem, 1) := by decide +kernel
set_option maxRecDepth 20000 in
theorem dX2_add_26 : decode cX2_add 26 = .ok (.aload_n 0, 1) := by decide +kernel
set_option maxRecDepth 20000 in
theorem dX2_add_27 : decode cX2_add 27 = .ok (.getfield 27, 3) := by decide +kernel
set_option maxRecDepth 20000 in
theorem dX2_add_30 : decode cX2_add 30 = .ok (.i2l, 1) := by decide +kernel
set_option maxRecDepth 20000 in
theorem dX2_add_31 : decode cX2_add 31 = .ok (.invokevirtual 36, 3) := by decide +kernel
set_option maxRecDepth 20000 in
theorem dX2_add_34 : decode cX2_add 34 = .ok (.aload_n 0, 1) := by decide +kernel
set_option maxRecDepth 20000 in
theorem dX2_add_35 : decode cX2_add 35 = .ok (.dup, 1) := by decide +kernel
set_option maxRecDepth 20000 in
theorem dX2_add_36 : decode cX2_add 36 = .ok (.getfield 23, 3) := by decide +kernel
set_option maxRecDepth 20000 in
theorem dX2_add_39 : decode cX2_add 39 = .ok (.iconst 1, 1) := by decide +kernel
set_option maxRecDepth 20000 in
theorem dX2_add_40 : decode cX2_add 40 = .ok (.iadd, 1) := by decide +kernel
set_option maxRecDepth 20000 in
theorem dX2_add_41 : decode cX2_add 41 = .ok (.putfield 23, 3) := by decide +kernel
set_option maxRecDepth 20000 in
theorem dX2_add_44 : decode cX2_add 44 = .ok (.return_, 1) := by decide +kernel
set_option maxRecDepth 20000 in
theorem dX2_valueOf_0 : decode cX2_valueOf 0 = .ok (.aload_n 0, 1) := by decide +kernel
set_option maxRecDepth 20000 in
theorem dX2_valueOf_1 : decode cX2_valueOf 1 = .ok (.getfield 14, 3) := by decide +kernel
set_option maxRecDepth 20000 in
theorem dX2_valueOf_4 : decode cX2_valueOf 4 = .ok (.aload_n 0, 1) := by decide +kernel
set_option maxRecDepth 20000 in
theorem dX2_valueOf_5 : decode cX2_valueOf 5 = .ok (.getfield 23, 3) := by decide +kernel
set_option maxRecDepth 20000 in
theorem dX2_valueOf_8 : decode cX2_valueOf 8 = .ok (.iconst 1, 1) := by decide +kernel
set_option maxRecDepth 20000 in
theorem dX2_valueOf_9 : decode cX2_valueOf 9 = .ok (.isub, 1) := by decide +kernel
set_option maxRecDepth 20000 in
theorem dX2_valueOf_10 : decode cX2_valueOf 10 = .ok (.iload_n 1, 1) := by decide +kernel
set_option maxRecDepth 20000 in
theorem dX2_valueOf_11 : decode cX2_valueOf 11 = .ok (.isub, 1) := by decide +kernel
set_option maxRecDepth 20000 in
theorem dX2_valueOf_12 : decode cX2_valueOf 12 = .ok (.bipush 60, 2) := by decide +kernel
set_option maxRecDepth 20000 in
theorem dX2_valueOf_14 : decode cX2_valueOf 14 = .ok (.irem, 1) := by decide +kernel
set_option maxRecDepth 20000 in
theorem dX2_valueOf_15 : decode cX2_valueOf 15 = .ok (.invokevirtual 40, 3) := by decide +kernel
set_option maxRecDepth 20000 in
theorem dX2_valueOf_18 : decode cX2_valueOf 18 = .ok (.lreturn, 1) := by decide +kernel
set_option maxRecDepth 20000 in
theorem dX2_turnOf_0 : decode cX2_turnOf 0 = .ok (.aload_n 0, 1) := by decide +kernel
set_option maxRecDepth 20000 in
theorem dX2_turnOf_1 : decode cX2_turnOf 1 = .ok (.getfield 20, 3) := by decide +kernel
set_option maxRecDepth 20000 in
theorem dX2_turnOf_4 : decode cX2_turnOf 4 = .ok (.aload_n 0, 1) := by decide +kernel
set_option maxRecDepth 20000 in
theorem dX2_turnOf_5 : decode cX2_turnOf 5 = .ok (.getfield 23, 3) := by decide +kernel
set_option maxRecDepth 20000 in
theorem dX2_turnOf_8 : decode cX2_turnOf 8 = .ok (.iconst 1, 1) := by decide +kernel
set_option maxRecDepth 20000 in
theorem dX2_turnOf_9 : decode cX2_turnOf 9 = .ok (.isub, 1) := by decide +kernel
set_option maxRecDepth 20000 in
theorem dX2_turnOf_10 : decode cX2_turnOf 10 = .ok (.iload_n 1, 1) := by decide +kernel
set_option maxRecDepth 20000 in
theorem dX2_turnOf_11 : decode cX2_turnOf 11 = .ok (.isub, 1) := by decide +kernel
set_option maxRecDepth 20000 in
theorem dX2_turnOf_12 : decode cX2_turnOf 12 = .ok (.bipush 60, 2) := by decide +kernel
set_option maxRecDepth 20000 in
theorem dX2_turnOf_14 : decode cX2_turnOf 14 = .ok (.irem, 1) := by decide +kernel
set_option maxRecDepth 20000 in
theorem dX2_turnOf_15 : decode cX2_turnOf 15 = .ok (.invokevirtual 44, 3) := by decide +kernel
set_option maxRecDepth 20000 in
theorem dX2_turnOf_18 : decode cX2_turnOf 18 = .ok (.ireturn, 1) := by decide +kernel
set_option maxRecDepth 20000 in
theorem dX3_init_0 : decode cX3_init 0 = .ok (.aload_n 0, 1) := by decide +kernel
set_option maxRecDepth 20000 in
theorem dX3_init_1 : decode cX3_init 1 = .ok (.invokespecial 3, 3) := by decide +kernel
set_option maxRecDepth 20000 in
theorem dX3_init_4 : decode cX3_init 4 = .ok (.aload_n 0, 1) := by decide +kernel
set_option maxRecDepth 20000 in
theorem dX3_init_5 : decode cX3_init 5 = .ok (.new 9, 3) := by decide +kernel
set_option maxRecDepth 20000 in
theorem dX3_init_8 : decode cX3_init 8 = .ok (.dup, 1) := by decide +kernel
set_option maxRecDepth 20000 in
theorem dX3_init_9 : decode cX3_init 9 = .ok (.bipush 100, 2) := by decide +kernel
set_option maxRecDepth 20000 in
theorem dX3_init_11 : decode cX3_init 11 = .ok (.invokespecial 11, 3) := by decide +kernel
set_option maxRecDepth 20000 in
theorem dX3_init_14 : decode cX3_init 14 = .ok (.putfield 14, 3) := by decide +kernel
set_option maxRecDepth 20000 in
theorem dX3_init_17 : decode cX3_init 17 = .ok (.aload_n 0, 1) := by decide +kernel
set_option maxRecDepth 20000 in
theorem dX3_init_18 : decode cX3_init 18 = .ok (.new 9, 3) := by decide +kernel
set_option maxRecDepth 20000 in
theorem dX3_init_21 : decode cX3_init 21 = .ok (.dup, 1) := by decide +kernel
set_option maxRecDepth 20000 in
theorem dX3_init_22 : decode cX3_init 22 = .ok (.bipush 100, 2) := by decide +kernel
set_option maxRecDepth 20000 in
theorem dX3_init_24 : decode cX3_init 24 = .ok (.invokespecial 11, 3) := by decide +kernel
set_option maxRecDepth 20000 in
theorem dX3_init_27 : decode cX3_init 27 = .ok (.putfield 20, 3) := by decide +kernel
set_option maxRecDepth 20000 in
theorem dX3_init_30 : decode cX3_init 30 = .ok (.aload_n 0, 1) := by decide +kernel
set_option maxRecDepth 20000 in
theorem dX3_init_31 : decode cX3_init 31 = .ok (.new 9, 3) := by decide +kernel
set_option maxRecDepth 20000 in
theorem dX3_init_34 : decode cX3_init 34 = .ok (.dup, 1) := by decide +kernel
set_option maxRecDepth 20000 in
theorem dX3_init_35 : decode cX3_init 35 = .ok (.bipush 100, 2) := by decide +kernel
set_option maxRecDepth 20000 in
theorem dX3_init_37 : decode cX3_init 37 = .ok (.invokespecial 11, 3) := by decide +kernel
set_option maxRecDepth 20000 in
theorem dX3_init_40 : decode cX3_init 40 = .ok (.putfield 23, 3) := by decide +kernel
set_option maxRecDepth 20000 in
theorem dX3_init_43 : decode cX3_init 43 = .ok (.aload_n 0, 1) := by decide +kernel
set_option maxRecDepth 20000 in
theorem dX3_init_44 : decode cX3_init 44 = .ok (.new 9, 3) := by decide +kernel
set_option maxRecDepth 20000 in
theorem dX3_init_47 : decode cX3_init 47 = .ok (.dup, 1) := by decide +kernel
set_option maxRecDepth 20000 in
theorem dX3_init_48 : decode cX3_init 48 = .ok (.bipush 100, 2) := by decide +kernel
set_option maxRecDepth 20000 in
theorem dX3_init_50 : decode cX3_init 50 = .ok (.invokespecial 11, 3) := by decide +kernel
set_option maxRecDepth 20000 in
theorem dX3_init_53 : decode cX3_init 53 = .ok (.putfield 26, 3) := by decide +kernel
set_option maxRecDepth 20000 in
theorem dX3_init_56 : decode cX3_init 56 = .ok (.aload_n 0, 1) := by decide +kernel
set_option maxRecDepth 20000 in
theorem dX3_init_57 : decode cX3_init 57 = .ok (.new 9, 3) := by decide +kernel
set_option maxRecDepth 20000 in
theorem dX3_init_60 : decode cX3_init 60 = .ok (.dup, 1) := by decide +kernel
set_option maxRecDepth 20000 in
theorem dX3_init_61 : decode cX3_init 61 = .ok (.bipush 100, 2) := by decide +kernel
set_option maxRecDepth 20000 in
theorem dX3_init_63 : decode cX3_init 63 = .ok (.invokespecial 11, 3) := by decide +kernel
set_option maxRecDepth 20000 in
theorem dX3_init_66 : decode cX3_init 66 = .ok (.putfield 29, 3) := by decide +kernel
set_option maxRecDepth 20000 in
theorem dX3_init_69 : decode cX3_init 69 = .ok (.aload_n 0, 1) := by decide +kernel
set_option maxRecDepth 20000 in
theorem dX3_init_70 : decode cX3_init 70 = .ok (.new 9, 3) := by decide +kernel
set_option maxRecDepth 20000 in
theorem dX3_init_73 : decode cX3_init 73 = .ok (.dup, 1) := by decide +kernel
set_option maxRecDepth 20000 in
theorem dX3_init_74 : decode cX3_init 74 = .ok (.bipush 100, 2) := by decide +kernel
set_option maxRecDepth 20000 in
theorem dX3_init_76 : decode cX3_init 76 = .ok (.invokespecial 11, 3) := by decide +kernel
set_option maxRecDepth 20000 in
theorem dX3_init_79 : decode cX3_init 79 = .ok (.putfield 32, 3) := by decide +kernel
set_option maxRecDepth 20000 in
theorem dX3_init_82 : decode cX3_init 82 = .ok (.aload_n 0, 1) := by decide +kernel
set_option maxRecDepth 20000 in
theorem dX3_init_83 : decode cX3_init 83 = .ok (.new 9, 3) := by decide +kernel
set_option maxRecDepth 20000 in
theorem dX3_init_86 : decode cX3_init 86 = .ok (.dup, 1) := by decide +kernel
set_option maxRecDepth 20000 in
theorem dX3_init_87 : decode cX3_init 87 = .ok (.bipush 100, 2) := by decide +kernel
set_option maxRecDepth 20000 in
theorem dX3_init_89 : decode cX3_init 89 = .ok (.invokespecial 11, 3) := by decide +kernel
set_option maxRecDepth 20000 in
theorem dX3_init_92 : decode cX3_init 92 = .ok (.putfield 35, 3) := by decide +kernel
set_option maxRecDepth 20000 in
theorem dX3_init_95 : decode cX3_init 95 = .ok (.aload_n 0, 1) := by decide +kernel
set_option maxRecDepth 20000 in
theorem dX3_init_96 : decode cX3_init 96 = .ok (.new 9, 3) := by decide +kernel
set_option maxRecDepth 20000 in
theorem dX3_init_99 : decode cX3_init 99 = .ok (.dup, 1) := by decide +kernel
set_option maxRecDepth 20000 in
theorem dX3_init_100 : decode cX3_init 100 = .ok (.bipush 100, 2) := by decide +kernel
set_option maxRecDepth 20000 in
theorem dX3_init_102 : decode cX3_init 102 = .ok (.invokespecial 11, 3) := by decide +kernel
set_option maxRecDepth 20000 in
theorem dX3_init_105 : decode cX3_init 105 = .ok (.putfield 38, 3) := by decide +kernel
set_option maxRecDepth 20000 in
theorem dX3_init_108 : decode cX3_init 108 = .ok (.aload_n 0, 1) := by decide +kernel
set_option maxRecDepth 20000 in
theorem dX3_init_109 : decode cX3_init 109 = .ok (.new 9, 3) := by decide +kernel
set_option maxRecDepth 20000 in
theorem dX3_init_112 : decode cX3_init 112 = .ok (.dup, 1) := by decide +kernel
set_option maxRecDepth 20000 in
theorem dX3_init_113 : decode cX3_init 113 = .ok (.bipush 100, 2) := by decide +kernel
set_option maxRecDepth 20000 in
theorem dX3_init_115 : decode cX3_init 115 = .ok (.invokespecial 11, 3) := by decide +kernel
set_option maxRecDepth 20000 in
theorem dX3_init_118 : decode cX3_init 118 = .ok (.putfield 41, 3) := by decide +kernel
set_option maxRecDepth 20000 in
theorem dX3_init_121 : decode cX3_init 121 = .ok (.aload_n 0, 1) := by decide +kernel
set_option maxRecDepth 20000 in
theorem dX3_init_122 : decode cX3_init 122 = .ok (.new 9, 3) := by decide +kernel
set_option maxRecDepth 20000 in
theorem dX3_init_125 : decode cX3_init 125 = .ok (.dup, 1) := by decide +kernel
set_option maxRecDepth 20000 in
theorem dX3_init_126 : decode cX3_init 126 = .ok (.sipush 900, 3) := by decide +kernel
set_option maxRecDepth 20000 in
theorem dX3_init_129 : decode cX3_init 129 = .ok (.invokespecial 11, 3) := by decide +kernel
set_option maxRecDepth 20000 in
theorem dX3_init_132 : decode cX3_init 132 = .ok (.putfield 44, 3) := by decide +kernel
set_option maxRecDepth 20000 in
theorem dX3_init_135 : decode cX3_init 135 = .ok (.aload_n 0, 1) := by decide +kernel
set_option maxRecDepth 20000 in
theorem dX3_init_136 : decode cX3_init 136 = .ok (.new 9, 3) := by decide +kernel
set_option maxRecDepth 20000 in
theorem dX3_init_139 : decode cX3_init 139 = .ok (.dup, 1) := by decide +kernel
set_option maxRecDepth 20000 in
theorem dX3_init_140 : decode cX3_init 140 = .ok (.sipush 900, 3) := by decide +kernel
set_option maxRecDepth 20000 in
theorem dX3_init_143 : decode cX3_init 143 = .ok (.invokespecial 11, 3) := by decide +kernel
set_option maxRecDepth 20000 in
theorem dX3_init_146 : decode cX3_init 146 = .ok (.putfield 47, 3) := by decide +kernel
set_option maxRecDepth 20000 in
theorem dX3_init_149 : decode cX3_init 149 = .ok (.aload_n 0, 1) := by decide +kernel
set_option maxRecDepth 20000 in
theorem dX3_init_150 : decode cX3_init 150 = .ok (.iconst 0, 1) := by decide +kernel
set_option maxRecDepth 20000 in
theorem dX3_init_151 : decode cX3_init 151 = .ok (.putfield 50, 3) := by decide +kernel
set_option maxRecDepth 20000 in
theorem dX3_init_154 : decode cX3_init 154 = .ok (.aload_n 0, 1) := by decide +kernel
set_option maxRecDepth 20000 in
theorem dX3_init_155 : decode cX3_init 155 = .ok (.iconst 0, 1) := by decide +kernel
set_option maxRecDepth 20000 in
theorem dX3_init_156 : decode cX3_init 156 = .ok (.putfield 54, 3) := by decide +kernel
set_option maxRecDepth 20000 in
theorem dX3_init_159 : decode cX3_init 159 = .ok (.aload_n 0, 1) := by decide +kernel
set_option maxRecDepth 20000 in
theorem dX3_init_160 : decode cX3_init 160 = .ok (.iconst 0, 1) := by decide +kernel
set_option maxRecDepth 20000 in
theorem dX3_init_161 : decode cX3_init 161 = .ok (.putfield 57, 3) := by decide +kernel
set_option maxRecDepth 20000 in
theorem dX3_init_164 : decode cX3_init 164 = .ok (.aload_n 0, 1) := by decide +kernel
set_option maxRecDepth 20000 in
theorem dX3_init_165 : decode cX3_init 165 = .ok (.iconst 0, 1) := by decide +kernel
set_option maxRecDepth 20000 in
theorem dX3_init_166 : decode cX3_init 166 = .ok (.putfield 60, 3) := by decide +kernel
set_option maxRecDepth 20000 in
theorem dX3_init_169 : decode cX3_init 169 = .ok (.return_, 1) := by decide +kernel
set_option maxRecDepth 20000 in
theorem dX3_clear_0 : decode cX3_clear 0 = .ok (.aload_n 0, 1) := by decide +kernel
set_option maxRecDepth 20000 in
theorem dX3_clear_1 : decode cX3_clear 1 = .ok (.iconst 0, 1) := by decide +kernel
set_option maxRecDepth 20000 in
theorem dX3_clear_2 : decode cX3_clear 2 = .ok (.putfield 50, 3) := by decide +kernel
set_option maxRecDepth 20000 in
theorem dX3_clear_5 : decode cX3_clear 5 = .ok (.aload_n 0, 1) := by decide +kernel
set_option maxRecDepth 20000 in
theorem dX3_clear_6 : decode cX3_clear 6 = .ok (.iconst 0, 1) := by decide +kernel
set_option maxRecDepth 20000 in
theorem dX3_clear_7 : decode cX3_clear 7 = .ok (.putfield 54, 3) := by decide +kernel
set_option maxRecDepth 20000 in
theorem dX3_clear_10 : decode cX3_clear 10 = .ok (.return_, 1) := by decide +kernel
set_option maxRecDepth 20000 in
theorem dX3_made_0 : decode cX3_made 0 = .ok (.aload_n 0, 1) := by decide +kernel
set_option maxRecDepth 20000 in
theorem dX3_made_1 : decode cX3_made 1 = .ok (.getfield 50, 3) := by decide +kernel
set_option maxRecDepth 20000 in
theorem dX3_made_4 : decode cX3_made 4 = .ok (.ireturn, 1) := by decide +kernel
set_option maxRecDepth 20000 in
theorem dX3_isFull_0 : decode cX3_isFull 0 = .ok (.aload_n 0, 1) := by decide +kernel
set_option maxRecDepth 20000 in
theorem dX3_isFull_1 : decode cX3_isFull 1 = .ok (.getfield 50, 3) := by decide +kernel
set_option maxRecDepth 20000 in
theorem dX3_isFull_4 : decode cX3_isFull 4 = .ok (.bipush 100, 2) := by decide +kernel
set_option maxRecDepth 20000 in
theorem dX3_isFull_6 : decode cX3_isFull 6 = .ok (.if_icmp .lt 7, 3) := by decide +kernel
set_option maxRecDepth 20000 in
theorem dX3_isFull_9 : decode cX3_isFull 9 = .ok (.iconst 1, 1) := by decide +kernel
set_option maxRecDepth 20000 in
theorem dX3_isFull_10 : decode cX3_isFull 10 = .ok (.goto 4, 3) := by decide +kernel
set_option maxRecDepth 20000 in
theorem dX3_isFull_13 : decode cX3_isFull 13 = .ok (.iconst 0, 1) := by decide +kernel
set_option maxRecDepth 20000 in
theorem dX3_isFull_14 : decode cX3_isFull 14 = .ok (.ireturn, 1) := by decide +kernel
set_option maxRecDepth 20000 in
theorem dX3_has_0 : decode cX3_has 0 = .ok (.iload_n 1, 1) := by decide +kernel
set_option maxRecDepth 20000 in
theorem dX3_has_1 : decode cX3_has 1 = .ok (.aload_n 0, 1) := by decide +kernel
set_option maxRecDepth 20000 in
theorem dX3_has_2 : decode cX3_has 2 = .ok (.getfield 50, 3) := by decide +kernel
set_option maxRecDepth 20000 in
theorem dX3_has_5 : decode cX3_has 5 = .ok (.invokestatic 63, 3) := by decide +kernel
set_option maxRecDepth 20000 in
theorem dX3_has_8 : decode cX3_has 8 = .ok (.ireturn, 1) := by decide +kernel
set_option maxRecDepth 20000 in
theorem dX3_statusOf_0 : decode cX3_statusOf 0 = .ok (.aload_n 0, 1) := by decide +kernel
set_option maxRecDepth 20000 in
theorem dX3_statusOf_1 : decode cX3_statusOf 1 = .ok (.getfield 14, 3) := by decide +kernel
set_option maxRecDepth 20000 in
theorem dX3_statusOf_4 : decode cX3_statusOf 4 = .ok (.iload_n 1, 1) := by decide +kernel
set_option maxRecDepth 20000 in
theorem dX3_statusOf_5 : decode cX3_statusOf 5 = .ok (.invokevirtual 67, 3) := by decide +kernel
set_option maxRecDepth 20000 in
theorem dX3_statusOf_8 : decode cX3_statusOf 8 = .ok (.ireturn, 1) := by decide +kernel
set_option maxRecDepth 20000 in
theorem dX3_valueOf_0 : decode cX3_valueOf 0 = .ok (.aload_n 0, 1) := by decide +kernel
set_option maxRecDepth 20000 in
theorem dX3_valueOf_1 : decode cX3_valueOf 1 = .ok (.getfield 20, 3) := by decide +kernel
set_option maxRecDepth 20000 in
theorem dX3_valueOf_4 : decode cX3_valueOf 4 = .ok (.iload_n 1, 1) := by decide +kernel
set_option maxRecDepth 20000 in
theorem dX3_valueOf_5 : decode cX3_valueOf 5 = .ok (.invokevirtual 71, 3) := by decide +kernel
set_option maxRecDepth 20000 in
theorem dX3_valueOf_8 : decode cX3_valueOf 8 = .ok (.lreturn, 1) := by decide +kernel
set_option maxRecDepth 20000 in
theorem dX3_lastKeyOf_0 : decode cX3_lastKeyOf 0 = .ok (.aload_n 0, 1) := by decide +kernel
set_option maxRecDepth 20000 in
theorem dX3_lastKeyOf_1 : decode cX3_lastKeyOf 1 = .ok (.getfield 23, 3) := by decide +kernel
set_option maxRecDepth 20000 in
theorem dX3_lastKeyOf_4 : decode cX3_lastKeyOf 4 = .ok (.iload_n 1, 1) := by decide +kernel
set_option maxRecDepth 20000 in
theorem dX3_lastKeyOf_5 : decode cX3_lastKeyOf 5 = .ok (.invokevirtual 67, 3) := by decide +kernel
set_option maxRecDepth 20000 in
theorem dX3_lastKeyOf_8 : decode cX3_lastKeyOf 8 = .ok (.ireturn, 1) := by decide +kernel
set_option maxRecDepth 20000 in
theorem dX3_isKeyUsed_0 : decode cX3_isKeyUsed 0 = .ok (.aload_n 0, 1) := by decide +kernel
set_option maxRecDepth 20000 in
theorem dX3_isKeyUsed_1 : decode cX3_isKeyUsed 1 = .ok (.getfield 26, 3) := by decide +kernel
set_option maxRecDepth 20000 in
theorem dX3_isKeyUsed_4 : decode cX3_isKeyUsed 4 = .ok (.iload_n 1, 1) := by decide +kernel
set_option maxRecDepth 20000 in
theorem dX3_isKeyUsed_5 : decode cX3_isKeyUsed 5 = .ok (.invokevirtual 67, 3) := by decide +kernel
set_option maxRecDepth 20000 in
theorem dX3_isKeyUsed_8 : decode cX3_isKeyUsed 8 = .ok (.iconst 1, 1) := by decide +kernel
set_option maxRecDepth 20000 in
theorem dX3_isKeyUsed_9 : decode cX3_isKeyUsed 9 = .ok (.if_icmp .ne 7, 3) := by decide +kernel
set_option maxRecDepth 20000 in
theorem dX3_isKeyUsed_12 : decode cX3_isKeyUsed 12 = .ok (.iconst 1, 1) := by decide +kernel
set_option maxRecDepth 20000 in
theorem dX3_isKeyUsed_13 : decode cX3_isKeyUsed 13 = .ok (.goto 4, 3) := by decide +kernel
set_option maxRecDepth 20000 in
theorem dX3_isKeyUsed_16 : decode cX3_isKeyUsed 16 = .ok (.iconst 0, 1) := by decide +kernel
set_option maxRecDepth 20000 in
theorem dX3_isKeyUsed_17 : decode cX3_isKeyUsed 17 = .ok (.ireturn, 1) := by decide +kernel
set_option maxRecDepth 20000 in
theorem dX3_reactionsOf_0 : decode cX3_reactionsOf 0 = .ok (.aload_n 0, 1) := by decide +kernel
set_option maxRecDepth 20000 in
theorem dX3_reactionsOf_1 : decode cX3_reactionsOf 1 = .ok (.getfield 35, 3) := by decide +kernel
set_option maxRecDepth 20000 in
theorem dX3_reactionsOf_4 : decode cX3_reactionsOf 4 = .ok (.iload_n 1, 1) := by decide +kernel
set_option maxRecDepth 20000 in
theorem dX3_reactionsOf_5 : decode cX3_reactionsOf 5 = .ok (.invokevirtual 67, 3) := by decide +kernel
set_option maxRecDepth 20000 in
theorem dX3_reactionsOf_8 : decode cX3_reactionsOf 8 = .ok (.ireturn, 1) := by decide +kernel
set_option maxRecDepth 20000 in
theorem dX3_isLoose_0 : decode cX3_isLoose 0 = .ok (.aload_n 0, 1) := by decide +kernel
set_option maxRecDepth 20000 in
theorem dX3_isLoose_1 : decode cX3_isLoose 1 = .ok (.getfield 14, 3) := by decide +kernel
set_option maxRecDepth 20000 in
theorem dX3_isLoose_4 : decode cX3_isLoose 4 = .ok (.iload_n 1, 1) := by decide +kernel
set_option maxRecDepth 20000 in
theorem dX3_isLoose_5 : decode cX3_isLoose 5 = .ok (.invokevirtual 67, 3) := by decide +kernel
set_option maxRecDepth 20000 in
theorem dX3_isLoose_8 : decode cX3_isLoose 8 = .ok (.iconst 2, 1) := by decide +kernel
set_option maxRecDepth 20000 in
theorem dX3_isLoose_9 : decode cX3_isLoose 9 = .ok (.if_icmp .ne 18, 3) := by decide +kernel
set_option maxRecDepth 20000 in
theorem dX3_isLoose_12 : decode cX3_isLoose 12 = .ok (.aload_n 0, 1) := by decide +kernel
set_option maxRecDepth 20000 in
theorem dX3_isLoose_13 : decode cX3_isLoose 13 = .ok (.getfield 29, 3) := by decide +kernel
set_option maxRecDepth 20000 in
theorem dX3_isLoose_16 : decode cX3_isLoose 16 = .ok (.iload_n 1, 1) := by decide +kernel
set_option maxRecDepth 20000 in
theorem dX3_isLoose_17 : decode cX3_isLoose 17 = .ok (.invokevirtual 67, 3) := by decide +kernel
set_option maxRecDepth 20000 in
theorem dX3_isLoose_20 : decode cX3_isLoose 20 = .ok (.ifCond .ne 7, 3) := by decide +kernel
set_option maxRecDepth 20000 in
theorem dX3_isLoose_23 : decode cX3_isLoose 23 = .ok (.iconst 1, 1) := by decide +kernel
set_option maxRecDepth 20000 in
theorem dX3_isLoose_24 : decode cX3_isLoose 24 = .ok (.goto 4, 3) := by decide +kernel
set_option maxRecDepth 20000 in
theorem dX3_isLoose_27 : decode cX3_isLoose 27 = .ok (.iconst 0, 1) := by decide +kernel
set_option maxRecDepth 20000 in
theorem dX3_isLoose_28 : decode cX3_isLoose 28 = .ok (.ireturn, 1) := by decide +kernel
set_option maxRecDepth 20000 in
theorem dX3_loose_0 : decode cX3_loose 0 = .ok (.iconst 0, 1) := by decide +kernel
set_option maxRecDepth 20000 in
theorem dX3_loose_1 : decode cX3_loose 1 = .ok (.istore_n 1, 1) := by decide +kernel
set_option maxRecDepth 20000 in
theorem dX3_loose_2 : decode cX3_loose 2 = .ok (.iconst 0, 1) := by decide +kernel
set_option maxRecDepth 20000 in
theorem dX3_loose_3 : decode cX3_loose 3 = .ok (.istore_n 2, 1) := by decide +kernel
set_option maxRecDepth 20000 in
theorem dX3_loose_4 : decode cX3_loose 4 = .ok (.iload_n 2, 1) := by decide +kernel
set_option maxRecDepth 20000 in
theorem dX3_loose_5 : decode cX3_loose 5 = .ok (.aload_n 0, 1) := by decide +kernel
set_option maxRecDepth 20000 in
theorem dX3_loose_6 : decode cX3_loose 6 = .ok (.getfield 50, 3) := by decide +kernel
set_option maxRecDepth 20000 in
theorem dX3_loose_9 : decode cX3_loose 9 = .ok (.if_icmp .ge 20, 3) := by decide +kernel
set_option maxRecDepth 20000 in
theorem dX3_loose_12 : decode cX3_loose 12 = .ok (.aload_n 0, 1) := by decide +kernel
set_option maxRecDepth 20000 in
theorem dX3_loose_13 : decode cX3_loose 13 = .ok (.iload_n 2, 1) := by decide +kernel
set_option maxRecDepth 20000 in
theorem dX3_loose_14 : decode cX3_loose 14 = .ok (.invokevirtual 75, 3) := by decide +kernel
set_option maxRecDepth 20000 in
theorem dX3_loose_17 : decode cX3_loose 17 = .ok (.ifCond .eq 6, 3) := by decide +kernel
set_option maxRecDepth 20000 in
theorem dX3_loose_20 : decode cX3_loose 20 = .ok (.iinc 1 1, 3) := by decide +kernel
set_option maxRecDepth 20000 in
theorem dX3_loose_23 : decode cX3_loose 23 = .ok (.iinc 2 1, 3) := by decide +kernel
set_option maxRecDepth 20000 in
theorem dX3_loose_26 : decode cX3_loose 26 = .ok (.goto (-22), 3) := by decide +kernel
set_option maxRecDepth 20000 in
theorem dX3_loose_29 : decode cX3_loose 29 = .ok (.iload_n 1, 1) := by decide +kernel
set_option maxRecDepth 20000 in
theorem dX3_loose_30 : decode cX3_loose 30 = .ok (.ireturn, 1) := by decide +kernel
set_option maxRecDepth 20000 in
theorem dX3_make_0 : decode cX3_make 0 = .ok (.aload_n 0, 1) := by decide +kernel
set_option maxRecDepth 20000 in
theorem dX3_make_1 : decode cX3_make 1 = .ok (.getfield 50, 3) := by decide +kernel
set_option maxRecDepth 20000 in
theorem dX3_make_4 : decode cX3_make 4 = .ok (.istore_n 1, 1) := by decide +kernel
set_option maxRecDepth 20000 in
theorem dX3_make_5 : decode cX3_make 5 = .ok (.aload_n 0, 1) := by decide +kernel
set_option maxRecDepth 20000 in
theorem dX3_make_6 : decode cX3_make 6 = .ok (.getfield 14, 3) := by decide +kernel
set_option maxRecDepth 20000 in
theorem dX3_make_9 : decode cX3_make 9 = .ok (.iload_n 1, 1) := by decide +kernel
set_option maxRecDepth 20000 in
theorem dX3_make_10 : decode cX3_make 10 = .ok (.lconst 0, 1) := by decide +kernel
set_option maxRecDepth 20000 in
theorem dX3_make_11 : decode cX3_make 11 = .ok (.invokevirtual 79, 3) := by decide +kernel
set_option maxRecDepth 20000 in
theorem dX3_make_14 : decode cX3_make 14 = .ok (.aload_n 0, 1) := by decide +kernel
set_option maxRecDepth 20000 in
theorem dX3_make_15 : decode cX3_make 15 = .ok (.getfield 20, 3) := by decide +kernel
set_option maxRecDepth 20000 in
theorem dX3_make_18 : decode cX3_make 18 = .ok (.iload_n 1, 1) := by decide +kernel
set_option maxRecDepth 20000 in
theorem dX3_make_19 : decode cX3_make 19 = .ok (.lconst 0, 1) := by decide +kernel
set_option maxRecDepth 20000 in
theorem dX3_make_20 : decode cX3_make 20 = .ok (.invokevirtual 79, 3) := by decide +kernel
set_option maxRecDepth 20000 in
theorem dX3_make_23 : decode cX3_make 23 = .ok (.aload_n 0, 1) := by decide +kernel
set_option maxRecDepth 20000 in
theorem dX3_make_24 : decode cX3_make 24 = .ok (.getfield 23, 3) := by decide +kernel
set_option maxRecDepth 20000 in
theorem dX3_make_27 : decode cX3_make 27 = .ok (.iload_n 1, 1) := by decide +kernel
set_option maxRecDepth 20000 in
theorem dX3_make_28 : decode cX3_make 28 = .ok (.lconst 0, 1) := by decide +kernel
set_option maxRecDepth 20000 in
theorem dX3_make_29 : decode cX3_make 29 = .ok (.invokevirtual 79, 3) := by decide +kernel
set_option maxRecDepth 20000 in
theorem dX3_make_32 : decode cX3_make 32 = .ok (.aload_n 0, 1) := by decide +kernel
set_option maxRecDepth 20000 in
theorem dX3_make_33 : decode cX3_make 33 = .ok (.getfield 26, 3) := by decide +kernel
set_option maxRecDepth 20000 in
theorem dX3_make_36 : decode cX3_make 36 = .ok (.iload_n 1, 1) := by decide +kernel
set_option maxRecDepth 20000 in
theorem dX3_make_37 : decode cX3_make 37 = .ok (.lconst 0, 1) := by decide +kernel
set_option maxRecDepth 20000 in
theorem dX3_make_38 : decode cX3_make 38 = .ok (.invokevirtual 79, 3) := by decide +kernel
set_option maxRecDepth 20000 in
theorem dX3_make_41 : decode cX3_make 41 = .ok (.aload_n 0, 1) := by decide +kernel
set_option maxRecDepth 20000 in
theorem dX3_make_42 : decode cX3_make 42 = .ok (.getfield 29, 3) := by decide +kernel
set_option maxRecDepth 20000 in
theorem dX3_make_45 : decode cX3_make 45 = .ok (.iload_n 1, 1) := by decide +kernel
set_option maxRecDepth 20000 in
theorem dX3_make_46 : decode cX3_make 46 = .ok (.lconst 0, 1) := by decide +kernel
set_option maxRecDepth 20000 in
theorem dX3_make_47 : decode cX3_make 47 = .ok (.invokevirtual 79, 3) := by decide +kernel
set_option maxRecDepth 20000 in
theorem dX3_make_50 : decode cX3_make 50 = .ok (.aload_n 0, 1) := by decide +kernel
set_option maxRecDepth 20000 in
theorem dX3_make_51 : decode cX3_make 51 = .ok (.getfield 35, 3) := by decide +kernel
set_option maxRecDepth 20000 in
theorem dX3_make_54 : decode cX3_make 54 = .ok (.iload_n 1, 1) := by decide +kernel
set_option maxRecDepth 20000 in
theorem dX3_make_55 : decode cX3_make 55 = .ok (.lconst 0, 1) := by decide +kernel
set_option maxRecDepth 20000 in
theorem dX3_make_56 : decode cX3_make 56 = .ok (.invokevirtual 79, 3) := by decide +kernel
set_option maxRecDepth 20000 in
theorem dX3_make_59 : decode cX3_make 59 = .ok (.aload_n 0, 1) := by decide +kernel
set_option maxRecDepth 20000 in
theorem dX3_make_60 : decode cX3_make 60 = .ok (.dup, 1) := by decide +kernel
set_option maxRecDepth 20000 in
theorem dX3_make_61 : decode cX3_make 61 = .ok (.getfield 50, 3) := by decide +kernel
set_option maxRecDepth 20000 in
theorem dX3_make_64 : decode cX3_make 64 = .ok (.iconst 1, 1) := by decide +kernel
set_option maxRecDepth 20000 in
theorem dX3_make_65 : decode cX3_make 65 = .ok (.iadd, 1) := by decide +kernel
set_option maxRecDepth 20000 in
theorem dX3_make_66 : decode cX3_make 66 = .ok (.putfield 50, 3) := by decide +kernel
set_option maxRecDepth 20000 in
theorem dX3_make_69 : decode cX3_make 69 = .ok (.iload_n 1, 1) := by decide +kernel
set_option maxRecDepth 20000 in
theorem dX3_make_70 : decode cX3_make 70 = .ok (.ireturn, 1) := by decide +kernel
set_option maxRecDepth 20000 in
theorem dX3_promiseFor_0 : decode cX3_promiseFor 0 = .ok (.lload_n 1, 1) := by decide +kernel
set_option maxRecDepth 20000 in
theorem dX3_promiseFor_1 : decode cX3_promiseFor 1 = .ok (.invokestatic 83, 3) := by decide +kernel
set_option maxRecDepth 20000 in
theorem dX3_promiseFor_4 : decode cX3_promiseFor 4 = .ok (.iconst 1, 1) := by decide +kernel
set_option maxRecDepth 20000 in
theorem dX3_promiseFor_5 : decode cX3_promiseFor 5 = .ok (.if_icmp .ne 8, 3) := by decide +kernel
set_option maxRecDepth 20000 in
theorem dX3_promiseFor_8 : decode cX3_promiseFor 8 = .ok (.lload_n 1, 1) := by decide +kernel
set_option maxRecDepth 20000 in
theorem dX3_promiseFor_9 : decode cX3_promiseFor 9 = .ok (.invokestatic 89, 3) := by decide +kernel
set_option maxRecDepth 20000 in
theorem dX3_promiseFor_12 : decode cX3_promiseFor 12 = .ok (.ireturn, 1) := by decide +kernel
set_option maxRecDepth 20000 in
theorem dX3_promiseFor_13 : decode cX3_promiseFor 13 = .ok (.aload_n 0, 1) := by decide +kernel
set_option maxRecDepth 20000 in
theorem dX3_promiseFor_14 : decode cX3_promiseFor 14 = .ok (.invokevirtual 92, 3) := by decide +kernel
set_option maxRecDepth 20000 in
theorem dX3_promiseFor_17 : decode cX3_promiseFor 17 = .ok (.istore_n 3, 1) := by decide +kernel
set_option maxRecDepth 20000 in
theorem dX3_promiseFor_18 : decode cX3_promiseFor 18 = .ok (.aload_n 0, 1) := by decide +kernel
set_option maxRecDepth 20000 in
theorem dX3_promiseFor_19 : decode cX3_promiseFor 19 = .ok (.iload_n 3, 1) := by decide +kernel
set_option maxRecDepth 20000 in
theorem dX3_promiseFor_20 : decode cX3_promiseFor 20 = .ok (.iconst 1, 1) := by decide +kernel
set_option maxRecDepth 20000 in
theorem dX3_promiseFor_21 : decode cX3_promiseFor 21 = .ok (.lload_n 1, 1) := by decide +kernel
set_option maxRecDepth 20000 in
theorem dX3_promiseFor_22 : decode cX3_promiseFor 22 = .ok (.iconst 0, 1) := by decide +kernel
set_option maxRecDepth 20000 in
theorem dX3_promiseFor_23 : decode cX3_promiseFor 23 = .ok (.invokevirtual 96, 3) := by decide +kernel
set_option maxRecDepth 20000 in
theorem dX3_promiseFor_26 : decode cX3_promiseFor 26 = .ok (.iload_n 3, 1) := by decide +kernel
set_option maxRecDepth 20000 in
theorem dX3_promiseFor_27 : decode cX3_promiseFor 27 = .ok (.ireturn, 1) := by decide +kernel
set_option maxRecDepth 20000 in
theorem dX3_addKey_0 : decode cX3_addKey 0 = .ok (.aload_n 0, 1) := by decide +kernel
set_option maxRecDepth 20000 in
theorem dX3_addKey_1 : decode cX3_addKey 1 = .ok (.getfield 23, 3) := by decide +kernel
set_option maxRecDepth 20000 in
theorem dX3_addKey_4 : decode cX3_addKey 4 = .ok (.iload_n 1, 1) := by decide +kernel
set_option maxRecDepth 20000 in
theorem dX3_addKey_5 : decode cX3_addKey 5 = .ok (.invokevirtual 67, 3) := by decide +kernel
set_option maxRecDepth 20000 in
theorem dX3_addKey_8 : decode cX3_addKey 8 = .ok (.iconst 1, 1) := by decide +kernel
set_option maxRecDepth 20000 in
theorem dX3_addKey_9 : decode cX3_addKey 9 = .ok (.iadd, 1) := by decide +kernel
set_option maxRecDepth 20000 in
theorem dX3_addKey_10 : decode cX3_addKey 10 = .ok (.istore_n 2, 1) := by decide +kernel
set_option maxRecDepth 20000 in
theorem dX3_addKey_11 : decode cX3_addKey 11 = .ok (.aload_n 0, 1) := by decide +kernel
set_option maxRecDepth 20000 in
theorem dX3_addKey_12 : decode cX3_addKey 12 = .ok (.getfield 23, 3) := by decide +kernel
set_option maxRecDepth 20000 in
theorem dX3_addKey_15 : decode cX3_addKey 15 = .ok (.iload_n 1, 1) := by decide +kernel
set_option maxRecDepth 20000 in
theorem dX3_addKey_16 : decode cX3_addKey 16 = .ok (.iload_n 2, 1) := by decide +kernel
set_option maxRecDepth 20000 in
theorem dX3_addKey_17 : decode cX3_addKey 17 = .ok (.i2l, 1) := by decide +kernel
set_option maxRecDepth 20000 in
theorem dX3_addKey_18 : decode cX3_addKey 18 = .ok (.invokevirtual 79, 3) := by decide +kernel
set_option maxRecDepth 20000 in
theorem dX3_addKey_21 : decode cX3_addKey 21 = .ok (.aload_n 0, 1) := by decide +kernel
set_option maxRecDepth 20000 in
theorem dX3_addKey_22 : decode cX3_addKey 22 = .ok (.getfield 26, 3) := by decide +kernel
set_option maxRecDepth 20000 in
theorem dX3_addKey_25 : decode cX3_addKey 25 = .ok (.iload_n 1, 1) := by decide +kernel
set_option maxRecDepth 20000 in
theorem dX3_addKey_26 : decode cX3_addKey 26 = .ok (.lconst 0, 1) := by decide +kernel
set_option maxRecDepth 20000 in
theorem dX3_addKey_27 : decode cX3_addKey 27 = .ok (.invokevirtual 79, 3) := by decide +kernel
set_option maxRecDepth 20000 in
theorem dX3_addKey_30 : decode cX3_addKey 30 = .ok (.iload_n 2, 1) := by decide +kernel
set_option maxRecDepth 20000 in
theorem dX3_addKey_31 : decode cX3_addKey 31 = .ok (.ireturn, 1) := by decide +kernel
set_option maxRecDepth 20000 in
theorem dX3_toAdopt_0 : decode cX3_toAdopt 0 = .ok (.aload_n 0, 1) := by decide +kernel
set_option maxRecDepth 20000 in
theorem dX3_toAdopt_1 : decode cX3_toAdopt 1 = .ok (.getfield 32, 3) := by decide +kernel
set_option maxRecDepth 20000 in
theorem dX3_toAdopt_4 : decode cX3_toAdopt 4 = .ok (.iload_n 1, 1) := by decide +kernel
set_option maxRecDepth 20000 in
theorem dX3_toAdopt_5 : decode cX3_toAdopt 5 = .ok (.invokevirtual 71, 3) := by decide +kernel
set_option maxRecDepth 20000 in
theorem dX3_toAdopt_8 : decode cX3_toAdopt 8 = .ok (.lreturn, 1) := by decide +kernel
set_option maxRecDepth 20000 in
theorem dX3_settleBy_0 : decode cX3_settleBy 0 = .ok (.aload_n 0, 1) := by decide +kernel
set_option maxRecDepth 20000 in
theorem dX3_settleBy_1 : decode cX3_settleBy 1 = .ok (.iload_n 1, 1) := by decide +kernel
set_option maxRecDepth 20000 in
theorem dX3_settleBy_2 : decode cX3_settleBy 2 = .ok (.invokevirtual 100, 3) := by decide +kernel
set_option maxRecDepth 20000 in
theorem dX3_settleBy_5 : decode cX3_settleBy 5 = .ok (.ifCond .eq 24, 3) := by decide +kernel
set_option maxRecDepth 20000 in
theorem dX3_settleBy_8 : decode cX3_settleBy 8 = .ok (.iload 5, 2) := by decide +kernel
set_option maxRecDepth 20000 in
theorem dX3_settleBy_10 : decode cX3_settleBy 10 = .ok (.aload_n 0, 1) := by decide +kernel
set_option maxRecDepth 20000 in
theorem dX3_settleBy_11 : decode cX3_settleBy 11 = .ok (.getfield 23, 3) := by decide +kernel
set_option maxRecDepth 20000 in
theorem dX3_settleBy_14 : decode cX3_settleBy 14 = .ok (.iload_n 1, 1) := by decide +kernel
set_option maxRecDepth 20000 in
theorem dX3_settleBy_15 : decode cX3_settleBy 15 = .ok (.invokevirtual 67, 3) := by decide +kernel
set_option maxRecDepth 20000 in
theorem dX3_settleBy_18 : decode cX3_settleBy 18 = .ok (.if_icmp .ne 11, 3) := by decide +kernel
set_option maxRecDepth 20000 in
theorem dX3_settleBy_21 : decode cX3_settleBy 21 = .ok (.aload_n 0, 1) := by decide +kernel
set_option maxRecDepth 20000 in
theorem dX3_settleBy_22 : decode cX3_settleBy 22 = .ok (.iload_n 1, 1) := by decide +kernel
set_option maxRecDepth 20000 in
theorem dX3_settleBy_23 : decode cX3_settleBy 23 = .ok (.invokevirtual 103, 3) := by decide +kernel
set_option maxRecDepth 20000 in
theorem dX3_settleBy_26 : decode cX3_settleBy 26 = .ok (.ifCond .eq 4, 3) := by decide +kernel
set_option maxRecDepth 20000 in
theorem dX3_settleBy_29 : decode cX3_settleBy 29 = .ok (.return_, 1) := by decide +kernel
set_option maxRecDepth 20000 in
theorem dX3_settleBy_30 : decode cX3_settleBy 30 = .ok (.aload_n 0, 1) := by decide +kernel
set_option maxRecDepth 20000 in
theorem dX3_settleBy_31 : decode cX3_settleBy 31 = .ok (.getfield 26, 3) := by decide +kernel
set_option maxRecDepth 20000 in
theorem dX3_settleBy_34 : decode cX3_settleBy 34 = .ok (.iload_n 1, 1) := by decide +kernel
set_option maxRecDepth 20000 in
theorem dX3_settleBy_35 : decode cX3_settleBy 35 = .ok (.lconst 1, 1) := by decide +kernel
set_option maxRecDepth 20000 in
theorem dX3_settleBy_36 : decode cX3_settleBy 36 = .ok (.invokevirtual 79, 3) := by decide +kernel
set_option maxRecDepth 20000 in
theorem dX3_settleBy_39 : decode cX3_settleBy 39 = .ok (.iload_n 2, 1) := by decide +kernel
set_option maxRecDepth 20000 in
theorem dX3_settleBy_40 : decode cX3_settleBy 40 = .ok (.iconst 1, 1) := by decide +kernel
set_option maxRecDepth 20000 in
theorem dX3_settleBy_41 : decode cX3_settleBy 41 = .ok (.if_icmp .ne 17, 3) := by decide +kernel
set_option maxRecDepth 20000 in
theorem dX3_settleBy_44 : decode cX3_settleBy 44 = .ok (.lload_n 3, 1) := by decide +kernel
set_option maxRecDepth 20000 in
theorem dX3_settleBy_45 : decode cX3_settleBy 45 = .ok (.iconst 1, 1) := by decide +kernel
set_option maxRecDepth 20000 in
theorem dX3_settleBy_46 : decode cX3_settleBy 46 = .ok (.iload_n 1, 1) := by decide +kernel
set_option maxRecDepth 20000 in
theorem dX3_settleBy_47 : decode cX3_settleBy 47 = .ok (.invokestatic 106, 3) := by decide +kernel
set_option maxRecDepth 20000 in
theorem dX3_settleBy_50 : decode cX3_settleBy 50 = .ok (.lcmp, 1) := by decide +kernel
set_option maxRecDepth 20000 in
theorem dX3_settleBy_51 : decode cX3_settleBy 51 = .ok (.ifCond .ne 7, 3) := by decide +kernel
set_option maxRecDepth 20000 in
theorem dX3_settleBy_54 : decode cX3_settleBy 54 = .ok (.iconst 1, 1) := by decide +kernel
set_option maxRecDepth 20000 in
theorem dX3_settleBy_55 : decode cX3_settleBy 55 = .ok (.goto 4, 3) := by decide +kernel
set_option maxRecDepth 20000 in
theorem dX3_settleBy_58 : decode cX3_settleBy 58 = .ok (.iconst 0, 1) := by decide +kernel
set_option maxRecDepth 20000 in
theorem dX3_settleBy_59 : decode cX3_settleBy 59 = .ok (.istore 6, 2) := by decide +kernel
set_option maxRecDepth 20000 in
theorem dX3_settleBy_61 : decode cX3_settleBy 61 = .ok (.iload 6, 2) := by decide +kernel
set_option maxRecDepth 20000 in
theorem dX3_settleBy_63 : decode cX3_settleBy 63 = .ok (.ifCond .eq 7, 3) := by decide +kernel
set_option maxRecDepth 20000 in
theorem dX3_settleBy_66 : decode cX3_settleBy 66 = .ok (.iconst 2, 1) := by decide +kernel
set_option maxRecDepth 20000 in
theorem dX3_settleBy_67 : decode cX3_settleBy 67 = .ok (.goto 4, 3) := by decide +kernel
set_option maxRecDepth 20000 in
theorem dX3_settleBy_70 : decode cX3_settleBy 70 = .ok (.iload_n 2, 1) := by decide +kernel
set_option maxRecDepth 20000 in
theorem dX3_settleBy_71 : decode cX3_settleBy 71 = .ok (.istore 7, 2) := by decide +kernel
set_option maxRecDepth 20000 in
theorem dX3_settleBy_73 : decode cX3_settleBy 73 = .ok (.iload 7, 2) := by decide +kernel
set_option maxRecDepth 20000 in
theorem dX3_settleBy_75 : decode cX3_settleBy 75 = .ok (.iconst 1, 1) := by decide +kernel
set_option maxRecDepth 20000 in
theorem dX3_settleBy_76 : decode cX3_settleBy 76 = .ok (.if_icmp .ne 35, 3) := by decide +kernel
set_option maxRecDepth 20000 in
theorem dX3_settleBy_79 : decode cX3_settleBy 79 = .ok (.lload_n 3, 1) := by decide +kernel
set_option maxRecDepth 20000 in
theorem dX3_settleBy_80 : decode cX3_settleBy 80 = .ok (.invokestatic 83, 3) := by decide +kernel
set_option maxRecDepth 20000 in
theorem dX3_settleBy_83 : decode cX3_settleBy 83 = .ok (.ifCond .eq 28, 3) := by decide +kernel
set_option maxRecDepth 20000 in
theorem dX3_settleBy_86 : decode cX3_settleBy 86 = .ok (.aload_n 0, 1) := by decide +kernel
set_option maxRecDepth 20000 in
theorem dX3_settleBy_87 : decode cX3_settleBy 87 = .ok (.getfield 32, 3) := by decide +kernel
set_option maxRecDepth 20000 in
theorem dX3_settleBy_90 : decode cX3_settleBy 90 = .ok (.iload_n 1, 1) := by decide +kernel
set_option maxRecDepth 20000 in
theorem dX3_settleBy_91 : decode cX3_settleBy 91 = .ok (.lload_n 3, 1) := by decide +kernel
set_option maxRecDepth 20000 in
theorem dX3_settleBy_92 : decode cX3_settleBy 92 = .ok (.invokevirtual 79, 3) := by decide +kernel
set_option maxRecDepth 20000 in
theorem dX3_settleBy_95 : decode cX3_settleBy 95 = .ok (.aload_n 0, 1) := by decide +kernel
set_option maxRecDepth 20000 in
theorem dX3_settleBy_96 : decode cX3_settleBy 96 = .ok (.iload_n 1, 1) := by decide +kernel
set_option maxRecDepth 20000 in
theorem dX3_settleBy_97 : decode cX3_settleBy 97 = .ok (.iconst 0, 1) := by decide +kernel
set_option maxRecDepth 20000 in
theorem dX3_settleBy_98 : decode cX3_settleBy 98 = .ok (.invokestatic 110, 3) := by decide +kernel
set_option maxRecDepth 20000 in
theorem dX3_settleBy_101 : decode cX3_settleBy 101 = .ok (.iload_n 1, 1) := by decide +kernel
set_option maxRecDepth 20000 in
theorem dX3_settleBy_102 : decode cX3_settleBy 102 = .ok (.iconst 0, 1) := by decide +kernel
set_option maxRecDepth 20000 in
theorem dX3_settleBy_103 : decode cX3_settleBy 103 = .ok (.invokestatic 110, 3) := by decide +kernel
set_option maxRecDepth 20000 in
theorem dX3_settleBy_106 : decode cX3_settleBy 106 = .ok (.iconst 1, 1) := by decide +kernel
set_option maxRecDepth 20000 in
theorem dX3_settleBy_107 : decode cX3_settleBy 107 = .ok (.invokevirtual 114, 3) := by decide +kernel
set_option maxRecDepth 20000 in
theorem dX3_settleBy_110 : decode cX3_settleBy 110 = .ok (.return_, 1) := by decide +kernel
set_option maxRecDepth 20000 in
theorem dX3_settleBy_111 : decode cX3_settleBy 111 = .ok (.aload_n 0, 1) := by decide +kernel
set_option maxRecDepth 20000 in
theorem dX3_settleBy_112 : decode cX3_settleBy 112 = .ok (.getfield 14, 3) := by decide +kernel
set_option maxRecDepth 20000 in
theorem dX3_settleBy_115 : decode cX3_settleBy 115 = .ok (.iload_n 1, 1) := by decide +kernel
set_option maxRecDepth 20000 in
theorem dX3_settleBy_116 : decode cX3_settleBy 116 = .ok (.iload 7, 2) := by decide +kernel
set_option maxRecDepth 20000 in
theorem dX3_settleBy_118 : decode cX3_settleBy 118 = .ok (.i2l, 1) := by decide +kernel
set_option maxRecDepth 20000 in
theorem dX3_settleBy_119 : decode cX3_settleBy 119 = .ok (.invokevirtual 79, 3) := by decide +kernel
set_option maxRecDepth 20000 in
theorem dX3_settleBy_122 : decode cX3_settleBy 122 = .ok (.aload_n 0, 1) := by decide +kernel
set_option maxRecDepth 20000 in
theorem dX3_settleBy_123 : decode cX3_settleBy 123 = .ok (.getfield 20, 3) := by decide +kernel
set_option maxRecDepth 20000 in
theorem dX3_settleBy_126 : decode cX3_settleBy 126 = .ok (.iload_n 1, 1) := by decide +kernel
set_option maxRecDepth 20000 in
theorem dX3_settleBy_127 : decode cX3_settleBy 127 = .ok (.iload 6, 2) := by decide +kernel
set_option maxRecDepth 20000 in
theorem dX3_settleBy_129 : decode cX3_settleBy 129 = .ok (.ifCond .eq 11, 3) := by decide +kernel
set_option maxRecDepth 20000 in
theorem dX3_settleBy_132 : decode cX3_settleBy 132 = .ok (.iconst 0, 1) := by decide +kernel
set_option maxRecDepth 20000 in
theorem dX3_settleBy_133 : decode cX3_settleBy 133 = .ok (.iconst (-1), 1) := by decide +kernel
set_option maxRecDepth 20000 in
theorem dX3_settleBy_134 : decode cX3_settleBy 134 = .ok (.invokestatic 106, 3) := by decide +kernel
set_option maxRecDepth 20000 in
theorem dX3_settleBy_137 : decode cX3_settleBy 137 = .ok (.goto 4, 3) := by decide +kernel
set_option maxRecDepth 20000 in
theorem dX3_settleBy_140 : decode cX3_settleBy 140 = .ok (.lload_n 3, 1) := by decide +kernel
set_option maxRecDepth 20000 in
theorem dX3_settleBy_141 : decode cX3_settleBy 141 = .ok (.invokevirtual 79, 3) := by decide +kernel
set_option maxRecDepth 20000 in
theorem dX3_settleBy_144 : decode cX3_settleBy 144 = .ok (.aload_n 0, 1) := by decide +kernel
set_option maxRecDepth 20000 in
theorem dX3_settleBy_145 : decode cX3_settleBy 145 = .ok (.aload_n 0, 1) := by decide +kernel
set_option maxRecDepth 20000 in
theorem dX3_settleBy_146 : decode cX3_settleBy 146 = .ok (.getfield 38, 3) := by decide +kernel
set_option maxRecDepth 20000 in
theorem dX3_settleBy_149 : decode cX3_settleBy 149 = .ok (.iload_n 1, 1) := by decide +kernel
set_option maxRecDepth 20000 in
theorem dX3_settleBy_150 : decode cX3_settleBy 150 = .ok (.invokevirtual 67, 3) := by decide +kernel
set_option maxRecDepth 20000 in
theorem dX3_settleBy_153 : decode cX3_settleBy 153 = .ok (.aload_n 0, 1) := by decide +kernel
set_option maxRecDepth 20000 in
theorem dX3_settleBy_154 : decode cX3_settleBy 154 = .ok (.getfield 41, 3) := by decide +kernel
set_option maxRecDepth 20000 in
theorem dX3_settleBy_157 : decode cX3_settleBy 157 = .ok (.iload_n 1, 1) := by decide +kernel
set_option maxRecDepth 20000 in
theorem dX3_settleBy_158 : decode cX3_settleBy 158 = .ok (.invokevirtual 67, 3) := by decide +kernel
set_option maxRecDepth 20000 in
theorem dX3_settleBy_161 : decode cX3_settleBy 161 = .ok (.aload_n 0, 1) := by decide +kernel
set_option maxRecDepth 20000 in
theorem dX3_settleBy_162 : decode cX3_settleBy 162 = .ok (.getfield 35, 3) := by decide +kernel
set_option maxRecDepth 20000 in
theorem dX3_settleBy_165 : decode cX3_settleBy 165 = .ok (.iload_n 1, 1) := by decide +kernel
set_option maxRecDepth 20000 in
theorem dX3_settleBy_166 : decode cX3_settleBy 166 = .ok (.invokevirtual 67, 3) := by decide +kernel
set_option maxRecDepth 20000 in
theorem dX3_settleBy_169 : decode cX3_settleBy 169 = .ok (.invokevirtual 114, 3) := by decide +kernel
set_option maxRecDepth 20000 in
theorem dX3_settleBy_172 : decode cX3_settleBy 172 = .ok (.aload_n 0, 1) := by decide +kernel
set_option maxRecDepth 20000 in
theorem dX3_settleBy_173 : decode cX3_settleBy 173 = .ok (.getfield 35, 3) := by decide +kernel
set_option maxRecDepth 20000 in
theorem dX3_settleBy_176 : decode cX3_settleBy 176 = .ok (.iload_n 1, 1) := by decide +kernel
set_option maxRecDepth 20000 in
theorem dX3_settleBy_177 : decode cX3_settleBy 177 = .ok (.lconst 0, 1) := by decide +kernel
set_option maxRecDepth 20000 in
theorem dX3_settleBy_178 : decode cX3_settleBy 178 = .ok (.invokevirtual 79, 3) := by decide +kernel
set_option maxRecDepth 20000 in
theorem dX3_settleBy_181 : decode cX3_settleBy 181 = .ok (.return_, 1) := by decide +kernel
set_option maxRecDepth 20000 in
theorem dX3_waitFor_0 : decode cX3_waitFor 0 = .ok (.aload_n 0, 1) := by decide +kernel
set_option maxRecDepth 20000 in
theorem dX3_waitFor_1 : decode cX3_waitFor 1 = .ok (.getfield 29, 3) := by decide +kernel
set_option maxRecDepth 20000 in
theorem dX3_waitFor_4 : decode cX3_waitFor 4 = .ok (.iload_n 1, 1) := by decide +kernel
set_option maxRecDepth 20000 in
theorem dX3_waitFor_5 : decode cX3_waitFor 5 = .ok (.lconst 1, 1) := by decide +kernel
set_option maxRecDepth 20000 in
theorem dX3_waitFor_6 : decode cX3_waitFor 6 = .ok (.invokevirtual 79, 3) := by decide +kernel
set_option maxRecDepth 20000 in
theorem dX3_waitFor_9 : decode cX3_waitFor 9 = .ok (.aload_n 0, 1) := by decide +kernel
set_option maxRecDepth 20000 in
theorem dX3_waitFor_10 : decode cX3_waitFor 10 = .ok (.getfield 47, 3) := by decide +kernel
set_option maxRecDepth 20000 in
theorem dX3_waitFor_13 : decode cX3_waitFor 13 = .ok (.iload_n 2, 1) := by decide +kernel
set_option maxRecDepth 20000 in
theorem dX3_waitFor_14 : decode cX3_waitFor 14 = .ok (.iload_n 1, 1) := by decide +kernel
set_option maxRecDepth 20000 in
theorem dX3_waitFor_15 : decode cX3_waitFor 15 = .ok (.i2l, 1) := by decide +kernel
set_option maxRecDepth 20000 in
theorem dX3_waitFor_16 : decode cX3_waitFor 16 = .ok (.invokevirtual 79, 3) := by decide +kernel
set_option maxRecDepth 20000 in
theorem dX3_waitFor_19 : decode cX3_waitFor 19 = .ok (.aload_n 0, 1) := by decide +kernel
set_option maxRecDepth 20000 in
theorem dX3_waitFor_20 : decode cX3_waitFor 20 = .ok (.getfield 14, 3) := by decide +kernel
set_option maxRecDepth 20000 in
theorem dX3_waitFor_23 : decode cX3_waitFor 23 = .ok (.iload_n 1, 1) := by decide +kernel
set_option maxRecDepth 20000 in
theorem dX3_waitFor_24 : decode cX3_waitFor 24 = .ok (.invokevirtual 67, 3) := by decide +kernel
set_option maxRecDepth 20000 in
theorem dX3_waitFor_27 : decode cX3_waitFor 27 = .ok (.ifCond .eq 11, 3) := by decide +kernel
set_option maxRecDepth 20000 in
theorem dX3_waitFor_30 : decode cX3_waitFor 30 = .ok (.aload_n 0, 1) := by decide +kernel
set_option maxRecDepth 20000 in
theorem dX3_waitFor_31 : decode cX3_waitFor 31 = .ok (.iload_n 2, 1) := by decide +kernel
set_option maxRecDepth 20000 in
theorem dX3_waitFor_32 : decode cX3_waitFor 32 = .ok (.iload_n 2, 1) := by decide +kernel
set_option maxRecDepth 20000 in
theorem dX3_waitFor_33 : decode cX3_waitFor 33 = .ok (.iconst 1, 1) := by decide +kernel
set_option maxRecDepth 20000 in
theorem dX3_waitFor_34 : decode cX3_waitFor 34 = .ok (.invokevirtual 114, 3) := by decide +kernel
set_option maxRecDepth 20000 in
theorem dX3_waitFor_37 : decode cX3_waitFor 37 = .ok (.return_, 1) := by decide +kernel
set_option maxRecDepth 20000 in
theorem dX3_waitFor_38 : decode cX3_waitFor 38 = .ok (.aload_n 0, 1) := by decide +kernel
set_option maxRecDepth 20000 in
theorem dX3_waitFor_39 : decode cX3_waitFor 39 = .ok (.getfield 35, 3) := by decide +kernel
set_option maxRecDepth 20000 in
theorem dX3_waitFor_42 : decode cX3_waitFor 42 = .ok (.iload_n 1, 1) := by decide +kernel
set_option maxRecDepth 20000 in
theorem dX3_waitFor_43 : decode cX3_waitFor 43 = .ok (.invokevirtual 67, 3) := by decide +kernel
set_option maxRecDepth 20000 in
theorem dX3_waitFor_46 : decode cX3_waitFor 46 = .ok (.istore_n 3, 1) := by decide +kernel
set_option maxRecDepth 20000 in
theorem dX3_waitFor_47 : decode cX3_waitFor 47 = .ok (.iload_n 3, 1) := by decide +kernel
set_option maxRecDepth 20000 in
theorem dX3_waitFor_48 : decode cX3_waitFor 48 = .ok (.ifCond .ne 16, 3) := by decide +kernel
set_option maxRecDepth 20000 in
theorem dX3_waitFor_51 : decode cX3_waitFor 51 = .ok (.aload_n 0, 1) := by decide +kernel
set_option maxRecDepth 20000 in
theorem dX3_waitFor_52 : decode cX3_waitFor 52 = .ok (.getfield 38, 3) := by decide +kernel
set_option maxRecDepth 20000 in
theorem dX3_waitFor_55 : decode cX3_waitFor 55 = .ok (.iload_n 1, 1) := by decide +kernel
set_option maxRecDepth 20000 in
theorem dX3_waitFor_56 : decode cX3_waitFor 56 = .ok (.iload_n 2, 1) := by decide +kernel
set_option maxRecDepth 20000 in
theorem dX3_waitFor_57 : decode cX3_waitFor 57 = .ok (.i2l, 1) := by decide +kernel
set_option maxRecDepth 20000 in
theorem dX3_waitFor_58 : decode cX3_waitFor 58 = .ok (.invokevirtual 79, 3) := by decide +kernel
set_option maxRecDepth 20000 in
theorem dX3_waitFor_61 : decode cX3_waitFor 61 = .ok (.goto 20, 3) := by decide +kernel
set_option maxRecDepth 20000 in
theorem dX3_waitFor_64 : decode cX3_waitFor 64 = .ok (.aload_n 0, 1) := by decide +kernel
set_option maxRecDepth 20000 in
theorem dX3_waitFor_65 : decode cX3_waitFor 65 = .ok (.getfield 44, 3) := by decide +kernel
set_option maxRecDepth 20000 in
theorem dX3_waitFor_68 : decode cX3_waitFor 68 = .ok (.aload_n 0, 1) := by decide +kernel
set_option maxRecDepth 20000 in
theorem dX3_waitFor_69 : decode cX3_waitFor 69 = .ok (.getfield 41, 3) := by decide +kernel
set_option maxRecDepth 20000 in
theorem dX3_waitFor_72 : decode cX3_waitFor 72 = .ok (.iload_n 1, 1) := by decide +kernel
set_option maxRecDepth 20000 in
theorem dX3_waitFor_73 : decode cX3_waitFor 73 = .ok (.invokevirtual 67, 3) := by decide +kernel
set_option maxRecDepth 20000 in
theorem dX3_waitFor_76 : decode cX3_waitFor 76 = .ok (.iload_n 2, 1) := by decide +kernel
set_option maxRecDepth 20000 in
theorem dX3_waitFor_77 : decode cX3_waitFor 77 = .ok (.i2l, 1) := by decide +kernel
set_option maxRecDepth 20000 in
theorem dX3_waitFor_78 : decode cX3_waitFor 78 = .ok (.invokevirtual 79, 3) := by decide +kernel
set_option maxRecDepth 20000 in
theorem dX3_waitFor_81 : decode cX3_waitFor 81 = .ok (.aload_n 0, 1) := by decide +kernel
set_option maxRecDepth 20000 in
theorem dX3_waitFor_82 : decode cX3_waitFor 82 = .ok (.getfield 41, 3) := by decide +kernel
set_option maxRecDepth 20000 in
theorem dX3_waitFor_85 : decode cX3_waitFor 85 = .ok (.iload_n 1, 1) := by decide +kernel
set_option maxRecDepth 20000 in
theorem dX3_waitFor_86 : decode cX3_waitFor 86 = .ok (.iload_n 2, 1) := by decide +kernel
set_option maxRecDepth 20000 in
theorem dX3_waitFor_87 : decode cX3_waitFor 87 = .ok (.i2l, 1) := by decide +kernel
set_option maxRecDepth 20000 in
theorem dX3_waitFor_88 : decode cX3_waitFor 88 = .ok (.invokevirtual 79, 3) := by decide +kernel
set_option maxRecDepth 20000 in
theorem dX3_waitFor_91 : decode cX3_waitFor 91 = .ok (.aload_n 0, 1) := by decide +kernel
set_option maxRecDepth 20000 in
theorem dX3_waitFor_92 : decode cX3_waitFor 92 = .ok (.getfield 35, 3) := by decide +kernel
set_option maxRecDepth 20000 in
theorem dX3_waitFor_95 : decode cX3_waitFor 95 = .ok (.iload_n 1, 1) := by decide +kernel
set_option maxRecDepth 20000 in
theorem dX3_waitFor_96 : decode cX3_waitFor 96 = .ok (.iload_n 3, 1) := by decide +kernel
set_option maxRecDepth 20000 in
theorem dX3_waitFor_97 : decode cX3_waitFor 97 = .ok (.iconst 1, 1) := by decide +kernel
set_option maxRecDepth 20000 in
theorem dX3_waitFor_98 : decode cX3_waitFor 98 = .ok (.iadd, 1) := by decide +kernel
set_option maxRecDepth 20000 in
theorem dX3_waitFor_99 : decode cX3_waitFor 99 = .ok (.i2l, 1) := by decide +kernel
set_option maxRecDepth 20000 in
theorem dX3_waitFor_100 : decode cX3_waitFor 100 = .ok (.invokevirtual 79, 3) := by decide +kernel
set_option maxRecDepth 20000 in
theorem dX3_waitFor_103 : decode cX3_waitFor 103 = .ok (.return_, 1) := by decide +kernel
set_option maxRecDepth 20000 in
theorem dX3_lineUp_0 : decode cX3_lineUp 0 = .ok (.iload_n 3, 1) := by decide +kernel
set_option maxRecDepth 20000 in
theorem dX3_lineUp_1 : decode cX3_lineUp 1 = .ok (.ifCond .ne 4, 3) := by decide +kernel
set_option maxRecDepth 20000 in
theorem dX3_lineUp_4 : decode cX3_lineUp 4 = .ok (.return_, 1) := by decide +kernel
set_option maxRecDepth 20000 in
theorem dX3_lineUp_5 : decode cX3_lineUp 5 = .ok (.aload_n 0, 1) := by decide +kernel
set_option maxRecDepth 20000 in
theorem dX3_lineUp_6 : decode cX3_lineUp 6 = .ok (.getfield 54, 3) := by decide +kernel
set_option maxRecDepth 20000 in
theorem dX3_lineUp_9 : decode cX3_lineUp 9 = .ok (.ifCond .ne 11, 3) := by decide +kernel
set_option maxRecDepth 20000 in
theorem dX3_lineUp_12 : decode cX3_lineUp 12 = .ok (.aload_n 0, 1) := by decide +kernel
set_option maxRecDepth 20000 in
theorem dX3_lineUp_13 : decode cX3_lineUp 13 = .ok (.iload_n 1, 1) := by decide +kernel
set_option maxRecDepth 20000 in
theorem dX3_lineUp_14 : decode cX3_lineUp 14 = .ok (.putfield 57, 3) := by decide +kernel
set_option maxRecDepth 20000 in
theorem dX3_lineUp_17 : decode cX3_lineUp 17 = .ok (.goto 16, 3) := by decide +kernel
set_option maxRecDepth 20000 in
theorem dX3_lineUp_20 : decode cX3_lineUp 20 = .ok (.aload_n 0, 1) := by decide +kernel
set_option maxRecDepth 20000 in
theorem dX3_lineUp_21 : decode cX3_lineUp 21 = .ok (.getfield 44, 3) := by decide +kernel
set_option maxRecDepth 20000 in
theorem dX3_lineUp_24 : decode cX3_lineUp 24 = .ok (.aload_n 0, 1) := by decide +kernel
set_option maxRecDepth 20000 in
theorem dX3_lineUp_25 : decode cX3_lineUp 25 = .ok (.getfield 60, 3) := by decide +kernel
set_option maxRecDepth 20000 in
theorem dX3_lineUp_28 : decode cX3_lineUp 28 = .ok (.iload_n 1, 1) := by decide +kernel
set_option maxRecDepth 20000 in
theorem dX3_lineUp_29 : decode cX3_lineUp 29 = .ok (.i2l, 1) := by decide +kernel
set_option maxRecDepth 20000 in
theorem dX3_lineUp_30 : decode cX3_lineUp 30 = .ok (.invokevirtual 79, 3) := by decide +kernel
set_option maxRecDepth 20000 in
theorem dX3_lineUp_33 : decode cX3_lineUp 33 = .ok (.aload_n 0, 1) := by decide +kernel
set_option maxRecDepth 20000 in
theorem dX3_lineUp_34 : decode cX3_lineUp 34 = .ok (.iload_n 2, 1) := by decide +kernel
set_option maxRecDepth 20000 in
theorem dX3_lineUp_35 : decode cX3_lineUp 35 = .ok (.putfield 60, 3) := by decide +kernel
set_option maxRecDepth 20000 in
theorem dX3_lineUp_38 : decode cX3_lineUp 38 = .ok (.aload_n 0, 1) := by decide +kernel
set_option maxRecDepth 20000 in
theorem dX3_lineUp_39 : decode cX3_lineUp 39 = .ok (.dup, 1) := by decide +kernel
set_option maxRecDepth 20000 in
theorem dX3_lineUp_40 : decode cX3_lineUp 40 = .ok (.getfield 54, 3) := by decide +kernel
set_option maxRecDepth 20000 in
theorem dX3_lineUp_43 : decode cX3_lineUp 43 = .ok (.iload_n 3, 1) := by decide +kernel
set_option maxRecDepth 20000 in
theorem dX3_lineUp_44 : decode cX3_lineUp 44 = .ok (.iadd, 1) := by decide +kernel
set_option maxRecDepth 20000 in
theorem dX3_lineUp_45 : decode cX3_lineUp 45 = .ok (.putfield 54, 3) := by decide +kernel
set_option maxRecDepth 20000 in
theorem dX3_lineUp_48 : decode cX3_lineUp 48 = .ok (.return_, 1) := by decide +kernel
set_option maxRecDepth 20000 in
theorem dX3_jobs_0 : decode cX3_jobs 0 = .ok (.aload_n 0, 1) := by decide +kernel
set_option maxRecDepth 20000 in
theorem dX3_jobs_1 : decode cX3_jobs 1 = .ok (.getfield 54, 3) := by decide +kernel
set_option maxRecDepth 20000 in
theorem dX3_jobs_4 : decode cX3_jobs 4 = .ok (.ireturn, 1) := by decide +kernel
set_option maxRecDepth 20000 in
theorem dX3_takeJob_0 : decode cX3_takeJob 0 = .ok (.aload_n 0, 1) := by decide +kernel
set_option maxRecDepth 20000 in
theorem dX3_takeJob_1 : decode cX3_takeJob 1 = .ok (.getfield 57, 3) := by decide +kernel
set_option maxRecDepth 20000 in
theorem dX3_takeJob_4 : decode cX3_takeJob 4 = .ok (.istore_n 1, 1) := by decide +kernel
set_option maxRecDepth 20000 in
theorem dX3_takeJob_5 : decode cX3_takeJob 5 = .ok (.aload_n 0, 1) := by decide +kernel
set_option maxRecDepth 20000 in
theorem dX3_takeJob_6 : decode cX3_takeJob 6 = .ok (.aload_n 0, 1) := by decide +kernel
set_option maxRecDepth 20000 in
theorem dX3_takeJob_7 : decode cX3_takeJob 7 = .ok (.getfield 44, 3) := by decide +kernel
set_option maxRecDepth 20000 in
theorem dX3_takeJob_10 : decode cX3_takeJob 10 = .ok (.iload_n 1, 1) := by decide +kernel
set_option maxRecDepth 20000 in
theorem dX3_takeJob_11 : decode cX3_takeJob 11 = .ok (.invokevirtual 67, 3) := by decide +kernel
set_option maxRecDepth 20000 in
theorem dX3_takeJob_14 : decode cX3_takeJob 14 = .ok (.putfield 57, 3) := by decide +kernel
set_option maxRecDepth 20000 in
theorem dX3_takeJob_17 : decode cX3_takeJob 17 = .ok (.aload_n 0, 1) := by decide +kernel
set_option maxRecDepth 20000 in
theorem dX3_takeJob_18 : decode cX3_takeJob 18 = .ok (.dup, 1) := by decide +kernel
set_option maxRecDepth 20000 in
theorem dX3_takeJob_19 : decode cX3_takeJob 19 = .ok (.getfield 54, 3) := by decide +kernel
set_option maxRecDepth 20000 in
theorem dX3_takeJob_22 : decode cX3_takeJob 22 = .ok (.iconst 1, 1) := by decide +kernel
set_option maxRecDepth 20000 in
theorem dX3_takeJob_23 : decode cX3_takeJob 23 = .ok (.isub, 1) := by decide +kernel
set_option maxRecDepth 20000 in
theorem dX3_takeJob_24 : decode cX3_takeJob 24 = .ok (.putfield 54, 3) := by decide +kernel
set_option maxRecDepth 20000 in
theorem dX3_takeJob_27 : decode cX3_takeJob 27 = .ok (.iload_n 1, 1) := by decide +kernel
set_option maxRecDepth 20000 in
theorem dX3_takeJob_28 : decode cX3_takeJob 28 = .ok (.ireturn, 1) := by decide +kernel
set_option maxRecDepth 20000 in
theorem dX3_sourceOf_0 : decode cX3_sourceOf 0 = .ok (.aload_n 0, 1) := by decide +kernel
set_option maxRecDepth 20000 in
theorem dX3_sourceOf_1 : decode cX3_sourceOf 1 = .ok (.getfield 47, 3) := by decide +kernel
set_option maxRecDepth 20000 in
theorem dX3_sourceOf_4 : decode cX3_sourceOf 4 = .ok (.iload_n 1, 1) := by decide +kernel
set_option maxRecDepth 20000 in
theorem dX3_sourceOf_5 : decode cX3_sourceOf 5 = .ok (.invokevirtual 67, 3) := by decide +kernel
set_option maxRecDepth 20000 in
theorem dX3_sourceOf_8 : decode cX3_sourceOf 8 = .ok (.ireturn, 1) := by decide +kernel
set_option maxRecDepth 20000 in
theorem dX4_init_0 : decode cX4_init 0 = .ok (.aload_n 0, 1) := by decide +kernel
set_option maxRecDepth 20000 in
theorem dX4_init_1 : decode cX4_init 1 = .ok (.invokespecial 1, 3) := by decide +kernel
set_option maxRecDepth 20000 in
theorem dX4_init_4 : decode cX4_init 4 = .ok (.aload_n 0, 1) := by decide +kernel
set_option maxRecDepth 20000 in
theorem dX4_init_5 : decode cX4_init 5 = .ok (.iload_n 1, 1) := by decide +kernel
set_option maxRecDepth 20000 in
theorem dX4_init_6 : decode cX4_init 6 = .ok (.ifCond .ge 7, 3) := by decide +kernel
set_option maxRecDepth 20000 in
theorem dX4_init_9 : decode cX4_init 9 = .ok (.iconst 0, 1) := by decide +kernel
set_option maxRecDepth 20000 in
theorem dX4_init_10 : decode cX4_init 10 = .ok (.goto 4, 3) := by decide +kernel
set_option maxRecDepth 20000 in
theorem dX4_init_13 : decode cX4_init 13 = .ok (.iload_n 1, 1) := by decide +kernel
set_option maxRecDepth 20000 in
theorem dX4_init_14 : decode cX4_init 14 = .ok (.newarray .long, 2) := by decide +kernel
set_option maxRecDepth 20000 in
theorem dX4_init_16 : decode cX4_init 16 = .ok (.putfield 7, 3) := by decide +kernel
set_option maxRecDepth 20000 in
theorem dX4_init_19 : decode cX4_init 19 = .ok (.return_, 1) := by decide +kernel
set_option maxRecDepth 20000 in
theorem dX4_at_0 : decode cX4_at 0 = .ok (.iload_n 1, 1) := by decide +kernel
set_option maxRecDepth 20000 in
theorem dX4_at_1 : decode cX4_at 1 = .ok (.ifCond .lt 22, 3) := by decide +kernel
set_option maxRecDepth 20000 in
theorem dX4_at_4 : decode cX4_at 4 = .ok (.iload_n 1, 1) := by decide +kernel
set_option maxRecDepth 20000 in
theorem dX4_at_5 : decode cX4_at 5 = .ok (.aload_n 0, 1) := by decide +kernel
set_option maxRecDepth 20000 in
theorem dX4_at_6 : decode cX4_at 6 = .ok (.getfield 7, 3) := by decide +kernel
set_option maxRecDepth 20000 in
theorem dX4_at_9 : decode cX4_at 9 = .ok (.arraylength, 1) := by decide +kernel
set_option maxRecDepth 20000 in
theorem dX4_at_10 : decode cX4_at 10 = .ok (.if_icmp .ge 13, 3) := by decide +kernel
set_option maxRecDepth 20000 in
theorem dX4_at_13 : decode cX4_at 13 = .ok (.aload_n 0, 1) := by decide +kernel
set_option maxRecDepth 20000 in
theorem dX4_at_14 : decode cX4_at 14 = .ok (.getfield 7, 3) := by decide +kernel
set_option maxRecDepth 20000 in
theorem dX4_at_17 : decode cX4_at 17 = .ok (.iload_n 1, 1) := by decide +kernel
set_option maxRecDepth 20000 in
theorem dX4_at_18 : decode cX4_at 18 = .ok (.laload, 1) := by decide +kernel
set_option maxRecDepth 20000 in
theorem dX4_at_19 : decode cX4_at 19 = .ok (.l2i, 1) := by decide +kernel
set_option maxRecDepth 20000 in
theorem dX4_at_20 : decode cX4_at 20 = .ok (.goto 4, 3) := by decide +kernel
set_option maxRecDepth 20000 in
theorem dX4_at_23 : decode cX4_at 23 = .ok (.iconst 0, 1) := by decide +kernel
set_option maxRecDepth 20000 in
theorem dX4_at_24 : decode cX4_at 24 = .ok (.ireturn, 1) := by decide +kernel
set_option maxRecDepth 20000 in
theorem dX4_valueAt_0 : decode cX4_valueAt 0 = .ok (.iload_n 1, 1) := by decide +kernel
set_option maxRecDepth 20000 in
theorem dX4_valueAt_1 : decode cX4_valueAt 1 = .ok (.ifCond .lt 21, 3) := by decide +kernel
set_option maxRecDepth 20000 in
theorem dX4_valueAt_4 : decode cX4_valueAt 4 = .ok (.iload_n 1, 1) := by decide +kernel
set_option maxRecDepth 20000 in
theorem dX4_valueAt_5 : decode cX4_valueAt 5 = .ok (.aload_n 0, 1) := by decide +kernel
set_option maxRecDepth 20000 in
theorem dX4_valueAt_6 : decode cX4_valueAt 6 = .ok (.getfield 7, 3) := by decide +kernel
set_option maxRecDepth 20000 in
theorem dX4_valueAt_9 : decode cX4_valueAt 9 = .ok (.arraylength, 1) := by decide +kernel
set_option maxRecDepth 20000 in
theorem dX4_valueAt_10 : decode cX4_valueAt 10 = .ok (.if_icmp .ge 12, 3) := by decide +kernel
set_option maxRecDepth 20000 in
theorem dX4_valueAt_13 : decode cX4_valueAt 13 = .ok (.aload_n 0, 1) := by decide +kernel
set_option maxRecDepth 20000 in
theorem dX4_valueAt_14 : decode cX4_valueAt 14 = .ok (.getfield 7, 3) := by decide +kernel
set_option maxRecDepth 20000 in
theorem dX4_valueAt_17 : decode cX4_valueAt 17 = .ok (.iload_n 1, 1) := by decide +kernel
set_option maxRecDepth 20000 in
theorem dX4_valueAt_18 : decode cX4_valueAt 18 = .ok (.laload, 1) := by decide +kernel
set_option maxRecDepth 20000 in
theorem dX4_valueAt_19 : decode cX4_valueAt 19 = .ok (.goto 4, 3) := by decide +kernel
set_option maxRecDepth 20000 in
theorem dX4_valueAt_22 : decode cX4_valueAt 22 = .ok (.lconst 0, 1) := by decide +kernel
set_option maxRecDepth 20000 in
theorem dX4_valueAt_23 : decode cX4_valueAt 23 = .ok (.lreturn, 1) := by decide +kernel
set_option maxRecDepth 20000 in
theorem dX4_put_0 : decode cX4_put 0 = .ok (.iload_n 1, 1) := by decide +kernel
set_option maxRecDepth 20000 in
theorem dX4_put_1 : decode cX4_put 1 = .ok (.ifCond .lt 19, 3) := by decide +kernel
set_option maxRecDepth 20000 in
theorem dX4_put_4 : decode cX4_put 4 = .ok (.iload_n 1, 1) := by decide +kernel
set_option maxRecDepth 20000 in
theorem dX4_put_5 : decode cX4_put 5 = .ok (.aload_n 0, 1) := by decide +kernel
set_option maxRecDepth 20000 in
theorem dX4_put_6 : decode cX4_put 6 = .ok (.getfield 7, 3) := by decide +kernel
set_option maxRecDepth 20000 in
theorem dX4_put_9 : decode cX4_put 9 = .ok (.arraylength, 1) := by decide +kernel
set_option maxRecDepth 20000 in
theorem dX4_put_10 : decode cX4_put 10 = .ok (.if_icmp .ge 10, 3) := by decide +kernel
set_option maxRecDepth 20000 in
theorem dX4_put_13 : decode cX4_put 13 = .ok (.aload_n 0, 1) := by decide +kernel
set_option maxRecDepth 20000 in
theorem dX4_put_14 : decode cX4_put 14 = .ok (.getfield 7, 3) := by decide +kernel
set_option maxRecDepth 20000 in
theorem dX4_put_17 : decode cX4_put 17 = .ok (.iload_n 1, 1) := by decide +kernel
set_option maxRecDepth 20000 in
theorem dX4_put_18 : decode cX4_put 18 = .ok (.lload_n 2, 1) := by decide +kernel
set_option maxRecDepth 20000 in
theorem dX4_put_19 : decode cX4_put 19 = .ok (.lastore, 1) := by decide +kernel
set_option maxRecDepth 20000 in
theorem dX4_put_20 : decode cX4_put 20 = .ok (.return_, 1) := by decide +kernel
set_option maxRecDepth 20000 in
theorem dX4_fill_0 : decode cX4_fill 0 = .ok (.iconst 0, 1) := by decide +kernel
set_option maxRecDepth 20000 in
theorem dX4_fill_1 : decode cX4_fill 1 = .ok (.istore_n 3, 1) := by decide +kernel
set_option maxRecDepth 20000 in
theorem dX4_fill_2 : decode cX4_fill 2 = .ok (.iload_n 3, 1) := by decide +kernel
set_option maxRecDepth 20000 in
theorem dX4_fill_3 : decode cX4_fill 3 = .ok (.aload_n 0, 1) := by decide +kernel
set_option maxRecDepth 20000 in
theorem dX4_fill_4 : decode cX4_fill 4 = .ok (.getfield 7, 3) := by decide +kernel
set_option maxRecDepth 20000 in
theorem dX4_fill_7 : decode cX4_fill 7 = .ok (.arraylength, 1) := by decide +kernel
set_option maxRecDepth 20000 in
theorem dX4_fill_8 : decode cX4_fill 8 = .ok (.if_icmp .ge 16, 3) := by decide +kernel
set_option maxRecDepth 20000 in
theorem dX4_fill_11 : decode cX4_fill 11 = .ok (.aload_n 0, 1) := by decide +kernel
set_option maxRecDepth 20000 in
theorem dX4_fill_12 : decode cX4_fill 12 = .ok (.getfield 7, 3) := by decide +kernel
set_option maxRecDepth 20000 in
theorem dX4_fill_15 : decode cX4_fill 15 = .ok (.iload_n 3, 1) := by decide +kernel
set_option maxRecDepth 20000 in
theorem dX4_fill_16 : decode cX4_fill 16 = .ok (.lload_n 1, 1) := by decide +kernel
set_option maxRecDepth 20000 in
theorem dX4_fill_17 : decode cX4_fill 17 = .ok (.lastore, 1) := by decide +kernel
set_option maxRecDepth 20000 in
theorem dX4_fill_18 : decode cX4_fill 18 = .ok (.iinc 3 1, 3) := by decide +kernel
set_option maxRecDepth 20000 in
theorem dX4_fill_21 : decode cX4_fill 21 = .ok (.goto (-19), 3) := by decide +kernel
set_option maxRecDepth 20000 in
theorem dX4_fill_24 : decode cX4_fill 24 = .ok (.return_, 1) := by decide +kernel
set_option maxRecDepth 20000 in
theorem dX5_init_0 : decode cX5_init 0 = .ok (.aload_n 0, 1) := by decide +kernel
set_option maxRecDepth 20000 in
theorem dX5_init_1 : decode cX5_init 1 = .ok (.invokespecial 3, 3) := by decide +kernel
set_option maxRecDepth 20000 in
theorem dX5_init_4 : decode cX5_init 4 = .ok (.aload_n 0, 1) := by decide +kernel
set_option maxRecDepth 20000 in
theorem dX5_init_5 : decode cX5_init 5 = .ok (.new 9, 3) := by decide +kernel
set_option maxRecDepth 20000 in
theorem dX5_init_8 : decode cX5_init 8 = .ok (.dup, 1) := by decide +kernel
set_option maxRecDepth 20000 in
theorem dX5_init_9 : decode cX5_init 9 = .ok (.bipush 101, 2) := by decide +kernel
set_option maxRecDepth 20000 in
theorem dX5_init_11 : decode cX5_init 11 = .ok (.invokespecial 11, 3) := by decide +kernel
set_option maxRecDepth 20000 in
theorem dX5_init_14 : decode cX5_init 14 = .ok (.putfield 14, 3) := by decide +kernel
set_option maxRecDepth 20000 in
theorem dX5_init_17 : decode cX5_init 17 = .ok (.aload_n 0, 1) := by decide +kernel
set_option maxRecDepth 20000 in
theorem dX5_init_18 : decode cX5_init 18 = .ok (.new 9, 3) := by decide +kernel
set_option maxRecDepth 20000 in
theorem dX5_init_21 : decode cX5_init 21 = .ok (.dup, 1) := by decide +kernel
set_option maxRecDepth 20000 in
theorem dX5_init_22 : decode cX5_init 22 = .ok (.bipush 101, 2) := by decide +kernel
set_option maxRecDepth 20000 in
theorem dX5_init_24 : decode cX5_init 24 = .ok (.invokespecial 11, 3) := by decide +kernel
set_option maxRecDepth 20000 in
theorem dX5_init_27 : decode cX5_init 27 = .ok (.putfield 20, 3) := by decide +kernel
set_option maxRecDepth 20000 in
theorem dX5_init_30 : decode cX5_init 30 = .ok (.aload_n 0, 1) := by decide +kernel
set_option maxRecDepth 20000 in
theorem dX5_init_31 : decode cX5_init 31 = .ok (.new 9, 3) := by decide +kernel
set_option maxRecDepth 20000 in
theorem dX5_init_34 : decode cX5_init 34 = .ok (.dup, 1) := by decide +kernel
set_option maxRecDepth 20000 in
theorem dX5_init_35 : decode cX5_init 35 = .ok (.bipush 101, 2) := by decide +kernel
set_option maxRecDepth 20000 in
theorem dX5_init_37 : decode cX5_init 37 = .ok (.invokespecial 11, 3) := by decide +kernel
set_option maxRecDepth 20000 in
theorem dX5_init_40 : decode cX5_init 40 = .ok (.putfield 23, 3) := by decide +kernel
set_option maxRecDepth 20000 in
theorem dX5_init_43 : decode cX5_init 43 = .ok (.aload_n 0, 1) := by decide +kernel
set_option maxRecDepth 20000 in
theorem dX5_init_44 : decode cX5_init 44 = .ok (.new 9, 3) := by decide +kernel
set_option maxRecDepth 20000 in
theorem dX5_init_47 : decode cX5_init 47 = .ok (.dup, 1) := by decide +kernel
set_option maxRecDepth 20000 in
theorem dX5_init_48 : decode cX5_init 48 = .ok (.bipush 101, 2) := by decide +kernel
set_option maxRecDepth 20000 in
theorem dX5_init_50 : decode cX5_init 50 = .ok (.invokespecial 11, 3) := by decide +kernel
set_option maxRecDepth 20000 in
theorem dX5_init_53 : decode cX5_init 53 = .ok (.putfield 26, 3) := by decide +kernel
set_option maxRecDepth 20000 in
theorem dX5_init_56 : decode cX5_init 56 = .ok (.aload_n 0, 1) := by decide +kernel
set_option maxRecDepth 20000 in
theorem dX5_init_57 : decode cX5_init 57 = .ok (.new 9, 3) := by decide +kernel
set_option maxRecDepth 20000 in
theorem dX5_init_60 : decode cX5_init 60 = .ok (.dup, 1) := by decide +kernel
set_option maxRecDepth 20000 in
theorem dX5_init_61 : decode cX5_init 61 = .ok (.bipush 100, 2) := by decide +kernel
set_option maxRecDepth 20000 in
theorem dX5_init_63 : decode cX5_init 63 = .ok (.invokespecial 11, 3) := by decide +kernel
set_option maxRecDepth 20000 in
theorem dX5_init_66 : decode cX5_init 66 = .ok (.putfield 29, 3) := by decide +kernel
set_option maxRecDepth 20000 in
theorem dX5_init_69 : decode cX5_init 69 = .ok (.aload_n 0, 1) := by decide +kernel
set_option maxRecDepth 20000 in
theorem dX5_init_70 : decode cX5_init 70 = .ok (.new 9, 3) := by decide +kernel
set_option maxRecDepth 20000 in
theorem dX5_init_73 : decode cX5_init 73 = .ok (.dup, 1) := by decide +kernel
set_option maxRecDepth 20000 in
theorem dX5_init_74 : decode cX5_init 74 = .ok (.bipush 100, 2) := by decide +kernel
set_option maxRecDepth 20000 in
theorem dX5_init_76 : decode cX5_init 76 = .ok (.invokespecial 11, 3) := by decide +kernel
set_option maxRecDepth 20000 in
theorem dX5_init_79 : decode cX5_init 79 = .ok (.putfield 32, 3) := by decide +kernel
set_option maxRecDepth 20000 in
theorem dX5_init_82 : decode cX5_init 82 = .ok (.aload_n 0, 1) := by decide +kernel
set_option maxRecDepth 20000 in
theorem dX5_init_83 : decode cX5_init 83 = .ok (.new 9, 3) := by decide +kernel
set_option maxRecDepth 20000 in
theorem dX5_init_86 : decode cX5_init 86 = .ok (.dup, 1) := by decide +kernel
set_option maxRecDepth 20000 in
theorem dX5_init_87 : decode cX5_init 87 = .ok (.bipush 100, 2) := by decide +kernel
set_option maxRecDepth 20000 in
theorem dX5_init_89 : decode cX5_init 89 = .ok (.invokespecial 11, 3) := by decide +kernel
set_option maxRecDepth 20000 in
theorem dX5_init_92 : decode cX5_init 92 = .ok (.putfield 35, 3) := by decide +kernel
set_option maxRecDepth 20000 in
theorem dX5_init_95 : decode cX5_init 95 = .ok (.aload_n 0, 1) := by decide +kernel
set_option maxRecDepth 20000 in
theorem dX5_init_96 : decode cX5_init 96 = .ok (.iconst (-1), 1) := by decide +kernel
set_option maxRecDepth 20000 in
theorem dX5_init_97 : decode cX5_init 97 = .ok (.putfield 38, 3) := by decide +kernel
set_option maxRecDepth 20000 in
theorem dX5_init_100 : decode cX5_init 100 = .ok (.aload_n 0, 1) := by decide +kernel
set_option maxRecDepth 20000 in
theorem dX5_init_101 : decode cX5_init 101 = .ok (.iconst (-1), 1) := by decide +kernel
set_option maxRecDepth 20000 in
theorem dX5_init_102 : decode cX5_init 102 = .ok (.putfield 42, 3) := by decide +kernel
set_option maxRecDepth 20000 in
theorem dX5_init_105 : decode cX5_init 105 = .ok (.aload_n 0, 1) := by decide +kernel
set_option maxRecDepth 20000 in
theorem dX5_init_106 : decode cX5_init 106 = .ok (.iconst 0, 1) := by decide +kernel
set_option maxRecDepth 20000 in
theorem dX5_init_107 : decode cX5_init 107 = .ok (.putfield 45, 3) := by decide +kernel
set_option maxRecDepth 20000 in
theorem dX5_init_110 : decode cX5_init 110 = .ok (.aload_n 0, 1) := by decide +kernel
set_option maxRecDepth 20000 in
theorem dX5_init_111 : decode cX5_init 111 = .ok (.aload_n 1, 1) := by decide +kernel
set_option maxRecDepth 20000 in
theorem dX5_init_112 : decode cX5_init 112 = .ok (.putfield 48, 3) := by decide +kernel
set_option maxRecDepth 20000 in
theorem dX5_init_115 : decode cX5_init 115 = .ok (.aload_n 0, 1) := by decide +kernel
set_option maxRecDepth 20000 in
theorem dX5_init_116 : decode cX5_init 116 = .ok (.aload_n 2, 1) := by decide +kernel
set_option maxRecDepth 20000 in
theorem dX5_init_117 : decode cX5_init 117 = .ok (.putfield 52, 3) := by decide +kernel
set_option maxRecDepth 20000 in
theorem dX5_init_120 : decode cX5_init 120 = .ok (.aload_n 0, 1) := by decide +kernel
set_option maxRecDepth 20000 in
theorem dX5_init_121 : decode cX5_init 121 = .ok (.aload_n 3, 1) := by decide +kernel
set_option maxRecDepth 20000 in
theorem dX5_init_122 : decode cX5_init 122 = .ok (.putfield 56, 3) := by decide +kernel
set_option maxRecDepth 20000 in
theorem dX5_init_125 : decode cX5_init 125 = .ok (.aload_n 0, 1) := by decide +kernel
set_option maxRecDepth 20000 in
theorem dX5_init_126 : decode cX5_init 126 = .ok (.aload 4, 2) := by decide +kernel
set_option maxRecDepth 20000 in
theorem dX5_init_128 : decode cX5_init 128 = .ok (.putfield 60, 3) := by decide +kernel
set_option maxRecDepth 20000 in
theorem dX5_init_131 : decode cX5_init 131 = .ok (.return_, 1) := by decide +kernel
set_option maxRecDepth 20000 in
theorem dX5_clear_0 : decode cX5_clear 0 = .ok (.aload_n 0, 1) := by decide +kernel
set_option maxRecDepth 20000 in
theorem dX5_clear_1 : decode cX5_clear 1 = .ok (.getfield 29, 3) := by decide +kernel
set_option maxRecDepth 20000 in
theorem dX5_clear_4 : decode cX5_clear 4 = .ok (.lconst 0, 1) := by decide +kernel
set_option maxRecDepth 20000 in
theorem dX5_clear_5 : decode cX5_clear 5 = .ok (.invokevirtual 64, 3) := by decide +kernel
set_option maxRecDepth 20000 in
theorem dX5_clear_8 : decode cX5_clear 8 = .ok (.return_, 1) := by decide +kernel
set_option maxRecDepth 20000 in
theorem dX5_isStopped_0 : decode cX5_isStopped 0 = .ok (.aload_n 0, 1) := by decide +kernel
set_option maxRecDepth 20000 in
theorem dX5_isStopped_1 : decode cX5_isStopped 1 = .ok (.getfield 29, 3) := by decide +kernel
set_option maxRecDepth 20000 in
theorem dX5_isStopped_4 : decode cX5_isStopped 4 = .ok (.iload_n 1, 1) := by decide +kernel
set_option maxRecDepth 20000 in
theorem dX5_isStopped_5 : decode cX5_isStopped 5 = .ok (.invokevirtual 68, 3) := by decide +kernel
set_option maxRecDepth 20000 in
theorem dX5_isStopped_8 : decode cX5_isStopped 8 = .ok (.iconst 1, 1) := by decide +kernel
set_option maxRecDepth 20000 in
theorem dX5_isStopped_9 : decode cX5_isStopped 9 = .ok (.if_icmp .ne 7, 3) := by decide +kernel
set_option maxRecDepth 20000 in
theorem dX5_isStopped_12 : decode cX5_isStopped 12 = .ok (.iconst 1, 1) := by decide +kernel
set_option maxRecDepth 20000 in
theorem dX5_isStopped_13 : decode cX5_isStopped 13 = .ok (.goto 4, 3) := by decide +kernel
set_option maxRecDepth 20000 in
theorem dX5_isStopped_16 : decode cX5_isStopped 16 = .ok (.iconst 0, 1) := by decide +kernel
set_option maxRecDepth 20000 in
theorem dX5_isStopped_17 : decode cX5_isStopped 17 = .ok (.ireturn, 1) := by decide +kernel
set_option maxRecDepth 20000 in
theorem dX5_addHandlers_0 : decode cX5_addHandlers 0 = .ok (.aload_n 0, 1) := by decide +kernel
set_option maxRecDepth 20000 in
theorem dX5_addHandlers_1 : decode cX5_addHandlers 1 = .ok (.getfield 52, 3) := by decide +kernel
set_option maxRecDepth 20000 in
theorem dX5_addHandlers_4 : decode cX5_addHandlers 4 = .ok (.invokevirtual 72, 3) := by decide +kernel
set_option maxRecDepth 20000 in
theorem dX5_addHandlers_7 : decode cX5_addHandlers 7 = .ok (.istore 4, 2) := by decide +kernel
set_option maxRecDepth 20000 in
theorem dX5_addHandlers_9 : decode cX5_addHandlers 9 = .ok (.aload_n 0, 1) := by decide +kernel
set_option maxRecDepth 20000 in
theorem dX5_addHandlers_10 : decode cX5_addHandlers 10 = .ok (.getfield 32, 3) := by decide +kernel
set_option maxRecDepth 20000 in
theorem dX5_addHandlers_13 : decode cX5_addHandlers 13 = .ok (.iload 4, 2) := by decide +kernel
set_option maxRecDepth 20000 in
theorem dX5_addHandlers_15 : decode cX5_addHandlers 15 = .ok (.iload_n 2, 1) := by decide +kernel
set_option maxRecDepth 20000 in
theorem dX5_addHandlers_16 : decode cX5_addHandlers 16 = .ok (.i2l, 1) := by decide +kernel
set_option maxRecDepth 20000 in
theorem dX5_addHandlers_17 : decode cX5_addHandlers 17 = .ok (.invokevirtual 78, 3) := by decide +kernel
set_option maxRecDepth 20000 in
theorem dX5_addHandlers_20 : decode cX5_addHandlers 20 = .ok (.aload_n 0, 1) := by decide +kernel
set_option maxRecDepth 20000 in
theorem dX5_addHandlers_21 : decode cX5_addHandlers 21 = .ok (.getfield 35, 3) := by decide +kernel
set_option maxRecDepth 20000 in
theorem dX5_addHandlers_24 : decode cX5_addHandlers 24 = .ok (.iload 4, 2) := by decide +kernel
set_option maxRecDepth 20000 in
theorem dX5_addHandlers_26 : decode cX5_addHandlers 26 = .ok (.iload_n 3, 1) := by decide +kernel
set_option maxRecDepth 20000 in
theorem dX5_addHandlers_27 : decode cX5_addHandlers 27 = .ok (.i2l, 1) := by decide +kernel
set_option maxRecDepth 20000 in
theorem dX5_addHandlers_28 : decode cX5_addHandlers 28 = .ok (.invokevirtual 78, 3) := by decide +kernel
set_option maxRecDepth 20000 in
theorem dX5_addHandlers_31 : decode cX5_addHandlers 31 = .ok (.aload_n 0, 1) := by decide +kernel
set_option maxRecDepth 20000 in
theorem dX5_addHandlers_32 : decode cX5_addHandlers 32 = .ok (.getfield 52, 3) := by decide +kernel
set_option maxRecDepth 20000 in
theorem dX5_addHandlers_35 : decode cX5_addHandlers 35 = .ok (.iload_n 1, 1) := by decide +kernel
set_option maxRecDepth 20000 in
theorem dX5_addHandlers_36 : decode cX5_addHandlers 36 = .ok (.iload 4, 2) := by decide +kernel
set_option maxRecDepth 20000 in
theorem dX5_addHandlers_38 : decode cX5_addHandlers 38 = .ok (.iconst 2, 1) := by decide +kernel
set_option maxRecDepth 20000 in
theorem dX5_addHandlers_39 : decode cX5_addHandlers 39 = .ok (.invokestatic 82, 3) := by decide +kernel
set_option maxRecDepth 20000 in
theorem dX5_addHandlers_42 : decode cX5_addHandlers 42 = .ok (.invokevirtual 86, 3) := by decide +kernel
set_option maxRecDepth 20000 in
theorem dX5_addHandlers_45 : decode cX5_addHandlers 45 = .ok (.iload 4, 2) := by decide +kernel
set_option maxRecDepth 20000 in
theorem dX5_addHandlers_47 : decode cX5_addHandlers 47 = .ok (.ireturn, 1) := by decide +kernel
set_option maxRecDepth 20000 in
theorem dX5_handle_0 : decode cX5_handle 0 = .ok (.iload_n 2, 1) := by decide +kernel
set_option maxRecDepth 20000 in
theorem dX5_handle_1 : decode cX5_handle 1 = .ok (.iconst 1, 1) := by decide +kernel
set_option maxRecDepth 20000 in
theorem dX5_handle_2 : decode cX5_handle 2 = .ok (.if_icmp .ne 14, 3) := by decide +kernel
set_option maxRecDepth 20000 in
theorem dX5_handle_5 : decode cX5_handle 5 = .ok (.aload_n 0, 1) := by decide +kernel
set_option maxRecDepth 20000 in
theorem dX5_handle_6 : decode cX5_handle 6 = .ok (.getfield 32, 3) := by decide +kernel
set_option maxRecDepth 20000 in
theorem dX5_handle_9 : decode cX5_handle 9 = .ok (.iload_n 1, 1) := by decide +kernel
set_option maxRecDepth 20000 in
theorem dX5_handle_10 : decode cX5_handle 10 = .ok (.invokevirtual 68, 3) := by decide +kernel
set_option maxRecDepth 20000 in
theorem dX5_handle_13 : decode cX5_handle 13 = .ok (.goto 11, 3) := by decide +kernel
set_option maxRecDepth 20000 in
theorem dX5_handle_16 : decode cX5_handle 16 = .ok (.aload_n 0, 1) := by decide +kernel
set_option maxRecDepth 20000 in
theorem dX5_handle_17 : decode cX5_handle 17 = .ok (.getfield 35, 3) := by decide +kernel
set_option maxRecDepth 20000 in
theorem dX5_handle_20 : decode cX5_handle 20 = .ok (.iload_n 1, 1) := by decide +kernel
set_option maxRecDepth 20000 in
theorem dX5_handle_21 : decode cX5_handle 21 = .ok (.invokevirtual 68, 3) := by decide +kernel
set_option maxRecDepth 20000 in
theorem dX5_handle_24 : decode cX5_handle 24 = .ok (.istore 5, 2) := by decide +kernel
set_option maxRecDepth 20000 in
theorem dX5_handle_26 : decode cX5_handle 26 = .ok (.iload 5, 2) := by decide +kernel
set_option maxRecDepth 20000 in
theorem dX5_handle_28 : decode cX5_handle 28 = .ok (.iconst (-1), 1) := by decide +kernel
set_option maxRecDepth 20000 in
theorem dX5_handle_29 : decode cX5_handle 29 = .ok (.if_icmp .ne 17, 3) := by decide +kernel
set_option maxRecDepth 20000 in
theorem dX5_handle_32 : decode cX5_handle 32 = .ok (.aload_n 0, 1) := by decide +kernel
set_option maxRecDepth 20000 in
theorem dX5_handle_33 : decode cX5_handle 33 = .ok (.getfield 52, 3) := by decide +kernel
set_option maxRecDepth 20000 in
theorem dX5_handle_36 : decode cX5_handle 36 = .ok (.iload_n 1, 1) := by decide +kernel
set_option maxRecDepth 20000 in
theorem dX5_handle_37 : decode cX5_handle 37 = .ok (.iload_n 2, 1) := by decide +kernel
set_option maxRecDepth 20000 in
theorem dX5_handle_38 : decode cX5_handle 38 = .ok (.lload_n 3, 1) := by decide +kernel
set_option maxRecDepth 20000 in
theorem dX5_handle_39 : decode cX5_handle 39 = .ok (.iconst 0, 1) := by decide +kernel
set_option maxRecDepth 20000 in
theorem dX5_handle_40 : decode cX5_handle 40 = .ok (.invokevirtual 90, 3) := by decide +kernel
set_option maxRecDepth 20000 in
theorem dX5_handle_43 : decode cX5_handle 43 = .ok (.goto 11, 3) := by decide +kernel
set_option maxRecDepth 20000 in
theorem dX5_handle_46 : decode cX5_handle 46 = .ok (.aload_n 0, 1) := by decide +kernel
set_option maxRecDepth 20000 in
theorem dX5_handle_47 : decode cX5_handle 47 = .ok (.iload 5, 2) := by decide +kernel
set_option maxRecDepth 20000 in
theorem dX5_handle_49 : decode cX5_handle 49 = .ok (.lload_n 3, 1) := by decide +kernel
set_option maxRecDepth 20000 in
theorem dX5_handle_50 : decode cX5_handle 50 = .ok (.iload_n 1, 1) := by decide +kernel
set_option maxRecDepth 20000 in
theorem dX5_handle_51 : decode cX5_handle 51 = .ok (.invokevirtual 94, 3) := by decide +kernel
set_option maxRecDepth 20000 in
theorem dX5_handle_54 : decode cX5_handle 54 = .ok (.return_, 1) := by decide +kernel
set_option maxRecDepth 20000 in
theorem dX5_perform_0 : decode cX5_perform 0 = .ok (.aload_n 0, 1) := by decide +kernel
set_option maxRecDepth 20000 in
theorem dX5_perform_1 : decode cX5_perform 1 = .ok (.iload 4, 2) := by decide +kernel
set_option maxRecDepth 20000 in
theorem dX5_perform_3 : decode cX5_perform 3 = .ok (.putfield 42, 3) := by decide +kernel
set_option maxRecDepth 20000 in
theorem dX5_perform_6 : decode cX5_perform 6 = .ok (.aload_n 0, 1) := by decide +kernel
set_option maxRecDepth 20000 in
theorem dX5_perform_7 : decode cX5_perform 7 = .ok (.bipush 100, 2) := by decide +kernel
set_option maxRecDepth 20000 in
theorem dX5_perform_9 : decode cX5_perform 9 = .ok (.iload_n 1, 1) := by decide +kernel
set_option maxRecDepth 20000 in
theorem dX5_perform_10 : decode cX5_perform 10 = .ok (.lload_n 2, 1) := by decide +kernel
set_option maxRecDepth 20000 in
theorem dX5_perform_11 : decode cX5_perform 11 = .ok (.invokevirtual 98, 3) := by decide +kernel
set_option maxRecDepth 20000 in
theorem dX5_perform_14 : decode cX5_perform 14 = .ok (.return_, 1) := by decide +kernel
set_option maxRecDepth 20000 in
theorem dX5_begin_0 : decode cX5_begin 0 = .ok (.aload_n 0, 1) := by decide +kernel
set_option maxRecDepth 20000 in
theorem dX5_begin_1 : decode cX5_begin 1 = .ok (.getfield 52, 3) := by decide +kernel
set_option maxRecDepth 20000 in
theorem dX5_begin_4 : decode cX5_begin 4 = .ok (.invokevirtual 72, 3) := by decide +kernel
set_option maxRecDepth 20000 in
theorem dX5_begin_7 : decode cX5_begin 7 = .ok (.istore 4, 2) := by decide +kernel
set_option maxRecDepth 20000 in
theorem dX5_begin_9 : decode cX5_begin 9 = .ok (.aload_n 0, 1) := by decide +kernel
set_option maxRecDepth 20000 in
theorem dX5_begin_10 : decode cX5_begin 10 = .ok (.iload 4, 2) := by decide +kernel
set_option maxRecDepth 20000 in
theorem dX5_begin_12 : decode cX5_begin 12 = .ok (.iload_n 1, 1) := by decide +kernel
set_option maxRecDepth 20000 in
theorem dX5_begin_13 : decode cX5_begin 13 = .ok (.lload_n 2, 1) := by decide +kernel
set_option maxRecDepth 20000 in
theorem dX5_begin_14 : decode cX5_begin 14 = .ok (.invokevirtual 98, 3) := by decide +kernel
set_option maxRecDepth 20000 in
theorem dX5_begin_17 : decode cX5_begin 17 = .ok (.iload 4, 2) := by decide +kernel
set_option maxRecDepth 20000 in
theorem dX5_begin_19 : decode cX5_begin 19 = .ok (.ireturn, 1) := by decide +kernel
set_option maxRecDepth 20000 in
theorem dX5_enter_0 : decode cX5_enter 0 = .ok (.aload_n 0, 1) := by decide +kernel
set_option maxRecDepth 20000 in
theorem dX5_enter_1 : decode cX5_enter 1 = .ok (.getfield 14, 3) := by decide +kernel
set_option maxRecDepth 20000 in
theorem dX5_enter_4 : decode cX5_enter 4 = .ok (.iload_n 1, 1) := by decide +kernel
set_option maxRecDepth 20000 in
theorem dX5_enter_5 : decode cX5_enter 5 = .ok (.iload_n 2, 1) := by decide +kernel
set_option maxRecDepth 20000 in
theorem dX5_enter_6 : decode cX5_enter 6 = .ok (.i2l, 1) := by decide +kernel
set_option maxRecDepth 20000 in
theorem dX5_enter_7 : decode cX5_enter 7 = .ok (.invokevirtual 78, 3) := by decide +kernel
set_option maxRecDepth 20000 in
theorem dX5_enter_10 : decode cX5_enter 10 = .ok (.aload_n 0, 1) := by decide +kernel
set_option maxRecDepth 20000 in
theorem dX5_enter_11 : decode cX5_enter 11 = .ok (.getfield 20, 3) := by decide +kernel
set_option maxRecDepth 20000 in
theorem dX5_enter_14 : decode cX5_enter 14 = .ok (.iload_n 1, 1) := by decide +kernel
set_option maxRecDepth 20000 in
theorem dX5_enter_15 : decode cX5_enter 15 = .ok (.lconst 0, 1) := by decide +kernel
set_option maxRecDepth 20000 in
theorem dX5_enter_16 : decode cX5_enter 16 = .ok (.invokevirtual 78, 3) := by decide +kernel
set_option maxRecDepth 20000 in
theorem dX5_enter_19 : decode cX5_enter 19 = .ok (.aload_n 0, 1) := by decide +kernel
set_option maxRecDepth 20000 in
theorem dX5_enter_20 : decode cX5_enter 20 = .ok (.getfield 23, 3) := by decide +kernel
set_option maxRecDepth 20000 in
theorem dX5_enter_23 : decode cX5_enter 23 = .ok (.iload_n 1, 1) := by decide +kernel
set_option maxRecDepth 20000 in
theorem dX5_enter_24 : decode cX5_enter 24 = .ok (.lload_n 3, 1) := by decide +kernel
set_option maxRecDepth 20000 in
theorem dX5_enter_25 : decode cX5_enter 25 = .ok (.invokevirtual 78, 3) := by decide +kernel
set_option maxRecDepth 20000 in
theorem dX5_enter_28 : decode cX5_enter 28 = .ok (.aload_n 0, 1) := by decide +kernel
set_option maxRecDepth 20000 in
theorem dX5_enter_29 : decode cX5_enter 29 = .ok (.getfield 26, 3) := by decide +kernel
set_option maxRecDepth 20000 in
theorem dX5_enter_32 : decode cX5_enter 32 = .ok (.iload_n 1, 1) := by decide +kernel
set_option maxRecDepth 20000 in
theorem dX5_enter_33 : decode cX5_enter 33 = .ok (.aload_n 0, 1) := by decide +kernel
set_option maxRecDepth 20000 in
theorem dX5_enter_34 : decode cX5_enter 34 = .ok (.getfield 38, 3) := by decide +kernel
set_option maxRecDepth 20000 in
theorem dX5_enter_37 : decode cX5_enter 37 = .ok (.i2l, 1) := by decide +kernel
set_option maxRecDepth 20000 in
theorem dX5_enter_38 : decode cX5_enter 38 = .ok (.invokevirtual 78, 3) := by decide +kernel
set_option maxRecDepth 20000 in
theorem dX5_enter_41 : decode cX5_enter 41 = .ok (.aload_n 0, 1) := by decide +kernel
set_option maxRecDepth 20000 in
theorem dX5_enter_42 : decode cX5_enter 42 = .ok (.iload_n 1, 1) := by decide +kernel
set_option maxRecDepth 20000 in
theorem dX5_enter_43 : decode cX5_enter 43 = .ok (.putfield 38, 3) := by decide +kernel
set_option maxRecDepth 20000 in
theorem dX5_enter_46 : decode cX5_enter 46 = .ok (.return_, 1) := by decide +kernel
set_option maxRecDepth 20000 in
theorem dX5_resume_0 : decode cX5_resume 0 = .ok (.aload_n 0, 1) := by decide +kernel
set_option maxRecDepth 20000 in
theorem dX5_resume_1 : decode cX5_resume 1 = .ok (.getfield 29, 3) := by decide +kernel
set_option maxRecDepth 20000 in
theorem dX5_resume_4 : decode cX5_resume 4 = .ok (.iload_n 1, 1) := by decide +kernel
set_option maxRecDepth 20000 in
theorem dX5_resume_5 : decode cX5_resume 5 = .ok (.lconst 0, 1) := by decide +kernel
set_option maxRecDepth 20000 in
theorem dX5_resume_6 : decode cX5_resume 6 = .ok (.invokevirtual 78, 3) := by decide +kernel
set_option maxRecDepth 20000 in
theorem dX5_resume_9 : decode cX5_resume 9 = .ok (.aload_n 0, 1) := by decide +kernel
set_option maxRecDepth 20000 in
theorem dX5_resume_10 : decode cX5_resume 10 = .ok (.getfield 26, 3) := by decide +kernel
set_option maxRecDepth 20000 in
theorem dX5_resume_13 : decode cX5_resume 13 = .ok (.iload_n 1, 1) := by decide +kernel
set_option maxRecDepth 20000 in
theorem dX5_resume_14 : decode cX5_resume 14 = .ok (.ldc2_w 102, 3) := by decide +kernel
set_option maxRecDepth 20000 in
theorem dX5_resume_17 : decode cX5_resume 17 = .ok (.invokevirtual 78, 3) := by decide +kernel
set_option maxRecDepth 20000 in
theorem dX5_resume_20 : decode cX5_resume 20 = .ok (.aload_n 0, 1) := by decide +kernel
set_option maxRecDepth 20000 in
theorem dX5_resume_21 : decode cX5_resume 21 = .ok (.iload_n 1, 1) := by decide +kernel
set_option maxRecDepth 20000 in
theorem dX5_resume_22 : decode cX5_resume 22 = .ok (.putfield 38, 3) := by decide +kernel
set_option maxRecDepth 20000 in
theorem dX5_resume_25 : decode cX5_resume 25 = .ok (.aload_n 0, 1) := by decide +kernel
set_option maxRecDepth 20000 in
theorem dX5_resume_26 : decode cX5_resume 26 = .ok (.getfield 23, 3) := by decide +kernel
set_option maxRecDepth 20000 in
theorem dX5_resume_29 : decode cX5_resume 29 = .ok (.iload_n 1, 1) := by decide +kernel
set_option maxRecDepth 20000 in
theorem dX5_resume_30 : decode cX5_resume 30 = .ok (.lload_n 3, 1) := by decide +kernel
set_option maxRecDepth 20000 in
theorem dX5_resume_31 : decode cX5_resume 31 = .ok (.invokevirtual 78, 3) := by decide +kernel
set_option maxRecDepth 20000 in
theorem dX5_resume_34 : decode cX5_resume 34 = .ok (.iload_n 2, 1) := by decide +kernel
set_option maxRecDepth 20000 in
theorem dX5_resume_35 : decode cX5_resume 35 = .ok (.iconst 2, 1) := by decide +kernel
set_option maxRecDepth 20000 in
theorem dX5_resume_36 : decode cX5_resume 36 = .ok (.if_icmp .ne 27, 3) := by decide +kernel
set_option maxRecDepth 20000 in
theorem dX5_resume_39 : decode cX5_resume 39 = .ok (.aload_n 0, 1) := by decide +kernel
set_option maxRecDepth 20000 in
theorem dX5_resume_40 : decode cX5_resume 40 = .ok (.iload_n 1, 1) := by decide +kernel
set_option maxRecDepth 20000 in
theorem dX5_resume_41 : decode cX5_resume 41 = .ok (.aload_n 0, 1) := by decide +kernel
set_option maxRecDepth 20000 in
theorem dX5_resume_42 : decode cX5_resume 42 = .ok (.getfield 20, 3) := by decide +kernel
set_option maxRecDepth 20000 in
theorem dX5_resume_45 : decode cX5_resume 45 = .ok (.iload_n 1, 1) := by decide +kernel
set_option maxRecDepth 20000 in
theorem dX5_resume_46 : decode cX5_resume 46 = .ok (.invokevirtual 68, 3) := by decide +kernel
set_option maxRecDepth 20000 in
theorem dX5_resume_49 : decode cX5_resume 49 = .ok (.iconst 1, 1) := by decide +kernel
set_option maxRecDepth 20000 in
theorem dX5_resume_50 : decode cX5_resume 50 = .ok (.isub, 1) := by decide +kernel
set_option maxRecDepth 20000 in
theorem dX5_resume_51 : decode cX5_resume 51 = .ok (.invokevirtual 104, 3) := by decide +kernel
set_option maxRecDepth 20000 in
theorem dX5_resume_54 : decode cX5_resume 54 = .ok (.ifCond .ne 9, 3) := by decide +kernel
set_option maxRecDepth 20000 in
theorem dX5_resume_57 : decode cX5_resume 57 = .ok (.aload_n 0, 1) := by decide +kernel
set_option maxRecDepth 20000 in
theorem dX5_resume_58 : decode cX5_resume 58 = .ok (.iload_n 1, 1) := by decide +kernel
set_option maxRecDepth 20000 in
theorem dX5_resume_59 : decode cX5_resume 59 = .ok (.iconst 2, 1) := by decide +kernel
set_option maxRecDepth 20000 in
theorem dX5_resume_60 : decode cX5_resume 60 = .ok (.invokevirtual 108, 3) := by decide +kernel
set_option maxRecDepth 20000 in
theorem dX5_resume_63 : decode cX5_resume 63 = .ok (.return_, 1) := by decide +kernel
set_option maxRecDepth 20000 in
theorem dX5_goOn_0 : decode cX5_goOn 0 = .ok (.aload_n 0, 1) := by decide +kernel
set_option maxRecDepth 20000 in
theorem dX5_goOn_1 : decode cX5_goOn 1 = .ok (.iconst 0, 1) := by decide +kernel
set_option maxRecDepth 20000 in
theorem dX5_goOn_2 : decode cX5_goOn 2 = .ok (.putfield 45, 3) := by decide +kernel
set_option maxRecDepth 20000 in
theorem dX5_goOn_5 : decode cX5_goOn 5 = .ok (.iconst 0, 1) := by decide +kernel
set_option maxRecDepth 20000 in
theorem dX5_goOn_6 : decode cX5_goOn 6 = .ok (.istore_n 1, 1) := by decide +kernel
set_option maxRecDepth 20000 in
theorem dX5_goOn_7 : decode cX5_goOn 7 = .ok (.iload_n 1, 1) := by decide +kernel
set_option maxRecDepth 20000 in
theorem dX5_goOn_8 : decode cX5_goOn 8 = .ok (.ldc 111, 2) := by decide +kernel
set_option maxRecDepth 20000 in
theorem dX5_goOn_10 : decode cX5_goOn 10 = .ok (.if_icmp .ge 120, 3) := by decide +kernel
set_option maxRecDepth 20000 in
theorem dX5_goOn_13 : decode cX5_goOn 13 = .ok (.aload_n 0, 1) := by decide +kernel
set_option maxRecDepth 20000 in
theorem dX5_goOn_14 : decode cX5_goOn 14 = .ok (.getfield 38, 3) := by decide +kernel
set_option maxRecDepth 20000 in
theorem dX5_goOn_17 : decode cX5_goOn 17 = .ok (.iconst (-1), 1) := by decide +kernel
set_option maxRecDepth 20000 in
theorem dX5_goOn_18 : decode cX5_goOn 18 = .ok (.if_icmp .eq 112, 3) := by decide +kernel
set_option maxRecDepth 20000 in
theorem dX5_goOn_21 : decode cX5_goOn 21 = .ok (.aload_n 0, 1) := by decide +kernel
set_option maxRecDepth 20000 in
theorem dX5_goOn_22 : decode cX5_goOn 22 = .ok (.getfield 38, 3) := by decide +kernel
set_option maxRecDepth 20000 in
theorem dX5_goOn_25 : decode cX5_goOn 25 = .ok (.istore_n 2, 1) := by decide +kernel
set_option maxRecDepth 20000 in
theorem dX5_goOn_26 : decode cX5_goOn 26 = .ok (.aload_n 0, 1) := by decide +kernel
set_option maxRecDepth 20000 in
theorem dX5_goOn_27 : decode cX5_goOn 27 = .ok (.getfield 20, 3) := by decide +kernel
set_option maxRecDepth 20000 in
theorem dX5_goOn_30 : decode cX5_goOn 30 = .ok (.iload_n 2, 1) := by decide +kernel
set_option maxRecDepth 20000 in
theorem dX5_goOn_31 : decode cX5_goOn 31 = .ok (.invokevirtual 68, 3) := by decide +kernel
set_option maxRecDepth 20000 in
theorem dX5_goOn_34 : decode cX5_goOn 34 = .ok (.istore_n 3, 1) := by decide +kernel
set_option maxRecDepth 20000 in
theorem dX5_goOn_35 : decode cX5_goOn 35 = .ok (.aload_n 0, 1) := by decide +kernel
set_option maxRecDepth 20000 in
theorem dX5_goOn_36 : decode cX5_goOn 36 = .ok (.getfield 20, 3) := by decide +kernel
set_option maxRecDepth 20000 in
theorem dX5_goOn_39 : decode cX5_goOn 39 = .ok (.iload_n 2, 1) := by decide +kernel
set_option maxRecDepth 20000 in
theorem dX5_goOn_40 : decode cX5_goOn 40 = .ok (.iload_n 3, 1) := by decide +kernel
set_option maxRecDepth 20000 in
theorem dX5_goOn_41 : decode cX5_goOn 41 = .ok (.iconst 1, 1) := by decide +kernel
set_option maxRecDepth 20000 in
theorem dX5_goOn_42 : decode cX5_goOn 42 = .ok (.iadd, 1) := by decide +kernel
set_option maxRecDepth 20000 in
theorem dX5_goOn_43 : decode cX5_goOn 43 = .ok (.i2l, 1) := by decide +kernel
set_option maxRecDepth 20000 in
theorem dX5_goOn_44 : decode cX5_goOn 44 = .ok (.invokevirtual 78, 3) := by decide +kernel
set_option maxRecDepth 20000 in
theorem dX5_goOn_47 : decode cX5_goOn 47 = .ok (.iload_n 3, 1) := by decide +kernel
set_option maxRecDepth 20000 in
theorem dX5_goOn_48 : decode cX5_goOn 48 = .ok (.aload_n 0, 1) := by decide +kernel
set_option maxRecDepth 20000 in
theorem dX5_goOn_49 : decode cX5_goOn 49 = .ok (.getfield 48, 3) := by decide +kernel
set_option maxRecDepth 20000 in
theorem dX5_goOn_52 : decode cX5_goOn 52 = .ok (.aload_n 0, 1) := by decide +kernel
set_option maxRecDepth 20000 in
theorem dX5_goOn_53 : decode cX5_goOn 53 = .ok (.getfield 14, 3) := by decide +kernel
set_option maxRecDepth 20000 in
theorem dX5_goOn_56 : decode cX5_goOn 56 = .ok (.iload_n 2, 1) := by decide +kernel
set_option maxRecDepth 20000 in
theorem dX5_goOn_57 : decode cX5_goOn 57 = .ok (.invokevirtual 68, 3) := by decide +kernel
set_option maxRecDepth 20000 in
theorem dX5_goOn_60 : decode cX5_goOn 60 = .ok (.invokevirtual 112, 3) := by decide +kernel
set_option maxRecDepth 20000 in
theorem dX5_goOn_63 : decode cX5_goOn 63 = .ok (.if_icmp .ge 12, 3) := by decide +kernel
set_option maxRecDepth 20000 in
theorem dX5_goOn_66 : decode cX5_goOn 66 = .ok (.aload_n 0, 1) := by decide +kernel
set_option maxRecDepth 20000 in
theorem dX5_goOn_67 : decode cX5_goOn 67 = .ok (.iload_n 2, 1) := by decide +kernel
set_option maxRecDepth 20000 in
theorem dX5_goOn_68 : decode cX5_goOn 68 = .ok (.iload_n 3, 1) := by decide +kernel
set_option maxRecDepth 20000 in
theorem dX5_goOn_69 : decode cX5_goOn 69 = .ok (.invokevirtual 117, 3) := by decide +kernel
set_option maxRecDepth 20000 in
theorem dX5_goOn_72 : decode cX5_goOn 72 = .ok (.goto 8, 3) := by decide +kernel
set_option maxRecDepth 20000 in
theorem dX5_goOn_75 : decode cX5_goOn 75 = .ok (.aload_n 0, 1) := by decide +kernel
set_option maxRecDepth 20000 in
theorem dX5_goOn_76 : decode cX5_goOn 76 = .ok (.iload_n 2, 1) := by decide +kernel
set_option maxRecDepth 20000 in
theorem dX5_goOn_77 : decode cX5_goOn 77 = .ok (.invokevirtual 120, 3) := by decide +kernel
set_option maxRecDepth 20000 in
theorem dX5_goOn_80 : decode cX5_goOn 80 = .ok (.istore 4, 2) := by decide +kernel
set_option maxRecDepth 20000 in
theorem dX5_goOn_82 : decode cX5_goOn 82 = .ok (.iload 4, 2) := by decide +kernel
set_option maxRecDepth 20000 in
theorem dX5_goOn_84 : decode cX5_goOn 84 = .ok (.iconst 3, 1) := by decide +kernel
set_option maxRecDepth 20000 in
theorem dX5_goOn_85 : decode cX5_goOn 85 = .ok (.if_icmp .ne 11, 3) := by decide +kernel
set_option maxRecDepth 20000 in
theorem dX5_goOn_88 : decode cX5_goOn 88 = .ok (.aload_n 0, 1) := by decide +kernel
set_option maxRecDepth 20000 in
theorem dX5_goOn_89 : decode cX5_goOn 89 = .ok (.iload_n 2, 1) := by decide +kernel
set_option maxRecDepth 20000 in
theorem dX5_goOn_90 : decode cX5_goOn 90 = .ok (.invokevirtual 123, 3) := by decide +kernel
set_option maxRecDepth 20000 in
theorem dX5_goOn_93 : decode cX5_goOn 93 = .ok (.goto 31, 3) := by decide +kernel
set_option maxRecDepth 20000 in
theorem dX5_goOn_96 : decode cX5_goOn 96 = .ok (.iload 4, 2) := by decide +kernel
set_option maxRecDepth 20000 in
theorem dX5_goOn_98 : decode cX5_goOn 98 = .ok (.iconst 1, 1) := by decide +kernel
set_option maxRecDepth 20000 in
theorem dX5_goOn_99 : decode cX5_goOn 99 = .ok (.if_icmp .eq 18, 3) := by decide +kernel
set_option maxRecDepth 20000 in
theorem dX5_goOn_102 : decode cX5_goOn 102 = .ok (.iload 4, 2) := by decide +kernel
set_option maxRecDepth 20000 in
theorem dX5_goOn_104 : decode cX5_goOn 104 = .ok (.iconst 2, 1) := by decide +kernel
set_option maxRecDepth 20000 in
theorem dX5_goOn_105 : decode cX5_goOn 105 = .ok (.if_icmp .ne 19, 3) := by decide +kernel
set_option maxRecDepth 20000 in
theorem dX5_goOn_108 : decode cX5_goOn 108 = .ok (.aload_n 0, 1) := by decide +kernel
set_option maxRecDepth 20000 in
theorem dX5_goOn_109 : decode cX5_goOn 109 = .ok (.iload_n 2, 1) := by decide +kernel
set_option maxRecDepth 20000 in
theorem dX5_goOn_110 : decode cX5_goOn 110 = .ok (.iload_n 3, 1) := by decide +kernel
set_option maxRecDepth 20000 in
theorem dX5_goOn_111 : decode cX5_goOn 111 = .ok (.invokevirtual 104, 3) := by decide +kernel
set_option maxRecDepth 20000 in
theorem dX5_goOn_114 : decode cX5_goOn 114 = .ok (.ifCond .ne 10, 3) := by decide +kernel
set_option maxRecDepth 20000 in
theorem dX5_goOn_117 : decode cX5_goOn 117 = .ok (.aload_n 0, 1) := by decide +kernel
set_option maxRecDepth 20000 in
theorem dX5_goOn_118 : decode cX5_goOn 118 = .ok (.iload_n 2, 1) := by decide +kernel
set_option maxRecDepth 20000 in
theorem dX5_goOn_119 : decode cX5_goOn 119 = .ok (.iload 4, 2) := by decide +kernel
set_option maxRecDepth 20000 in
theorem dX5_goOn_121 : decode cX5_goOn 121 = .ok (.invokevirtual 108, 3) := by decide +kernel
set_option maxRecDepth 20000 in
theorem dX5_goOn_124 : decode cX5_goOn 124 = .ok (.iinc 1 1, 3) := by decide +kernel
set_option maxRecDepth 20000 in
theorem dX5_goOn_127 : decode cX5_goOn 127 = .ok (.goto (-120), 3) := by decide +kernel
set_option maxRecDepth 20000 in
theorem dX5_goOn_130 : decode cX5_goOn 130 = .ok (.return_, 1) := by decide +kernel
set_option maxRecDepth 20000 in
theorem dX5_doStep_0 : decode cX5_doStep 0 = .ok (.aload_n 0, 1) := by decide +kernel
set_option maxRecDepth 20000 in
theorem dX5_doStep_1 : decode cX5_doStep 1 = .ok (.getfield 48, 3) := by decide +kernel
set_option maxRecDepth 20000 in
theorem dX5_doStep_4 : decode cX5_doStep 4 = .ok (.aload_n 0, 1) := by decide +kernel
set_option maxRecDepth 20000 in
theorem dX5_doStep_5 : decode cX5_doStep 5 = .ok (.getfield 14, 3) := by decide +kernel
set_option maxRecDepth 20000 in
theorem dX5_doStep_8 : decode cX5_doStep 8 = .ok (.iload_n 1, 1) := by decide +kernel
set_option maxRecDepth 20000 in
theorem dX5_doStep_9 : decode cX5_doStep 9 = .ok (.invokevirtual 68, 3) := by decide +kernel
set_option maxRecDepth 20000 in
theorem dX5_doStep_12 : decode cX5_doStep 12 = .ok (.iload_n 2, 1) := by decide +kernel
set_option maxRecDepth 20000 in
theorem dX5_doStep_13 : decode cX5_doStep 13 = .ok (.invokevirtual 126, 3) := by decide +kernel
set_option maxRecDepth 20000 in
theorem dX5_doStep_16 : decode cX5_doStep 16 = .ok (.istore_n 3, 1) := by decide +kernel
set_option maxRecDepth 20000 in
theorem dX5_doStep_17 : decode cX5_doStep 17 = .ok (.aload_n 0, 1) := by decide +kernel
set_option maxRecDepth 20000 in
theorem dX5_doStep_18 : decode cX5_doStep 18 = .ok (.getfield 48, 3) := by decide +kernel
set_option maxRecDepth 20000 in
theorem dX5_doStep_21 : decode cX5_doStep 21 = .ok (.aload_n 0, 1) := by decide +kernel
set_option maxRecDepth 20000 in
theorem dX5_doStep_22 : decode cX5_doStep 22 = .ok (.getfield 14, 3) := by decide +kernel
set_option maxRecDepth 20000 in
theorem dX5_doStep_25 : decode cX5_doStep 25 = .ok (.iload_n 1, 1) := by decide +kernel
set_option maxRecDepth 20000 in
theorem dX5_doStep_26 : decode cX5_doStep 26 = .ok (.invokevirtual 68, 3) := by decide +kernel
set_option maxRecDepth 20000 in
theorem dX5_doStep_29 : decode cX5_doStep 29 = .ok (.iload_n 2, 1) := by decide +kernel
set_option maxRecDepth 20000 in
theorem dX5_doStep_30 : decode cX5_doStep 30 = .ok (.invokevirtual 129, 3) := by decide +kernel
set_option maxRecDepth 20000 in
theorem dX5_doStep_33 : decode cX5_doStep 33 = .ok (.lstore 4, 2) := by decide +kernel
set_option maxRecDepth 20000 in
theorem dX5_doStep_35 : decode cX5_doStep 35 = .ok (.lload 4, 2) := by decide +kernel
set_option maxRecDepth 20000 in
theorem dX5_doStep_37 : decode cX5_doStep 37 = .ok (.invokestatic 133, 3) := by decide +kernel
set_option maxRecDepth 20000 in
theorem dX5_doStep_40 : decode cX5_doStep 40 = .ok (.istore 6, 2) := by decide +kernel
set_option maxRecDepth 20000 in
theorem dX5_doStep_42 : decode cX5_doStep 42 = .ok (.aload_n 0, 1) := by decide +kernel
set_option maxRecDepth 20000 in
theorem dX5_doStep_43 : decode cX5_doStep 43 = .ok (.getfield 23, 3) := by decide +kernel
set_option maxRecDepth 20000 in
theorem dX5_doStep_46 : decode cX5_doStep 46 = .ok (.iload_n 1, 1) := by decide +kernel
set_option maxRecDepth 20000 in
theorem dX5_doStep_47 : decode cX5_doStep 47 = .ok (.invokevirtual 139, 3) := by decide +kernel
set_option maxRecDepth 20000 in
theorem dX5_doStep_50 : decode cX5_doStep 50 = .ok (.lstore 7, 2) := by decide +kernel
set_option maxRecDepth 20000 in
theorem dX5_doStep_52 : decode cX5_doStep 52 = .ok (.aload_n 0, 1) := by decide +kernel
set_option maxRecDepth 20000 in
theorem dX5_doStep_53 : decode cX5_doStep 53 = .ok (.dup, 1) := by decide +kernel
set_option maxRecDepth 20000 in
theorem dX5_doStep_54 : decode cX5_doStep 54 = .ok (.getfield 45, 3) := by decide +kernel
set_option maxRecDepth 20000 in
theorem dX5_doStep_57 : decode cX5_doStep 57 = .ok (.iconst 1, 1) := by decide +kernel
set_option maxRecDepth 20000 in
theorem dX5_doStep_58 : decode cX5_doStep 58 = .ok (.iadd, 1) := by decide +kernel
set_option maxRecDepth 20000 in
theorem dX5_doStep_59 : decode cX5_doStep 59 = .ok (.putfield 45, 3) := by decide +kernel
set_option maxRecDepth 20000 in
theorem dX5_doStep_62 : decode cX5_doStep 62 = .ok (.aload_n 0, 1) := by decide +kernel
set_option maxRecDepth 20000 in
theorem dX5_doStep_63 : decode cX5_doStep 63 = .ok (.iload_n 1, 1) := by decide +kernel
set_option maxRecDepth 20000 in
theorem dX5_doStep_64 : decode cX5_doStep 64 = .ok (.iload_n 3, 1) := by decide +kernel
set_option maxRecDepth 20000 in
theorem dX5_doStep_65 : decode cX5_doStep 65 = .ok (.lload 4, 2) := by decide +kernel
set_option maxRecDepth 20000 in
theorem dX5_doStep_67 : decode cX5_doStep 67 = .ok (.invokevirtual 143, 3) := by decide +kernel
set_option maxRecDepth 20000 in
theorem dX5_doStep_70 : decode cX5_doStep 70 = .ok (.istore 9, 2) := by decide +kernel
set_option maxRecDepth 20000 in
theorem dX5_doStep_72 : decode cX5_doStep 72 = .ok (.iload 9, 2) := by decide +kernel
set_option maxRecDepth 20000 in
theorem dX5_doStep_74 : decode cX5_doStep 74 = .ok (.ifCond .eq 19, 3) := by decide +kernel
set_option maxRecDepth 20000 in
theorem dX5_doStep_77 : decode cX5_doStep 77 = .ok (.aload_n 0, 1) := by decide +kernel
set_option maxRecDepth 20000 in
theorem dX5_doStep_78 : decode cX5_doStep 78 = .ok (.getfield 23, 3) := by decide +kernel
set_option maxRecDepth 20000 in
theorem dX5_doStep_81 : decode cX5_doStep 81 = .ok (.iload_n 1, 1) := by decide +kernel
set_option maxRecDepth 20000 in
theorem dX5_doStep_82 : decode cX5_doStep 82 = .ok (.iconst 0, 1) := by decide +kernel
set_option maxRecDepth 20000 in
theorem dX5_doStep_83 : decode cX5_doStep 83 = .ok (.iload 9, 2) := by decide +kernel
set_option maxRecDepth 20000 in
theorem dX5_doStep_85 : decode cX5_doStep 85 = .ok (.invokestatic 147, 3) := by decide +kernel
set_option maxRecDepth 20000 in
theorem dX5_doStep_88 : decode cX5_doStep 88 = .ok (.invokevirtual 78, 3) := by decide +kernel
set_option maxRecDepth 20000 in
theorem dX5_doStep_91 : decode cX5_doStep 91 = .ok (.iconst 2, 1) := by decide +kernel
set_option maxRecDepth 20000 in
theorem dX5_doStep_92 : decode cX5_doStep 92 = .ok (.ireturn, 1) := by decide +kernel
set_option maxRecDepth 20000 in
theorem dX5_doStep_93 : decode cX5_doStep 93 = .ok (.iload_n 3, 1) := by decide +kernel
set_option maxRecDepth 20000 in
theorem dX5_doStep_94 : decode cX5_doStep 94 = .ok (.tableswitch 235 0 14 #[74, 86, 98, 111, 113, 115, 235, 235, 117, 140, 156, 172, 199, 215, 225], 74) := by decide +kernel
set_option maxRecDepth 20000 in
theorem dX5_doStep_168 : decode cX5_doStep 168 = .ok (.aload_n 0, 1) := by decide +kernel
set_option maxRecDepth 20000 in
theorem dX5_doStep_169 : decode cX5_doStep 169 = .ok (.getfield 60, 3) := by decide +kernel
set_option maxRecDepth 20000 in
theorem dX5_doStep_172 : decode cX5_doStep 172 = .ok (.lload 4, 2) := by decide +kernel
set_option maxRecDepth 20000 in
theorem dX5_doStep_174 : decode cX5_doStep 174 = .ok (.invokevirtual 150, 3) := by decide +kernel
set_option maxRecDepth 20000 in
theorem dX5_doStep_177 : decode cX5_doStep 177 = .ok (.goto 152, 3) := by decide +kernel
set_option maxRecDepth 20000 in
theorem dX5_doStep_180 : decode cX5_doStep 180 = .ok (.aload_n 0, 1) := by decide +kernel
set_option maxRecDepth 20000 in
theorem dX5_doStep_181 : decode cX5_doStep 181 = .ok (.getfield 60, 3) := by decide +kernel
set_option maxRecDepth 20000 in
theorem dX5_doStep_184 : decode cX5_doStep 184 = .ok (.lload 7, 2) := by decide +kernel
set_option maxRecDepth 20000 in
theorem dX5_doStep_186 : decode cX5_doStep 186 = .ok (.invokevirtual 150, 3) := by decide +kernel
set_option maxRecDepth 20000 in
theorem dX5_doStep_189 : decode cX5_doStep 189 = .ok (.goto 140, 3) := by decide +kernel
set_option maxRecDepth 20000 in
theorem dX5_doStep_192 : decode cX5_doStep 192 = .ok (.aload_n 0, 1) := by decide +kernel
set_option maxRecDepth 20000 in
theorem dX5_doStep_193 : decode cX5_doStep 193 = .ok (.getfield 23, 3) := by decide +kernel
set_option maxRecDepth 20000 in
theorem dX5_doStep_196 : decode cX5_doStep 196 = .ok (.iload_n 1, 1) := by decide +kernel
set_option maxRecDepth 20000 in
theorem dX5_doStep_197 : decode cX5_doStep 197 = .ok (.lload 4, 2) := by decide +kernel
set_option maxRecDepth 20000 in
theorem dX5_doStep_199 : decode cX5_doStep 199 = .ok (.invokevirtual 78, 3) := by decide +kernel
set_option maxRecDepth 20000 in
theorem dX5_doStep_202 : decode cX5_doStep 202 = .ok (.goto 127, 3) := by decide +kernel
set_option maxRecDepth 20000 in
theorem dX5_doStep_205 : decode cX5_doStep 205 = .ok (.iconst 1, 1) := by decide +kernel
set_option maxRecDepth 20000 in
theorem dX5_doStep_206 : decode cX5_doStep 206 = .ok (.ireturn, 1) := by decide +kernel
set_option maxRecDepth 20000 in
theorem dX5_doStep_207 : decode cX5_doStep 207 = .ok (.iconst 2, 1) := by decide +kernel
set_option maxRecDepth 20000 in
theorem dX5_doStep_208 : decode cX5_doStep 208 = .ok (.ireturn, 1) := by decide +kernel
set_option maxRecDepth 20000 in
theorem dX5_doStep_209 : decode cX5_doStep 209 = .ok (.iconst 3, 1) := by decide +kernel
set_option maxRecDepth 20000 in
theorem dX5_doStep_210 : decode cX5_doStep 210 = .ok (.ireturn, 1) := by decide +kernel
set_option maxRecDepth 20000 in
theorem dX5_doStep_211 : decode cX5_doStep 211 = .ok (.aload_n 0, 1) := by decide +kernel
set_option maxRecDepth 20000 in
theorem dX5_doStep_212 : decode cX5_doStep 212 = .ok (.getfield 23, 3) := by decide +kernel
set_option maxRecDepth 20000 in
theorem dX5_doStep_215 : decode cX5_doStep 215 = .ok (.iload_n 1, 1) := by decide +kernel
set_option maxRecDepth 20000 in
theorem dX5_doStep_216 : decode cX5_doStep 216 = .ok (.iconst 1, 1) := by decide +kernel
set_option maxRecDepth 20000 in
theorem dX5_doStep_217 : decode cX5_doStep 217 = .ok (.aload_n 0, 1) := by decide +kernel
set_option maxRecDepth 20000 in
theorem dX5_doStep_218 : decode cX5_doStep 218 = .ok (.iload 6, 2) := by decide +kernel
set_option maxRecDepth 20000 in
theorem dX5_doStep_220 : decode cX5_doStep 220 = .ok (.lload 7, 2) := by decide +kernel
set_option maxRecDepth 20000 in
theorem dX5_doStep_222 : decode cX5_doStep 222 = .ok (.invokevirtual 155, 3) := by decide +kernel
set_option maxRecDepth 20000 in
theorem dX5_doStep_225 : decode cX5_doStep 225 = .ok (.invokestatic 147, 3) := by decide +kernel
set_option maxRecDepth 20000 in
theorem dX5_doStep_228 : decode cX5_doStep 228 = .ok (.invokevirtual 78, 3) := by decide +kernel
set_option maxRecDepth 20000 in
theorem dX5_doStep_231 : decode cX5_doStep 231 = .ok (.goto 98, 3) := by decide +kernel
set_option maxRecDepth 20000 in
theorem dX5_doStep_234 : decode cX5_doStep 234 = .ok (.aload_n 0, 1) := by decide +kernel
set_option maxRecDepth 20000 in
theorem dX5_doStep_235 : decode cX5_doStep 235 = .ok (.getfield 52, 3) := by decide +kernel
set_option maxRecDepth 20000 in
theorem dX5_doStep_238 : decode cX5_doStep 238 = .ok (.iload 6, 2) := by decide +kernel
set_option maxRecDepth 20000 in
theorem dX5_doStep_240 : decode cX5_doStep 240 = .ok (.iconst 1, 1) := by decide +kernel
set_option maxRecDepth 20000 in
theorem dX5_doStep_241 : decode cX5_doStep 241 = .ok (.lload 7, 2) := by decide +kernel
set_option maxRecDepth 20000 in
theorem dX5_doStep_243 : decode cX5_doStep 243 = .ok (.iconst 0, 1) := by decide +kernel
set_option maxRecDepth 20000 in
theorem dX5_doStep_244 : decode cX5_doStep 244 = .ok (.invokevirtual 90, 3) := by decide +kernel
set_option maxRecDepth 20000 in
theorem dX5_doStep_247 : decode cX5_doStep 247 = .ok (.goto 82, 3) := by decide +kernel
set_option maxRecDepth 20000 in
theorem dX5_doStep_250 : decode cX5_doStep 250 = .ok (.aload_n 0, 1) := by decide +kernel
set_option maxRecDepth 20000 in
theorem dX5_doStep_251 : decode cX5_doStep 251 = .ok (.getfield 52, 3) := by decide +kernel
set_option maxRecDepth 20000 in
theorem dX5_doStep_254 : decode cX5_doStep 254 = .ok (.iload 6, 2) := by decide +kernel
set_option maxRecDepth 20000 in
theorem dX5_doStep_256 : decode cX5_doStep 256 = .ok (.iconst 2, 1) := by decide +kernel
set_option maxRecDepth 20000 in
theorem dX5_doStep_257 : decode cX5_doStep 257 = .ok (.lload 7, 2) := by decide +kernel
set_option maxRecDepth 20000 in
theorem dX5_doStep_259 : decode cX5_doStep 259 = .ok (.iconst 0, 1) := by decide +kernel
set_option maxRecDepth 20000 in
theorem dX5_doStep_260 : decode cX5_doStep 260 = .ok (.invokevirtual 90, 3) := by decide +kernel
set_option maxRecDepth 20000 in
theorem dX5_doStep_263 : decode cX5_doStep 263 = .ok (.goto 66, 3) := by decide +kernel
set_option maxRecDepth 20000 in
theorem dX5_doStep_266 : decode cX5_doStep 266 = .ok (.aload_n 0, 1) := by decide +kernel
set_option maxRecDepth 20000 in
theorem dX5_doStep_267 : decode cX5_doStep 267 = .ok (.getfield 23, 3) := by decide +kernel
set_option maxRecDepth 20000 in
theorem dX5_doStep_270 : decode cX5_doStep 270 = .ok (.iload_n 1, 1) := by decide +kernel
set_option maxRecDepth 20000 in
theorem dX5_doStep_271 : decode cX5_doStep 271 = .ok (.iconst 1, 1) := by decide +kernel
set_option maxRecDepth 20000 in
theorem dX5_doStep_272 : decode cX5_doStep 272 = .ok (.aload_n 0, 1) := by decide +kernel
set_option maxRecDepth 20000 in
theorem dX5_doStep_273 : decode cX5_doStep 273 = .ok (.lload 7, 2) := by decide +kernel
set_option maxRecDepth 20000 in
theorem dX5_doStep_275 : decode cX5_doStep 275 = .ok (.invokestatic 133, 3) := by decide +kernel
set_option maxRecDepth 20000 in
theorem dX5_doStep_278 : decode cX5_doStep 278 = .ok (.iload 6, 2) := by decide +kernel
set_option maxRecDepth 20000 in
theorem dX5_doStep_280 : decode cX5_doStep 280 = .ok (.iconst (-1), 1) := by decide +kernel
set_option maxRecDepth 20000 in
theorem dX5_doStep_281 : decode cX5_doStep 281 = .ok (.invokevirtual 159, 3) := by decide +kernel
set_option maxRecDepth 20000 in
theorem dX5_doStep_284 : decode cX5_doStep 284 = .ok (.invokestatic 147, 3) := by decide +kernel
set_option maxRecDepth 20000 in
theorem dX5_doStep_287 : decode cX5_doStep 287 = .ok (.invokevirtual 78, 3) := by decide +kernel
set_option maxRecDepth 20000 in
theorem dX5_doStep_290 : decode cX5_doStep 290 = .ok (.goto 39, 3) := by decide +kernel
set_option maxRecDepth 20000 in
theorem dX5_doStep_293 : decode cX5_doStep 293 = .ok (.aload_n 0, 1) := by decide +kernel
set_option maxRecDepth 20000 in
theorem dX5_doStep_294 : decode cX5_doStep 294 = .ok (.getfield 56, 3) := by decide +kernel
set_option maxRecDepth 20000 in
theorem dX5_doStep_297 : decode cX5_doStep 297 = .ok (.iload 6, 2) := by decide +kernel
set_option maxRecDepth 20000 in
theorem dX5_doStep_299 : decode cX5_doStep 299 = .ok (.lload 7, 2) := by decide +kernel
set_option maxRecDepth 20000 in
theorem dX5_doStep_301 : decode cX5_doStep 301 = .ok (.iconst 5, 1) := by decide +kernel
set_option maxRecDepth 20000 in
theorem dX5_doStep_302 : decode cX5_doStep 302 = .ok (.invokevirtual 163, 3) := by decide +kernel
set_option maxRecDepth 20000 in
theorem dX5_doStep_305 : decode cX5_doStep 305 = .ok (.pop, 1) := by decide +kernel
set_option maxRecDepth 20000 in
theorem dX5_doStep_306 : decode cX5_doStep 306 = .ok (.goto 23, 3) := by decide +kernel
set_option maxRecDepth 20000 in
theorem dX5_doStep_309 : decode cX5_doStep 309 = .ok (.aload_n 0, 1) := by decide +kernel
set_option maxRecDepth 20000 in
theorem dX5_doStep_310 : decode cX5_doStep 310 = .ok (.iload_n 1, 1) := by decide +kernel
set_option maxRecDepth 20000 in
theorem dX5_doStep_311 : decode cX5_doStep 311 = .ok (.iload 6, 2) := by decide +kernel
set_option maxRecDepth 20000 in
theorem dX5_doStep_313 : decode cX5_doStep 313 = .ok (.invokevirtual 168, 3) := by decide +kernel
set_option maxRecDepth 20000 in
theorem dX5_doStep_316 : decode cX5_doStep 316 = .ok (.goto 13, 3) := by decide +kernel
set_option maxRecDepth 20000 in
theorem dX5_doStep_319 : decode cX5_doStep 319 = .ok (.aload_n 0, 1) := by decide +kernel
set_option maxRecDepth 20000 in
theorem dX5_doStep_320 : decode cX5_doStep 320 = .ok (.iload_n 1, 1) := by decide +kernel
set_option maxRecDepth 20000 in
theorem dX5_doStep_321 : decode cX5_doStep 321 = .ok (.iload 6, 2) := by decide +kernel
set_option maxRecDepth 20000 in
theorem dX5_doStep_323 : decode cX5_doStep 323 = .ok (.invokevirtual 171, 3) := by decide +kernel
set_option maxRecDepth 20000 in
theorem dX5_doStep_326 : decode cX5_doStep 326 = .ok (.goto 3, 3) := by decide +kernel
set_option maxRecDepth 20000 in
theorem dX5_doStep_329 : decode cX5_doStep 329 = .ok (.iconst 0, 1) := by decide +kernel
set_option maxRecDepth 20000 in
theorem dX5_doStep_330 : decode cX5_doStep 330 = .ok (.ireturn, 1) := by decide +kernel
set_option maxRecDepth 20000 in
theorem dX5_faultOf_0 : decode cX5_faultOf 0 = .ok (.aload_n 0, 1) := by decide +kernel
set_option maxRecDepth 20000 in
theorem dX5_faultOf_1 : decode cX5_faultOf 1 = .ok (.getfield 45, 3) := by decide +kernel
set_option maxRecDepth 20000 in
theorem dX5_faultOf_4 : decode cX5_faultOf 4 = .ok (.sipush 200, 3) := by decide +kernel
set_option maxRecDepth 20000 in
theorem dX5_faultOf_7 : decode cX5_faultOf 7 = .ok (.if_icmp .le 6, 3) := by decide +kernel
set_option maxRecDepth 20000 in
theorem dX5_faultOf_10 : decode cX5_faultOf 10 = .ok (.bipush (-4), 2) := by decide +kernel
set_option maxRecDepth 20000 in
theorem dX5_faultOf_12 : decode cX5_faultOf 12 = .ok (.ireturn, 1) := by decide +kernel
set_option maxRecDepth 20000 in
theorem dX5_faultOf_13 : decode cX5_faultOf 13 = .ok (.aload_n 0, 1) := by decide +kernel
set_option maxRecDepth 20000 in
theorem dX5_faultOf_14 : decode cX5_faultOf 14 = .ok (.getfield 23, 3) := by decide +kernel
set_option maxRecDepth 20000 in
theorem dX5_faultOf_17 : decode cX5_faultOf 17 = .ok (.iload_n 1, 1) := by decide +kernel
set_option maxRecDepth 20000 in
theorem dX5_faultOf_18 : decode cX5_faultOf 18 = .ok (.invokevirtual 139, 3) := by decide +kernel
set_option maxRecDepth 20000 in
theorem dX5_faultOf_21 : decode cX5_faultOf 21 = .ok (.invokestatic 174, 3) := by decide +kernel
set_option maxRecDepth 20000 in
theorem dX5_faultOf_24 : decode cX5_faultOf 24 = .ok (.iconst 1, 1) := by decide +kernel
set_option maxRecDepth 20000 in
theorem dX5_faultOf_25 : decode cX5_faultOf 25 = .ok (.if_icmp .ne 7, 3) := by decide +kernel
set_option maxRecDepth 20000 in
theorem dX5_faultOf_28 : decode cX5_faultOf 28 = .ok (.iconst 1, 1) := by decide +kernel
set_option maxRecDepth 20000 in
theorem dX5_faultOf_29 : decode cX5_faultOf 29 = .ok (.goto 4, 3) := by decide +kernel
set_option maxRecDepth 20000 in
theorem dX5_faultOf_32 : decode cX5_faultOf 32 = .ok (.iconst 0, 1) := by decide +kernel
set_option maxRecDepth 20000 in
theorem dX5_faultOf_33 : decode cX5_faultOf 33 = .ok (.istore 5, 2) := by decide +kernel
set_option maxRecDepth 20000 in
theorem dX5_faultOf_35 : decode cX5_faultOf 35 = .ok (.lload_n 3, 1) := by decide +kernel
set_option maxRecDepth 20000 in
theorem dX5_faultOf_36 : decode cX5_faultOf 36 = .ok (.invokestatic 133, 3) := by decide +kernel
set_option maxRecDepth 20000 in
theorem dX5_faultOf_39 : decode cX5_faultOf 39 = .ok (.istore 6, 2) := by decide +kernel
set_option maxRecDepth 20000 in
theorem dX5_faultOf_41 : decode cX5_faultOf 41 = .ok (.iload_n 2, 1) := by decide +kernel
set_option maxRecDepth 20000 in
theorem dX5_faultOf_42 : decode cX5_faultOf 42 = .ok (.tableswitch 194 2 12 #[58, 194, 194, 104, 194, 194, 160, 85, 85, 135, 177], 58) := by decide +kernel
set_option maxRecDepth 20000 in
theorem dX5_faultOf_100 : decode cX5_faultOf 100 = .ok (.lload_n 3, 1) := by decide +kernel
set_option maxRecDepth 20000 in
theorem dX5_faultOf_101 : decode cX5_faultOf 101 = .ok (.invokestatic 174, 3) := by decide +kernel
set_option maxRecDepth 20000 in
theorem dX5_faultOf_104 : decode cX5_faultOf 104 = .ok (.iconst 1, 1) := by decide +kernel
set_option maxRecDepth 20000 in
theorem dX5_faultOf_105 : decode cX5_faultOf 105 = .ok (.if_icmp .ne 20, 3) := by decide +kernel
set_option maxRecDepth 20000 in
theorem dX5_faultOf_108 : decode cX5_faultOf 108 = .ok (.aload_n 0, 1) := by decide +kernel
set_option maxRecDepth 20000 in
theorem dX5_faultOf_109 : decode cX5_faultOf 109 = .ok (.getfield 52, 3) := by decide +kernel
set_option maxRecDepth 20000 in
theorem dX5_faultOf_112 : decode cX5_faultOf 112 = .ok (.iload 6, 2) := by decide +kernel
set_option maxRecDepth 20000 in
theorem dX5_faultOf_114 : decode cX5_faultOf 114 = .ok (.invokevirtual 177, 3) := by decide +kernel
set_option maxRecDepth 20000 in
theorem dX5_faultOf_117 : decode cX5_faultOf 117 = .ok (.ifCond .ne 8, 3) := by decide +kernel
set_option maxRecDepth 20000 in
theorem dX5_faultOf_120 : decode cX5_faultOf 120 = .ok (.bipush (-3), 2) := by decide +kernel
set_option maxRecDepth 20000 in
theorem dX5_faultOf_122 : decode cX5_faultOf 122 = .ok (.goto 4, 3) := by decide +kernel
set_option maxRecDepth 20000 in
theorem dX5_faultOf_125 : decode cX5_faultOf 125 = .ok (.iconst 0, 1) := by decide +kernel
set_option maxRecDepth 20000 in
theorem dX5_faultOf_126 : decode cX5_faultOf 126 = .ok (.ireturn, 1) := by decide +kernel
set_option maxRecDepth 20000 in
theorem dX5_faultOf_127 : decode cX5_faultOf 127 = .ok (.aload_n 0, 1) := by decide +kernel
set_option maxRecDepth 20000 in
theorem dX5_faultOf_128 : decode cX5_faultOf 128 = .ok (.getfield 52, 3) := by decide +kernel
set_option maxRecDepth 20000 in
theorem dX5_faultOf_131 : decode cX5_faultOf 131 = .ok (.iload 6, 2) := by decide +kernel
set_option maxRecDepth 20000 in
theorem dX5_faultOf_133 : decode cX5_faultOf 133 = .ok (.invokevirtual 177, 3) := by decide +kernel
set_option maxRecDepth 20000 in
theorem dX5_faultOf_136 : decode cX5_faultOf 136 = .ok (.ifCond .eq 7, 3) := by decide +kernel
set_option maxRecDepth 20000 in
theorem dX5_faultOf_139 : decode cX5_faultOf 139 = .ok (.iconst 0, 1) := by decide +kernel
set_option maxRecDepth 20000 in
theorem dX5_faultOf_140 : decode cX5_faultOf 140 = .ok (.goto 5, 3) := by decide +kernel
set_option maxRecDepth 20000 in
theorem dX5_faultOf_143 : decode cX5_faultOf 143 = .ok (.bipush (-3), 2) := by decide +kernel
set_option maxRecDepth 20000 in
theorem dX5_faultOf_145 : decode cX5_faultOf 145 = .ok (.ireturn, 1) := by decide +kernel
set_option maxRecDepth 20000 in
theorem dX5_faultOf_146 : decode cX5_faultOf 146 = .ok (.iload_n 1, 1) := by decide +kernel
set_option maxRecDepth 20000 in
theorem dX5_faultOf_147 : decode cX5_faultOf 147 = .ok (.bipush 100, 2) := by decide +kernel
set_option maxRecDepth 20000 in
theorem dX5_faultOf_149 : decode cX5_faultOf 149 = .ok (.if_icmp .ne 6, 3) := by decide +kernel
set_option maxRecDepth 20000 in
theorem dX5_faultOf_152 : decode cX5_faultOf 152 = .ok (.bipush (-2), 2) := by decide +kernel
set_option maxRecDepth 20000 in
theorem dX5_faultOf_154 : decode cX5_faultOf 154 = .ok (.ireturn, 1) := by decide +kernel
set_option maxRecDepth 20000 in
theorem dX5_faultOf_155 : decode cX5_faultOf 155 = .ok (.iload 5, 2) := by decide +kernel
set_option maxRecDepth 20000 in
theorem dX5_faultOf_157 : decode cX5_faultOf 157 = .ok (.ifCond .ne 18, 3) := by decide +kernel
set_option maxRecDepth 20000 in
theorem dX5_faultOf_160 : decode cX5_faultOf 160 = .ok (.aload_n 0, 1) := by decide +kernel
set_option maxRecDepth 20000 in
theorem dX5_faultOf_161 : decode cX5_faultOf 161 = .ok (.getfield 52, 3) := by decide +kernel
set_option maxRecDepth 20000 in
theorem dX5_faultOf_164 : decode cX5_faultOf 164 = .ok (.invokevirtual 181, 3) := by decide +kernel
set_option maxRecDepth 20000 in
theorem dX5_faultOf_167 : decode cX5_faultOf 167 = .ok (.ifCond .eq 8, 3) := by decide +kernel
set_option maxRecDepth 20000 in
theorem dX5_faultOf_170 : decode cX5_faultOf 170 = .ok (.bipush (-4), 2) := by decide +kernel
set_option maxRecDepth 20000 in
theorem dX5_faultOf_172 : decode cX5_faultOf 172 = .ok (.goto 4, 3) := by decide +kernel
set_option maxRecDepth 20000 in
theorem dX5_faultOf_175 : decode cX5_faultOf 175 = .ok (.iconst 0, 1) := by decide +kernel
set_option maxRecDepth 20000 in
theorem dX5_faultOf_176 : decode cX5_faultOf 176 = .ok (.ireturn, 1) := by decide +kernel
set_option maxRecDepth 20000 in
theorem dX5_faultOf_177 : decode cX5_faultOf 177 = .ok (.iload 5, 2) := by decide +kernel
set_option maxRecDepth 20000 in
theorem dX5_faultOf_179 : decode cX5_faultOf 179 = .ok (.ifCond .ne 6, 3) := by decide +kernel
set_option maxRecDepth 20000 in
theorem dX5_faultOf_182 : decode cX5_faultOf 182 = .ok (.bipush (-3), 2) := by decide +kernel
set_option maxRecDepth 20000 in
theorem dX5_faultOf_184 : decode cX5_faultOf 184 = .ok (.ireturn, 1) := by decide +kernel
set_option maxRecDepth 20000 in
theorem dX5_faultOf_185 : decode cX5_faultOf 185 = .ok (.aload_n 0, 1) := by decide +kernel
set_option maxRecDepth 20000 in
theorem dX5_faultOf_186 : decode cX5_faultOf 186 = .ok (.getfield 52, 3) := by decide +kernel
set_option maxRecDepth 20000 in
theorem dX5_faultOf_189 : decode cX5_faultOf 189 = .ok (.invokevirtual 181, 3) := by decide +kernel
set_option maxRecDepth 20000 in
theorem dX5_faultOf_192 : decode cX5_faultOf 192 = .ok (.ifCond .eq 8, 3) := by decide +kernel
set_option maxRecDepth 20000 in
theorem dX5_faultOf_195 : decode cX5_faultOf 195 = .ok (.bipush (-4), 2) := by decide +kernel
set_option maxRecDepth 20000 in
theorem dX5_faultOf_197 : decode cX5_faultOf 197 = .ok (.goto 4, 3) := by decide +kernel
set_option maxRecDepth 20000 in
theorem dX5_faultOf_200 : decode cX5_faultOf 200 = .ok (.iconst 0, 1) := by decide +kernel
set_option maxRecDepth 20000 in
theorem dX5_faultOf_201 : decode cX5_faultOf 201 = .ok (.ireturn, 1) := by decide +kernel
set_option maxRecDepth 20000 in
theorem dX5_faultOf_202 : decode cX5_faultOf 202 = .ok (.aload_n 0, 1) := by decide +kernel
set_option maxRecDepth 20000 in
theorem dX5_faultOf_203 : decode cX5_faultOf 203 = .ok (.getfield 52, 3) := by decide +kernel
set_option maxRecDepth 20000 in
theorem dX5_faultOf_206 : decode cX5_faultOf 206 = .ok (.invokevirtual 181, 3) := by decide +kernel
set_option maxRecDepth 20000 in
theorem dX5_faultOf_209 : decode cX5_faultOf 209 = .ok (.ifCond .eq 8, 3) := by decide +kernel
set_option maxRecDepth 20000 in
theorem dX5_faultOf_212 : decode cX5_faultOf 212 = .ok (.bipush (-4), 2) := by decide +kernel
set_option maxRecDepth 20000 in
theorem dX5_faultOf_214 : decode cX5_faultOf 214 = .ok (.goto 4, 3) := by decide +kernel
set_option maxRecDepth 20000 in
theorem dX5_faultOf_217 : decode cX5_faultOf 217 = .ok (.iconst 0, 1) := by decide +kernel
set_option maxRecDepth 20000 in
theorem dX5_faultOf_218 : decode cX5_faultOf 218 = .ok (.ireturn, 1) := by decide +kernel
set_option maxRecDepth 20000 in
theorem dX5_faultOf_219 : decode cX5_faultOf 219 = .ok (.aload_n 0, 1) := by decide +kernel
set_option maxRecDepth 20000 in
theorem dX5_faultOf_220 : decode cX5_faultOf 220 = .ok (.getfield 56, 3) := by decide +kernel
set_option maxRecDepth 20000 in
theorem dX5_faultOf_223 : decode cX5_faultOf 223 = .ok (.invokevirtual 185, 3) := by decide +kernel
set_option maxRecDepth 20000 in
theorem dX5_faultOf_226 : decode cX5_faultOf 226 = .ok (.ifCond .eq 8, 3) := by decide +kernel
set_option maxRecDepth 20000 in
theorem dX5_faultOf_229 : decode cX5_faultOf 229 = .ok (.bipush (-4), 2) := by decide +kernel
set_option maxRecDepth 20000 in
theorem dX5_faultOf_231 : decode cX5_faultOf 231 = .ok (.goto 4, 3) := by decide +kernel
set_option maxRecDepth 20000 in
theorem dX5_faultOf_234 : decode cX5_faultOf 234 = .ok (.iconst 0, 1) := by decide +kernel
set_option maxRecDepth 20000 in
theorem dX5_faultOf_235 : decode cX5_faultOf 235 = .ok (.ireturn, 1) := by decide +kernel
set_option maxRecDepth 20000 in
theorem dX5_faultOf_236 : decode cX5_faultOf 236 = .ok (.iconst 0, 1) := by decide +kernel
set_option maxRecDepth 20000 in
theorem dX5_faultOf_237 : decode cX5_faultOf 237 = .ok (.ireturn, 1) := by decide +kernel
set_option maxRecDepth 20000 in
theorem dX5_jumpIfZero_0 : decode cX5_jumpIfZero 0 = .ok (.aload_n 0, 1) := by decide +kernel
set_option maxRecDepth 20000 in
theorem dX5_jumpIfZero_1 : decode cX5_jumpIfZero 1 = .ok (.getfield 23, 3) := by decide +kernel
set_option maxRecDepth 20000 in
theorem dX5_jumpIfZero_4 : decode cX5_jumpIfZero 4 = .ok (.iload_n 1, 1) := by decide +kernel
set_option maxRecDepth 20000 in
theorem dX5_jumpIfZero_5 : decode cX5_jumpIfZero 5 = .ok (.invokevirtual 139, 3) := by decide +kernel
set_option maxRecDepth 20000 in
theorem dX5_jumpIfZero_8 : decode cX5_jumpIfZero 8 = .ok (.iconst 0, 1) := by decide +kernel
set_option maxRecDepth 20000 in
theorem dX5_jumpIfZero_9 : decode cX5_jumpIfZero 9 = .ok (.iconst 0, 1) := by decide +kernel
set_option maxRecDepth 20000 in
theorem dX5_jumpIfZero_10 : decode cX5_jumpIfZero 10 = .ok (.invokestatic 147, 3) := by decide +kernel
set_option maxRecDepth 20000 in
theorem dX5_jumpIfZero_13 : decode cX5_jumpIfZero 13 = .ok (.lcmp, 1) := by decide +kernel
set_option maxRecDepth 20000 in
theorem dX5_jumpIfZero_14 : decode cX5_jumpIfZero 14 = .ok (.ifCond .ne 13, 3) := by decide +kernel
set_option maxRecDepth 20000 in
theorem dX5_jumpIfZero_17 : decode cX5_jumpIfZero 17 = .ok (.aload_n 0, 1) := by decide +kernel
set_option maxRecDepth 20000 in
theorem dX5_jumpIfZero_18 : decode cX5_jumpIfZero 18 = .ok (.getfield 20, 3) := by decide +kernel
set_option maxRecDepth 20000 in
theorem dX5_jumpIfZero_21 : decode cX5_jumpIfZero 21 = .ok (.iload_n 1, 1) := by decide +kernel
set_option maxRecDepth 20000 in
theorem dX5_jumpIfZero_22 : decode cX5_jumpIfZero 22 = .ok (.iload_n 2, 1) := by decide +kernel
set_option maxRecDepth 20000 in
theorem dX5_jumpIfZero_23 : decode cX5_jumpIfZero 23 = .ok (.i2l, 1) := by decide +kernel
set_option maxRecDepth 20000 in
theorem dX5_jumpIfZero_24 : decode cX5_jumpIfZero 24 = .ok (.invokevirtual 78, 3) := by decide +kernel
set_option maxRecDepth 20000 in
theorem dX5_jumpIfZero_27 : decode cX5_jumpIfZero 27 = .ok (.return_, 1) := by decide +kernel
set_option maxRecDepth 20000 in
theorem dX5_jumpIfAbove_0 : decode cX5_jumpIfAbove 0 = .ok (.aload_n 0, 1) := by decide +kernel
set_option maxRecDepth 20000 in
theorem dX5_jumpIfAbove_1 : decode cX5_jumpIfAbove 1 = .ok (.getfield 23, 3) := by decide +kernel
set_option maxRecDepth 20000 in
theorem dX5_jumpIfAbove_4 : decode cX5_jumpIfAbove 4 = .ok (.iload_n 1, 1) := by decide +kernel
set_option maxRecDepth 20000 in
theorem dX5_jumpIfAbove_5 : decode cX5_jumpIfAbove 5 = .ok (.invokevirtual 139, 3) := by decide +kernel
set_option maxRecDepth 20000 in
theorem dX5_jumpIfAbove_8 : decode cX5_jumpIfAbove 8 = .ok (.invokestatic 133, 3) := by decide +kernel
set_option maxRecDepth 20000 in
theorem dX5_jumpIfAbove_11 : decode cX5_jumpIfAbove 11 = .ok (.istore_n 3, 1) := by decide +kernel
set_option maxRecDepth 20000 in
theorem dX5_jumpIfAbove_12 : decode cX5_jumpIfAbove 12 = .ok (.aload_n 0, 1) := by decide +kernel
set_option maxRecDepth 20000 in
theorem dX5_jumpIfAbove_13 : decode cX5_jumpIfAbove 13 = .ok (.getfield 23, 3) := by decide +kernel
set_option maxRecDepth 20000 in
theorem dX5_jumpIfAbove_16 : decode cX5_jumpIfAbove 16 = .ok (.iload_n 1, 1) := by decide +kernel
set_option maxRecDepth 20000 in
theorem dX5_jumpIfAbove_17 : decode cX5_jumpIfAbove 17 = .ok (.invokevirtual 139, 3) := by decide +kernel
set_option maxRecDepth 20000 in
theorem dX5_jumpIfAbove_20 : decode cX5_jumpIfAbove 20 = .ok (.invokestatic 174, 3) := by decide +kernel
set_option maxRecDepth 20000 in
theorem dX5_jumpIfAbove_23 : decode cX5_jumpIfAbove 23 = .ok (.ifCond .ne 32, 3) := by decide +kernel
set_option maxRecDepth 20000 in
theorem dX5_jumpIfAbove_26 : decode cX5_jumpIfAbove 26 = .ok (.iload_n 3, 1) := by decide +kernel
set_option maxRecDepth 20000 in
theorem dX5_jumpIfAbove_27 : decode cX5_jumpIfAbove 27 = .ok (.ifCond .le 28, 3) := by decide +kernel
set_option maxRecDepth 20000 in
theorem dX5_jumpIfAbove_30 : decode cX5_jumpIfAbove 30 = .ok (.aload_n 0, 1) := by decide +kernel
set_option maxRecDepth 20000 in
theorem dX5_jumpIfAbove_31 : decode cX5_jumpIfAbove 31 = .ok (.getfield 23, 3) := by decide +kernel
set_option maxRecDepth 20000 in
theorem dX5_jumpIfAbove_34 : decode cX5_jumpIfAbove 34 = .ok (.iload_n 1, 1) := by decide +kernel
set_option maxRecDepth 20000 in
theorem dX5_jumpIfAbove_35 : decode cX5_jumpIfAbove 35 = .ok (.iconst 0, 1) := by decide +kernel
set_option maxRecDepth 20000 in
theorem dX5_jumpIfAbove_36 : decode cX5_jumpIfAbove 36 = .ok (.iload_n 3, 1) := by decide +kernel
set_option maxRecDepth 20000 in
theorem dX5_jumpIfAbove_37 : decode cX5_jumpIfAbove 37 = .ok (.iconst 1, 1) := by decide +kernel
set_option maxRecDepth 20000 in
theorem dX5_jumpIfAbove_38 : decode cX5_jumpIfAbove 38 = .ok (.isub, 1) := by decide +kernel
set_option maxRecDepth 20000 in
theorem dX5_jumpIfAbove_39 : decode cX5_jumpIfAbove 39 = .ok (.invokestatic 147, 3) := by decide +kernel
set_option maxRecDepth 20000 in
theorem dX5_jumpIfAbove_42 : decode cX5_jumpIfAbove 42 = .ok (.invokevirtual 78, 3) := by decide +kernel
set_option maxRecDepth 20000 in
theorem dX5_jumpIfAbove_45 : decode cX5_jumpIfAbove 45 = .ok (.aload_n 0, 1) := by decide +kernel
set_option maxRecDepth 20000 in
theorem dX5_jumpIfAbove_46 : decode cX5_jumpIfAbove 46 = .ok (.getfield 20, 3) := by decide +kernel
set_option maxRecDepth 20000 in
theorem dX5_jumpIfAbove_49 : decode cX5_jumpIfAbove 49 = .ok (.iload_n 1, 1) := by decide +kernel
set_option maxRecDepth 20000 in
theorem dX5_jumpIfAbove_50 : decode cX5_jumpIfAbove 50 = .ok (.iload_n 2, 1) := by decide +kernel
set_option maxRecDepth 20000 in
theorem dX5_jumpIfAbove_51 : decode cX5_jumpIfAbove 51 = .ok (.i2l, 1) := by decide +kernel
set_option maxRecDepth 20000 in
theorem dX5_jumpIfAbove_52 : decode cX5_jumpIfAbove 52 = .ok (.invokevirtual 78, 3) := by decide +kernel
set_option maxRecDepth 20000 in
theorem dX5_jumpIfAbove_55 : decode cX5_jumpIfAbove 55 = .ok (.return_, 1) := by decide +kernel
set_option maxRecDepth 20000 in
theorem dX5_giveZero_0 : decode cX5_giveZero 0 = .ok (.aload_n 0, 1) := by decide +kernel
set_option maxRecDepth 20000 in
theorem dX5_giveZero_1 : decode cX5_giveZero 1 = .ok (.getfield 23, 3) := by decide +kernel
set_option maxRecDepth 20000 in
theorem dX5_giveZero_4 : decode cX5_giveZero 4 = .ok (.iload_n 1, 1) := by decide +kernel
set_option maxRecDepth 20000 in
theorem dX5_giveZero_5 : decode cX5_giveZero 5 = .ok (.iconst 0, 1) := by decide +kernel
set_option maxRecDepth 20000 in
theorem dX5_giveZero_6 : decode cX5_giveZero 6 = .ok (.iconst 0, 1) := by decide +kernel
set_option maxRecDepth 20000 in
theorem dX5_giveZero_7 : decode cX5_giveZero 7 = .ok (.invokestatic 147, 3) := by decide +kernel
set_option maxRecDepth 20000 in
theorem dX5_giveZero_10 : decode cX5_giveZero 10 = .ok (.invokevirtual 78, 3) := by decide +kernel
set_option maxRecDepth 20000 in
theorem dX5_giveZero_13 : decode cX5_giveZero 13 = .ok (.iconst 1, 1) := by decide +kernel
set_option maxRecDepth 20000 in
theorem dX5_giveZero_14 : decode cX5_giveZero 14 = .ok (.ireturn, 1) := by decide +kernel
set_option maxRecDepth 20000 in
theorem dX5_leaveTry_0 : decode cX5_leaveTry 0 = .ok (.aload_n 0, 1) := by decide +kernel
set_option maxRecDepth 20000 in
theorem dX5_leaveTry_1 : decode cX5_leaveTry 1 = .ok (.getfield 48, 3) := by decide +kernel
set_option maxRecDepth 20000 in
theorem dX5_leaveTry_4 : decode cX5_leaveTry 4 = .ok (.aload_n 0, 1) := by decide +kernel
set_option maxRecDepth 20000 in
theorem dX5_leaveTry_5 : decode cX5_leaveTry 5 = .ok (.getfield 14, 3) := by decide +kernel
set_option maxRecDepth 20000 in
theorem dX5_leaveTry_8 : decode cX5_leaveTry 8 = .ok (.iload_n 1, 1) := by decide +kernel
set_option maxRecDepth 20000 in
theorem dX5_leaveTry_9 : decode cX5_leaveTry 9 = .ok (.invokevirtual 68, 3) := by decide +kernel
set_option maxRecDepth 20000 in
theorem dX5_leaveTry_12 : decode cX5_leaveTry 12 = .ok (.iload_n 2, 1) := by decide +kernel
set_option maxRecDepth 20000 in
theorem dX5_leaveTry_13 : decode cX5_leaveTry 13 = .ok (.invokevirtual 186, 3) := by decide +kernel
set_option maxRecDepth 20000 in
theorem dX5_leaveTry_16 : decode cX5_leaveTry 16 = .ok (.istore_n 3, 1) := by decide +kernel
set_option maxRecDepth 20000 in
theorem dX5_leaveTry_17 : decode cX5_leaveTry 17 = .ok (.iload_n 3, 1) := by decide +kernel
set_option maxRecDepth 20000 in
theorem dX5_leaveTry_18 : decode cX5_leaveTry 18 = .ok (.iconst (-1), 1) := by decide +kernel
set_option maxRecDepth 20000 in
theorem dX5_leaveTry_19 : decode cX5_leaveTry 19 = .ok (.if_icmp .ne 5, 3) := by decide +kernel
set_option maxRecDepth 20000 in
theorem dX5_leaveTry_22 : decode cX5_leaveTry 22 = .ok (.iconst 0, 1) := by decide +kernel
set_option maxRecDepth 20000 in
theorem dX5_leaveTry_23 : decode cX5_leaveTry 23 = .ok (.ireturn, 1) := by decide +kernel
set_option maxRecDepth 20000 in
theorem dX5_leaveTry_24 : decode cX5_leaveTry 24 = .ok (.aload_n 0, 1) := by decide +kernel
set_option maxRecDepth 20000 in
theorem dX5_leaveTry_25 : decode cX5_leaveTry 25 = .ok (.getfield 20, 3) := by decide +kernel
set_option maxRecDepth 20000 in
theorem dX5_leaveTry_28 : decode cX5_leaveTry 28 = .ok (.iload_n 1, 1) := by decide +kernel
set_option maxRecDepth 20000 in
theorem dX5_leaveTry_29 : decode cX5_leaveTry 29 = .ok (.iload_n 3, 1) := by decide +kernel
set_option maxRecDepth 20000 in
theorem dX5_leaveTry_30 : decode cX5_leaveTry 30 = .ok (.i2l, 1) := by decide +kernel
set_option maxRecDepth 20000 in
theorem dX5_leaveTry_31 : decode cX5_leaveTry 31 = .ok (.invokevirtual 78, 3) := by decide +kernel
set_option maxRecDepth 20000 in
theorem dX5_leaveTry_34 : decode cX5_leaveTry 34 = .ok (.iconst 1, 1) := by decide +kernel
set_option maxRecDepth 20000 in
theorem dX5_leaveTry_35 : decode cX5_leaveTry 35 = .ok (.ireturn, 1) := by decide +kernel
set_option maxRecDepth 20000 in
theorem dX5_stop_0 : decode cX5_stop 0 = .ok (.aload_n 0, 1) := by decide +kernel
set_option maxRecDepth 20000 in
theorem dX5_stop_1 : decode cX5_stop 1 = .ok (.getfield 29, 3) := by decide +kernel
set_option maxRecDepth 20000 in
theorem dX5_stop_4 : decode cX5_stop 4 = .ok (.iload_n 1, 1) := by decide +kernel
set_option maxRecDepth 20000 in
theorem dX5_stop_5 : decode cX5_stop 5 = .ok (.lconst 1, 1) := by decide +kernel
set_option maxRecDepth 20000 in
theorem dX5_stop_6 : decode cX5_stop 6 = .ok (.invokevirtual 78, 3) := by decide +kernel
set_option maxRecDepth 20000 in
theorem dX5_stop_9 : decode cX5_stop 9 = .ok (.aload_n 0, 1) := by decide +kernel
set_option maxRecDepth 20000 in
theorem dX5_stop_10 : decode cX5_stop 10 = .ok (.aload_n 0, 1) := by decide +kernel
set_option maxRecDepth 20000 in
theorem dX5_stop_11 : decode cX5_stop 11 = .ok (.getfield 26, 3) := by decide +kernel
set_option maxRecDepth 20000 in
theorem dX5_stop_14 : decode cX5_stop 14 = .ok (.iload_n 1, 1) := by decide +kernel
set_option maxRecDepth 20000 in
theorem dX5_stop_15 : decode cX5_stop 15 = .ok (.invokevirtual 68, 3) := by decide +kernel
set_option maxRecDepth 20000 in
theorem dX5_stop_18 : decode cX5_stop 18 = .ok (.putfield 38, 3) := by decide +kernel
set_option maxRecDepth 20000 in
theorem dX5_stop_21 : decode cX5_stop 21 = .ok (.aload_n 0, 1) := by decide +kernel
set_option maxRecDepth 20000 in
theorem dX5_stop_22 : decode cX5_stop 22 = .ok (.getfield 52, 3) := by decide +kernel
set_option maxRecDepth 20000 in
theorem dX5_stop_25 : decode cX5_stop 25 = .ok (.aload_n 0, 1) := by decide +kernel
set_option maxRecDepth 20000 in
theorem dX5_stop_26 : decode cX5_stop 26 = .ok (.getfield 52, 3) := by decide +kernel
set_option maxRecDepth 20000 in
theorem dX5_stop_29 : decode cX5_stop 29 = .ok (.aload_n 0, 1) := by decide +kernel
set_option maxRecDepth 20000 in
theorem dX5_stop_30 : decode cX5_stop 30 = .ok (.getfield 23, 3) := by decide +kernel
set_option maxRecDepth 20000 in
theorem dX5_stop_33 : decode cX5_stop 33 = .ok (.iload_n 1, 1) := by decide +kernel
set_option maxRecDepth 20000 in
theorem dX5_stop_34 : decode cX5_stop 34 = .ok (.invokevirtual 139, 3) := by decide +kernel
set_option maxRecDepth 20000 in
theorem dX5_stop_37 : decode cX5_stop 37 = .ok (.invokevirtual 189, 3) := by decide +kernel
set_option maxRecDepth 20000 in
theorem dX5_stop_40 : decode cX5_stop 40 = .ok (.iload_n 1, 1) := by decide +kernel
set_option maxRecDepth 20000 in
theorem dX5_stop_41 : decode cX5_stop 41 = .ok (.iconst 3, 1) := by decide +kernel
set_option maxRecDepth 20000 in
theorem dX5_stop_42 : decode cX5_stop 42 = .ok (.invokestatic 82, 3) := by decide +kernel
set_option maxRecDepth 20000 in
theorem dX5_stop_45 : decode cX5_stop 45 = .ok (.invokevirtual 86, 3) := by decide +kernel
set_option maxRecDepth 20000 in
theorem dX5_stop_48 : decode cX5_stop 48 = .ok (.return_, 1) := by decide +kernel
set_option maxRecDepth 20000 in
theorem dX5_end_0 : decode cX5_end 0 = .ok (.aload_n 0, 1) := by decide +kernel
set_option maxRecDepth 20000 in
theorem dX5_end_1 : decode cX5_end 1 = .ok (.getfield 52, 3) := by decide +kernel
set_option maxRecDepth 20000 in
theorem dX5_end_4 : decode cX5_end 4 = .ok (.iload_n 1, 1) := by decide +kernel
set_option maxRecDepth 20000 in
theorem dX5_end_5 : decode cX5_end 5 = .ok (.bipush 100, 2) := by decide +kernel
set_option maxRecDepth 20000 in
theorem dX5_end_7 : decode cX5_end 7 = .ok (.if_icmp .ne 10, 3) := by decide +kernel
set_option maxRecDepth 20000 in
theorem dX5_end_10 : decode cX5_end 10 = .ok (.aload_n 0, 1) := by decide +kernel
set_option maxRecDepth 20000 in
theorem dX5_end_11 : decode cX5_end 11 = .ok (.getfield 42, 3) := by decide +kernel
set_option maxRecDepth 20000 in
theorem dX5_end_14 : decode cX5_end 14 = .ok (.goto 4, 3) := by decide +kernel
set_option maxRecDepth 20000 in
theorem dX5_end_17 : decode cX5_end 17 = .ok (.iload_n 1, 1) := by decide +kernel
set_option maxRecDepth 20000 in
theorem dX5_end_18 : decode cX5_end 18 = .ok (.iload_n 2, 1) := by decide +kernel
set_option maxRecDepth 20000 in
theorem dX5_end_19 : decode cX5_end 19 = .ok (.aload_n 0, 1) := by decide +kernel
set_option maxRecDepth 20000 in
theorem dX5_end_20 : decode cX5_end 20 = .ok (.getfield 23, 3) := by decide +kernel
set_option maxRecDepth 20000 in
theorem dX5_end_23 : decode cX5_end 23 = .ok (.iload_n 1, 1) := by decide +kernel
set_option maxRecDepth 20000 in
theorem dX5_end_24 : decode cX5_end 24 = .ok (.invokevirtual 139, 3) := by decide +kernel
set_option maxRecDepth 20000 in
theorem dX5_end_27 : decode cX5_end 27 = .ok (.iconst 0, 1) := by decide +kernel
set_option maxRecDepth 20000 in
theorem dX5_end_28 : decode cX5_end 28 = .ok (.invokevirtual 90, 3) := by decide +kernel
set_option maxRecDepth 20000 in
theorem dX5_end_31 : decode cX5_end 31 = .ok (.aload_n 0, 1) := by decide +kernel
set_option maxRecDepth 20000 in
theorem dX5_end_32 : decode cX5_end 32 = .ok (.aload_n 0, 1) := by decide +kernel
set_option maxRecDepth 20000 in
theorem dX5_end_33 : decode cX5_end 33 = .ok (.getfield 26, 3) := by decide +kernel
set_option maxRecDepth 20000 in
theorem dX5_end_36 : decode cX5_end 36 = .ok (.iload_n 1, 1) := by decide +kernel
set_option maxRecDepth 20000 in
theorem dX5_end_37 : decode cX5_end 37 = .ok (.invokevirtual 68, 3) := by decide +kernel
set_option maxRecDepth 20000 in
theorem dX5_end_40 : decode cX5_end 40 = .ok (.putfield 38, 3) := by decide +kernel
set_option maxRecDepth 20000 in
theorem dX5_end_43 : decode cX5_end 43 = .ok (.return_, 1) := by decide +kernel
set_option maxRecDepth 20000 in
theorem dX6_init_0 : decode cX6_init 0 = .ok (.aload_n 0, 1) := by decide +kernel
set_option maxRecDepth 20000 in
theorem dX6_init_1 : decode cX6_init 1 = .ok (.invokespecial 3, 3) := by decide +kernel
set_option maxRecDepth 20000 in
theorem dX6_init_4 : decode cX6_init 4 = .ok (.aload_n 0, 1) := by decide +kernel
set_option maxRecDepth 20000 in
theorem dX6_init_5 : decode cX6_init 5 = .ok (.new 9, 3) := by decide +kernel
set_option maxRecDepth 20000 in
theorem dX6_init_8 : decode cX6_init 8 = .ok (.dup, 1) := by decide +kernel
set_option maxRecDepth 20000 in
theorem dX6_init_9 : decode cX6_init 9 = .ok (.bipush 32, 2) := by decide +kernel
set_option maxRecDepth 20000 in
theorem dX6_init_11 : decode cX6_init 11 = .ok (.invokespecial 11, 3) := by decide +kernel
set_option maxRecDepth 20000 in
theorem dX6_init_14 : decode cX6_init 14 = .ok (.putfield 14, 3) := by decide +kernel
set_option maxRecDepth 20000 in
theorem dX6_init_17 : decode cX6_init 17 = .ok (.aload_n 0, 1) := by decide +kernel
set_option maxRecDepth 20000 in
theorem dX6_init_18 : decode cX6_init 18 = .ok (.new 9, 3) := by decide +kernel
set_option maxRecDepth 20000 in
theorem dX6_init_21 : decode cX6_init 21 = .ok (.dup, 1) := by decide +kernel
set_option maxRecDepth 20000 in
theorem dX6_init_22 : decode cX6_init 22 = .ok (.bipush 32, 2) := by decide +kernel
set_option maxRecDepth 20000 in
theorem dX6_init_24 : decode cX6_init 24 = .ok (.invokespecial 11, 3) := by decide +kernel
set_option maxRecDepth 20000 in
theorem dX6_init_27 : decode cX6_init 27 = .ok (.putfield 20, 3) := by decide +kernel
set_option maxRecDepth 20000 in
theorem dX6_init_30 : decode cX6_init 30 = .ok (.aload_n 0, 1) := by decide +kernel
set_option maxRecDepth 20000 in
theorem dX6_init_31 : decode cX6_init 31 = .ok (.new 9, 3) := by decide +kernel
set_option maxRecDepth 20000 in
theorem dX6_init_34 : decode cX6_init 34 = .ok (.dup, 1) := by decide +kernel
set_option maxRecDepth 20000 in
theorem dX6_init_35 : decode cX6_init 35 = .ok (.bipush 32, 2) := by decide +kernel
set_option maxRecDepth 20000 in
theorem dX6_init_37 : decode cX6_init 37 = .ok (.invokespecial 11, 3) := by decide +kernel
set_option maxRecDepth 20000 in
theorem dX6_init_40 : decode cX6_init 40 = .ok (.putfield 23, 3) := by decide +kernel
set_option maxRecDepth 20000 in
theorem dX6_init_43 : decode cX6_init 43 = .ok (.aload_n 0, 1) := by decide +kernel
set_option maxRecDepth 20000 in
theorem dX6_init_44 : decode cX6_init 44 = .ok (.iconst 0, 1) := by decide +kernel
set_option maxRecDepth 20000 in
theorem dX6_init_45 : decode cX6_init 45 = .ok (.putfield 26, 3) := by decide +kernel
set_option maxRecDepth 20000 in
theorem dX6_init_48 : decode cX6_init 48 = .ok (.aload_n 0, 1) := by decide +kernel
set_option maxRecDepth 20000 in
theorem dX6_init_49 : decode cX6_init 49 = .ok (.iconst 0, 1) := by decide +kernel
set_option maxRecDepth 20000 in
theorem dX6_init_50 : decode cX6_init 50 = .ok (.putfield 30, 3) := by decide +kernel
set_option maxRecDepth 20000 in
theorem dX6_init_53 : decode cX6_init 53 = .ok (.return_, 1) := by decide +kernel
set_option maxRecDepth 20000 in
theorem dX6_clear_0 : decode cX6_clear 0 = .ok (.aload_n 0, 1) := by decide +kernel
set_option maxRecDepth 20000 in
theorem dX6_clear_1 : decode cX6_clear 1 = .ok (.iconst 0, 1) := by decide +kernel
set_option maxRecDepth 20000 in
theorem dX6_clear_2 : decode cX6_clear 2 = .ok (.putfield 26, 3) := by decide +kernel
set_option maxRecDepth 20000 in
theorem dX6_clear_5 : decode cX6_clear 5 = .ok (.aload_n 0, 1) := by decide +kernel
set_option maxRecDepth 20000 in
theorem dX6_clear_6 : decode cX6_clear 6 = .ok (.iconst 0, 1) := by decide +kernel
set_option maxRecDepth 20000 in
theorem dX6_clear_7 : decode cX6_clear 7 = .ok (.putfield 30, 3) := by decide +kernel
set_option maxRecDepth 20000 in
theorem dX6_clear_10 : decode cX6_clear 10 = .ok (.return_, 1) := by decide +kernel
set_option maxRecDepth 20000 in
theorem dX6_size_0 : decode cX6_size 0 = .ok (.aload_n 0, 1) := by decide +kernel
set_option maxRecDepth 20000 in
theorem dX6_size_1 : decode cX6_size 1 = .ok (.getfield 26, 3) := by decide +kernel
set_option maxRecDepth 20000 in
theorem dX6_size_4 : decode cX6_size 4 = .ok (.ireturn, 1) := by decide +kernel
set_option maxRecDepth 20000 in
theorem dX6_time_0 : decode cX6_time 0 = .ok (.aload_n 0, 1) := by decide +kernel
set_option maxRecDepth 20000 in
theorem dX6_time_1 : decode cX6_time 1 = .ok (.getfield 30, 3) := by decide +kernel
set_option maxRecDepth 20000 in
theorem dX6_time_4 : decode cX6_time 4 = .ok (.ireturn, 1) := by decide +kernel
set_option maxRecDepth 20000 in
theorem dX6_isFull_0 : decode cX6_isFull 0 = .ok (.aload_n 0, 1) := by decide +kernel
set_option maxRecDepth 20000 in
theorem dX6_isFull_1 : decode cX6_isFull 1 = .ok (.getfield 26, 3) := by decide +kernel
set_option maxRecDepth 20000 in
theorem dX6_isFull_4 : decode cX6_isFull 4 = .ok (.bipush 32, 2) := by decide +kernel
set_option maxRecDepth 20000 in
theorem dX6_isFull_6 : decode cX6_isFull 6 = .ok (.if_icmp .lt 7, 3) := by decide +kernel
set_option maxRecDepth 20000 in
theorem dX6_isFull_9 : decode cX6_isFull 9 = .ok (.iconst 1, 1) := by decide +kernel
set_option maxRecDepth 20000 in
theorem dX6_isFull_10 : decode cX6_isFull 10 = .ok (.goto 4, 3) := by decide +kernel
set_option maxRecDepth 20000 in
theorem dX6_isFull_13 : decode cX6_isFull 13 = .ok (.iconst 0, 1) := by decide +kernel
set_option maxRecDepth 20000 in
theorem dX6_isFull_14 : decode cX6_isFull 14 = .ok (.ireturn, 1) := by decide +kernel
set_option maxRecDepth 20000 in
theorem dX6_add_0 : decode cX6_add 0 = .ok (.aload_n 0, 1) := by decide +kernel
set_option maxRecDepth 20000 in
theorem dX6_add_1 : decode cX6_add 1 = .ok (.getfield 14, 3) := by decide +kernel
set_option maxRecDepth 20000 in
theorem dX6_add_4 : decode cX6_add 4 = .ok (.aload_n 0, 1) := by decide +kernel
set_option maxRecDepth 20000 in
theorem dX6_add_5 : decode cX6_add 5 = .ok (.getfield 26, 3) := by decide +kernel
set_option maxRecDepth 20000 in
theorem dX6_add_8 : decode cX6_add 8 = .ok (.iload_n 1, 1) := by decide +kernel
set_option maxRecDepth 20000 in
theorem dX6_add_9 : decode cX6_add 9 = .ok (.i2l, 1) := by decide +kernel
set_option maxRecDepth 20000 in
theorem dX6_add_10 : decode cX6_add 10 = .ok (.invokevirtual 33, 3) := by decide +kernel
set_option maxRecDepth 20000 in
theorem dX6_add_13 : decode cX6_add 13 = .ok (.aload_n 0, 1) := by decide +kernel
set_option maxRecDepth 20000 in
theorem dX6_add_14 : decode cX6_add 14 = .ok (.getfield 20, 3) := by decide +kernel
set_option maxRecDepth 20000 in
theorem dX6_add_17 : decode cX6_add 17 = .ok (.aload_n 0, 1) := by decide +kernel
set_option maxRecDepth 20000 in
theorem dX6_add_18 : decode cX6_add 18 = .ok (.getfield 26, 3) := by decide +kernel
set_option maxRecDepth 20000 in
theorem dX6_add_21 : decode cX6_add 21 = .ok (.lload_n 2, 1) := by decide +kernel
set_option maxRecDepth 20000 in
theorem dX6_add_22 : decode cX6_add 22 = .ok (.invokevirtual 33, 3) := by decide +kernel
set_option maxRecDepth 20000 in
theorem dX6_add_25 : decode cX6_add 25 = .ok (.aload_n 0, 1) := by decide +kernel
set_option maxRecDepth 20000 in
theorem dX6_add_26 : decode cX6_add 26 = .ok (.getfield 23, 3) := by decide +kernel
set_option maxRecDepth 20000 in
theorem dX6_add_29 : decode cX6_add 29 = .ok (.aload_n 0, 1) := by decide +kernel
set_option maxRecDepth 20000 in
theorem dX6_add_30 : decode cX6_add 30 = .ok (.getfield 26, 3) := by decide +kernel
set_option maxRecDepth 20000 in
theorem dX6_add_33 : decode cX6_add 33 = .ok (.aload_n 0, 1) := by decide +kernel
set_option maxRecDepth 20000 in
theorem dX6_add_34 : decode cX6_add 34 = .ok (.getfield 30, 3) := by decide +kernel
set_option maxRecDepth 20000 in
theorem dX6_add_37 : decode cX6_add 37 = .ok (.iload 4, 2) := by decide +kernel
set_option maxRecDepth 20000 in
theorem dX6_add_39 : decode cX6_add 39 = .ok (.iadd, 1) := by decide +kernel
set_option maxRecDepth 20000 in
theorem dX6_add_40 : decode cX6_add 40 = .ok (.i2l, 1) := by decide +kernel
set_option maxRecDepth 20000 in
theorem dX6_add_41 : decode cX6_add 41 = .ok (.invokevirtual 33, 3) := by decide +kernel
set_option maxRecDepth 20000 in
theorem dX6_add_44 : decode cX6_add 44 = .ok (.aload_n 0, 1) := by decide +kernel
set_option maxRecDepth 20000 in
theorem dX6_add_45 : decode cX6_add 45 = .ok (.dup, 1) := by decide +kernel
set_option maxRecDepth 20000 in
theorem dX6_add_46 : decode cX6_add 46 = .ok (.getfield 26, 3) := by decide +kernel
set_option maxRecDepth 20000 in
theorem dX6_add_49 : decode cX6_add 49 = .ok (.iconst 1, 1) := by decide +kernel
set_option maxRecDepth 20000 in
theorem dX6_add_50 : decode cX6_add 50 = .ok (.iadd, 1) := by decide +kernel
set_option maxRecDepth 20000 in
theorem dX6_add_51 : decode cX6_add 51 = .ok (.putfield 26, 3) := by decide +kernel
set_option maxRecDepth 20000 in
theorem dX6_add_54 : decode cX6_add 54 = .ok (.aload_n 0, 1) := by decide +kernel
set_option maxRecDepth 20000 in
theorem dX6_add_55 : decode cX6_add 55 = .ok (.getfield 26, 3) := by decide +kernel
set_option maxRecDepth 20000 in
theorem dX6_add_58 : decode cX6_add 58 = .ok (.ireturn, 1) := by decide +kernel
set_option maxRecDepth 20000 in
theorem dX6_dueFirst_0 : decode cX6_dueFirst 0 = .ok (.iconst 0, 1) := by decide +kernel
set_option maxRecDepth 20000 in
theorem dX6_dueFirst_1 : decode cX6_dueFirst 1 = .ok (.istore_n 1, 1) := by decide +kernel
set_option maxRecDepth 20000 in
theorem dX6_dueFirst_2 : decode cX6_dueFirst 2 = .ok (.iconst 1, 1) := by decide +kernel
set_option maxRecDepth 20000 in
theorem dX6_dueFirst_3 : decode cX6_dueFirst 3 = .ok (.istore_n 2, 1) := by decide +kernel
set_option maxRecDepth 20000 in
theorem dX6_dueFirst_4 : decode cX6_dueFirst 4 = .ok (.iload_n 2, 1) := by decide +kernel
set_option maxRecDepth 20000 in
theorem dX6_dueFirst_5 : decode cX6_dueFirst 5 = .ok (.aload_n 0, 1) := by decide +kernel
set_option maxRecDepth 20000 in
theorem dX6_dueFirst_6 : decode cX6_dueFirst 6 = .ok (.getfield 26, 3) := by decide +kernel
set_option maxRecDepth 20000 in
theorem dX6_dueFirst_9 : decode cX6_dueFirst 9 = .ok (.if_icmp .ge 30, 3) := by decide +kernel
set_option maxRecDepth 20000 in
theorem dX6_dueFirst_12 : decode cX6_dueFirst 12 = .ok (.aload_n 0, 1) := by decide +kernel
set_option maxRecDepth 20000 in
theorem dX6_dueFirst_13 : decode cX6_dueFirst 13 = .ok (.getfield 23, 3) := by decide +kernel
set_option maxRecDepth 20000 in
theorem dX6_dueFirst_16 : decode cX6_dueFirst 16 = .ok (.iload_n 2, 1) := by decide +kernel
set_option maxRecDepth 20000 in
theorem dX6_dueFirst_17 : decode cX6_dueFirst 17 = .ok (.invokevirtual 37, 3) := by decide +kernel
set_option maxRecDepth 20000 in
theorem dX6_dueFirst_20 : decode cX6_dueFirst 20 = .ok (.aload_n 0, 1) := by decide +kernel
set_option maxRecDepth 20000 in
theorem dX6_dueFirst_21 : decode cX6_dueFirst 21 = .ok (.getfield 23, 3) := by decide +kernel
set_option maxRecDepth 20000 in
theorem dX6_dueFirst_24 : decode cX6_dueFirst 24 = .ok (.iload_n 1, 1) := by decide +kernel
set_option maxRecDepth 20000 in
theorem dX6_dueFirst_25 : decode cX6_dueFirst 25 = .ok (.invokevirtual 37, 3) := by decide +kernel
set_option maxRecDepth 20000 in
theorem dX6_dueFirst_28 : decode cX6_dueFirst 28 = .ok (.if_icmp .ge 5, 3) := by decide +kernel
set_option maxRecDepth 20000 in
theorem dX6_dueFirst_31 : decode cX6_dueFirst 31 = .ok (.iload_n 2, 1) := by decide +kernel
set_option maxRecDepth 20000 in
theorem dX6_dueFirst_32 : decode cX6_dueFirst 32 = .ok (.istore_n 1, 1) := by decide +kernel
set_option maxRecDepth 20000 in
theorem dX6_dueFirst_33 : decode cX6_dueFirst 33 = .ok (.iinc 2 1, 3) := by decide +kernel
set_option maxRecDepth 20000 in
theorem dX6_dueFirst_36 : decode cX6_dueFirst 36 = .ok (.goto (-32), 3) := by decide +kernel
set_option maxRecDepth 20000 in
theorem dX6_dueFirst_39 : decode cX6_dueFirst 39 = .ok (.iload_n 1, 1) := by decide +kernel
set_option maxRecDepth 20000 in
theorem dX6_dueFirst_40 : decode cX6_dueFirst 40 = .ok (.ireturn, 1) := by decide +kernel
set_option maxRecDepth 20000 in
theorem dX6_functionOf_0 : decode cX6_functionOf 0 = .ok (.aload_n 0, 1) := by decide +kernel
set_option maxRecDepth 20000 in
theorem dX6_functionOf_1 : decode cX6_functionOf 1 = .ok (.getfield 14, 3) := by decide +kernel
set_option maxRecDepth 20000 in
theorem dX6_functionOf_4 : decode cX6_functionOf 4 = .ok (.iload_n 1, 1) := by decide +kernel
set_option maxRecDepth 20000 in
theorem dX6_functionOf_5 : decode cX6_functionOf 5 = .ok (.invokevirtual 37, 3) := by decide +kernel
set_option maxRecDepth 20000 in
theorem dX6_functionOf_8 : decode cX6_functionOf 8 = .ok (.ireturn, 1) := by decide +kernel
set_option maxRecDepth 20000 in
theorem dX6_valueOf_0 : decode cX6_valueOf 0 = .ok (.aload_n 0, 1) := by decide +kernel
set_option maxRecDepth 20000 in
theorem dX6_valueOf_1 : decode cX6_valueOf 1 = .ok (.getfield 20, 3) := by decide +kernel
set_option maxRecDepth 20000 in
theorem dX6_valueOf_4 : decode cX6_valueOf 4 = .ok (.iload_n 1, 1) := by decide +kernel
set_option maxRecDepth 20000 in
theorem dX6_valueOf_5 : decode cX6_valueOf 5 = .ok (.invokevirtual 41, 3) := by decide +kernel
set_option maxRecDepth 20000 in
theorem dX6_valueOf_8 : decode cX6_valueOf 8 = .ok (.lreturn, 1) := by decide +kernel
set_option maxRecDepth 20000 in
theorem dX6_finish_0 : decode cX6_finish 0 = .ok (.aload_n 0, 1) := by decide +kernel
set_option maxRecDepth 20000 in
theorem dX6_finish_1 : decode cX6_finish 1 = .ok (.aload_n 0, 1) := by decide +kernel
set_option maxRecDepth 20000 in
theorem dX6_finish_2 : decode cX6_finish 2 = .ok (.getfield 30, 3) := by decide +kernel
set_option maxRecDepth 20000 in
theorem dX6_finish_5 : decode cX6_finish 5 = .ok (.aload_n 0, 1) := by decide +kernel
set_option maxRecDepth 20000 in
theorem dX6_finish_6 : decode cX6_finish 6 = .ok (.getfield 23, 3) := by decide +kernel
set_option maxRecDepth 20000 in
theorem dX6_finish_9 : decode cX6_finish 9 = .ok (.iload_n 1, 1) := by decide +kernel
set_option maxRecDepth 20000 in
theorem dX6_finish_10 : decode cX6_finish 10 = .ok (.invokevirtual 37, 3) := by decide +kernel
set_option maxRecDepth 20000 in
theorem dX6_finish_13 : decode cX6_finish 13 = .ok (.invokestatic 45, 3) := by decide +kernel
set_option maxRecDepth 20000 in
theorem dX6_finish_16 : decode cX6_finish 16 = .ok (.putfield 30, 3) := by decide +kernel
set_option maxRecDepth 20000 in
theorem dX6_finish_19 : decode cX6_finish 19 = .ok (.aload_n 0, 1) := by decide +kernel
set_option maxRecDepth 20000 in
theorem dX6_finish_20 : decode cX6_finish 20 = .ok (.dup, 1) := by decide +kernel
set_option maxRecDepth 20000 in
theorem dX6_finish_21 : decode cX6_finish 21 = .ok (.getfield 26, 3) := by decide +kernel
set_option maxRecDepth 20000 in
theorem dX6_finish_24 : decode cX6_finish 24 = .ok (.iconst 1, 1) := by decide +kernel
set_option maxRecDepth 20000 in
theorem dX6_finish_25 : decode cX6_finish 25 = .ok (.isub, 1) := by decide +kernel
set_option maxRecDepth 20000 in
theorem dX6_finish_26 : decode cX6_finish 26 = .ok (.putfield 26, 3) := by decide +kernel
set_option maxRecDepth 20000 in
theorem dX6_finish_29 : decode cX6_finish 29 = .ok (.iload_n 1, 1) := by decide +kernel
set_option maxRecDepth 20000 in
theorem dX6_finish_30 : decode cX6_finish 30 = .ok (.istore_n 2, 1) := by decide +kernel
set_option maxRecDepth 20000 in
theorem dX6_finish_31 : decode cX6_finish 31 = .ok (.iload_n 2, 1) := by decide +kernel
set_option maxRecDepth 20000 in
theorem dX6_finish_32 : decode cX6_finish 32 = .ok (.aload_n 0, 1) := by decide +kernel
set_option maxRecDepth 20000 in
theorem dX6_finish_33 : decode cX6_finish 33 = .ok (.getfield 26, 3) := by decide +kernel
set_option maxRecDepth 20000 in
theorem dX6_finish_36 : decode cX6_finish 36 = .ok (.if_icmp .ge 65, 3) := by decide +kernel
set_option maxRecDepth 20000 in
theorem dX6_finish_39 : decode cX6_finish 39 = .ok (.aload_n 0, 1) := by decide +kernel
set_option maxRecDepth 20000 in
theorem dX6_finish_40 : decode cX6_finish 40 = .ok (.getfield 14, 3) := by decide +kernel
set_option maxRecDepth 20000 in
theorem dX6_finish_43 : decode cX6_finish 43 = .ok (.iload_n 2, 1) := by decide +kernel
set_option maxRecDepth 20000 in
theorem dX6_finish_44 : decode cX6_finish 44 = .ok (.aload_n 0, 1) := by decide +kernel
set_option maxRecDepth 20000 in
theorem dX6_finish_45 : decode cX6_finish 45 = .ok (.getfield 14, 3) := by decide +kernel
set_option maxRecDepth 20000 in
theorem dX6_finish_48 : decode cX6_finish 48 = .ok (.iload_n 2, 1) := by decide +kernel
set_option maxRecDepth 20000 in
theorem dX6_finish_49 : decode cX6_finish 49 = .ok (.iconst 1, 1) := by decide +kernel
set_option maxRecDepth 20000 in
theorem dX6_finish_50 : decode cX6_finish 50 = .ok (.iadd, 1) := by decide +kernel
set_option maxRecDepth 20000 in
theorem dX6_finish_51 : decode cX6_finish 51 = .ok (.invokevirtual 37, 3) := by decide +kernel
set_option maxRecDepth 20000 in
theorem dX6_finish_54 : decode cX6_finish 54 = .ok (.i2l, 1) := by decide +kernel
set_option maxRecDepth 20000 in
theorem dX6_finish_55 : decode cX6_finish 55 = .ok (.invokevirtual 33, 3) := by decide +kernel
set_option maxRecDepth 20000 in
theorem dX6_finish_58 : decode cX6_finish 58 = .ok (.aload_n 0, 1) := by decide +kernel
set_option maxRecDepth 20000 in
theorem dX6_finish_59 : decode cX6_finish 59 = .ok (.getfield 20, 3) := by decide +kernel
set_option maxRecDepth 20000 in
theorem dX6_finish_62 : decode cX6_finish 62 = .ok (.iload_n 2, 1) := by decide +kernel
set_option maxRecDepth 20000 in
theorem dX6_finish_63 : decode cX6_finish 63 = .ok (.aload_n 0, 1) := by decide +kernel
set_option maxRecDepth 20000 in
theorem dX6_finish_64 : decode cX6_finish 64 = .ok (.getfield 20, 3) := by decide +kernel
set_option maxRecDepth 20000 in
theorem dX6_finish_67 : decode cX6_finish 67 = .ok (.iload_n 2, 1) := by decide +kernel
set_option maxRecDepth 20000 in
theorem dX6_finish_68 : decode cX6_finish 68 = .ok (.iconst 1, 1) := by decide +kernel
set_option maxRecDepth 20000 in
theorem dX6_finish_69 : decode cX6_finish 69 = .ok (.iadd, 1) := by decide +kernel
set_option maxRecDepth 20000 in
theorem dX6_finish_70 : decode cX6_finish 70 = .ok (.invokevirtual 41, 3) := by decide +kernel
set_option maxRecDepth 20000 in
theorem dX6_finish_73 : decode cX6_finish 73 = .ok (.invokevirtual 33, 3) := by decide +kernel
set_option maxRecDepth 20000 in
theorem dX6_finish_76 : decode cX6_finish 76 = .ok (.aload_n 0, 1) := by decide +kernel
set_option maxRecDepth 20000 in
theorem dX6_finish_77 : decode cX6_finish 77 = .ok (.getfield 23, 3) := by decide +kernel
set_option maxRecDepth 20000 in
theorem dX6_finish_80 : decode cX6_finish 80 = .ok (.iload_n 2, 1) := by decide +kernel
set_option maxRecDepth 20000 in
theorem dX6_finish_81 : decode cX6_finish 81 = .ok (.aload_n 0, 1) := by decide +kernel
set_option maxRecDepth 20000 in
theorem dX6_finish_82 : decode cX6_finish 82 = .ok (.getfield 23, 3) := by decide +kernel
set_option maxRecDepth 20000 in
theorem dX6_finish_85 : decode cX6_finish 85 = .ok (.iload_n 2, 1) := by decide +kernel
set_option maxRecDepth 20000 in
theorem dX6_finish_86 : decode cX6_finish 86 = .ok (.iconst 1, 1) := by decide +kernel
set_option maxRecDepth 20000 in
theorem dX6_finish_87 : decode cX6_finish 87 = .ok (.iadd, 1) := by decide +kernel
set_option maxRecDepth 20000 in
theorem dX6_finish_88 : decode cX6_finish 88 = .ok (.invokevirtual 37, 3) := by decide +kernel
set_option maxRecDepth 20000 in
theorem dX6_finish_91 : decode cX6_finish 91 = .ok (.i2l, 1) := by decide +kernel
set_option maxRecDepth 20000 in
theorem dX6_finish_92 : decode cX6_finish 92 = .ok (.invokevirtual 33, 3) := by decide +kernel
set_option maxRecDepth 20000 in
theorem dX6_finish_95 : decode cX6_finish 95 = .ok (.iinc 2 1, 3) := by decide +kernel
set_option maxRecDepth 20000 in
theorem dX6_finish_98 : decode cX6_finish 98 = .ok (.goto (-67), 3) := by decide +kernel
set_option maxRecDepth 20000 in
theorem dX6_finish_101 : decode cX6_finish 101 = .ok (.return_, 1) := by decide +kernel
set_option maxRecDepth 20000 in
theorem dX7_init_0 : decode cX7_init 0 = .ok (.aload_n 0, 1) := by decide +kernel
set_option maxRecDepth 20000 in
theorem dX7_init_1 : decode cX7_init 1 = .ok (.invokespecial 3, 3) := by decide +kernel
set_option maxRecDepth 20000 in
theorem dX7_init_4 : decode cX7_init 4 = .ok (.aload_n 0, 1) := by decide +kernel
set_option maxRecDepth 20000 in
theorem dX7_init_5 : decode cX7_init 5 = .ok (.new 9, 3) := by decide +kernel
set_option maxRecDepth 20000 in
theorem dX7_init_8 : decode cX7_init 8 = .ok (.dup, 1) := by decide +kernel
set_option maxRecDepth 20000 in
theorem dX7_init_9 : decode cX7_init 9 = .ok (.iconst 4, 1) := by decide +kernel
set_option maxRecDepth 20000 in
theorem dX7_init_10 : decode cX7_init 10 = .ok (.invokespecial 11, 3) := by decide +kernel
set_option maxRecDepth 20000 in
theorem dX7_init_13 : decode cX7_init 13 = .ok (.putfield 14, 3) := by decide +kernel
set_option maxRecDepth 20000 in
theorem dX7_init_16 : decode cX7_init 16 = .ok (.aload_n 0, 1) := by decide +kernel
set_option maxRecDepth 20000 in
theorem dX7_init_17 : decode cX7_init 17 = .ok (.new 9, 3) := by decide +kernel
set_option maxRecDepth 20000 in
theorem dX7_init_20 : decode cX7_init 20 = .ok (.dup, 1) := by decide +kernel
set_option maxRecDepth 20000 in
theorem dX7_init_21 : decode cX7_init 21 = .ok (.iconst 4, 1) := by decide +kernel
set_option maxRecDepth 20000 in
theorem dX7_init_22 : decode cX7_init 22 = .ok (.invokespecial 11, 3) := by decide +kernel
set_option maxRecDepth 20000 in
theorem dX7_init_25 : decode cX7_init 25 = .ok (.putfield 20, 3) := by decide +kernel
set_option maxRecDepth 20000 in
theorem dX7_init_28 : decode cX7_init 28 = .ok (.aload_n 0, 1) := by decide +kernel
set_option maxRecDepth 20000 in
theorem dX7_init_29 : decode cX7_init 29 = .ok (.new 9, 3) := by decide +kernel
set_option maxRecDepth 20000 in
theorem dX7_init_32 : decode cX7_init 32 = .ok (.dup, 1) := by decide +kernel
set_option maxRecDepth 20000 in
theorem dX7_init_33 : decode cX7_init 33 = .ok (.iconst 4, 1) := by decide +kernel
set_option maxRecDepth 20000 in
theorem dX7_init_34 : decode cX7_init 34 = .ok (.invokespecial 11, 3) := by decide +kernel
set_option maxRecDepth 20000 in
theorem dX7_init_37 : decode cX7_init 37 = .ok (.putfield 23, 3) := by decide +kernel
set_option maxRecDepth 20000 in
theorem dX7_init_40 : decode cX7_init 40 = .ok (.aload_n 0, 1) := by decide +kernel
set_option maxRecDepth 20000 in
theorem dX7_init_41 : decode cX7_init 41 = .ok (.invokevirtual 26, 3) := by decide +kernel
set_option maxRecDepth 20000 in
theorem dX7_init_44 : decode cX7_init 44 = .ok (.return_, 1) := by decide +kernel
set_option maxRecDepth 20000 in
theorem dX7_clear_0 : decode cX7_clear 0 = .ok (.aload_n 0, 1) := by decide +kernel
set_option maxRecDepth 20000 in
theorem dX7_clear_1 : decode cX7_clear 1 = .ok (.getfield 14, 3) := by decide +kernel
set_option maxRecDepth 20000 in
theorem dX7_clear_4 : decode cX7_clear 4 = .ok (.ldc2_w 29, 3) := by decide +kernel
set_option maxRecDepth 20000 in
theorem dX7_clear_7 : decode cX7_clear 7 = .ok (.invokevirtual 31, 3) := by decide +kernel
set_option maxRecDepth 20000 in
theorem dX7_clear_10 : decode cX7_clear 10 = .ok (.return_, 1) := by decide +kernel
set_option maxRecDepth 20000 in
theorem dX7_change_0 : decode cX7_change 0 = .ok (.aload_n 0, 1) := by decide +kernel
set_option maxRecDepth 20000 in
theorem dX7_change_1 : decode cX7_change 1 = .ok (.getfield 14, 3) := by decide +kernel
set_option maxRecDepth 20000 in
theorem dX7_change_4 : decode cX7_change 4 = .ok (.iload_n 1, 1) := by decide +kernel
set_option maxRecDepth 20000 in
theorem dX7_change_5 : decode cX7_change 5 = .ok (.iload_n 2, 1) := by decide +kernel
set_option maxRecDepth 20000 in
theorem dX7_change_6 : decode cX7_change 6 = .ok (.i2l, 1) := by decide +kernel
set_option maxRecDepth 20000 in
theorem dX7_change_7 : decode cX7_change 7 = .ok (.invokevirtual 35, 3) := by decide +kernel
set_option maxRecDepth 20000 in
theorem dX7_change_10 : decode cX7_change 10 = .ok (.aload_n 0, 1) := by decide +kernel
set_option maxRecDepth 20000 in
theorem dX7_change_11 : decode cX7_change 11 = .ok (.getfield 20, 3) := by decide +kernel
set_option maxRecDepth 20000 in
theorem dX7_change_14 : decode cX7_change 14 = .ok (.iload_n 1, 1) := by decide +kernel
set_option maxRecDepth 20000 in
theorem dX7_change_15 : decode cX7_change 15 = .ok (.lload_n 3, 1) := by decide +kernel
set_option maxRecDepth 20000 in
theorem dX7_change_16 : decode cX7_change 16 = .ok (.invokevirtual 35, 3) := by decide +kernel
set_option maxRecDepth 20000 in
theorem dX7_change_19 : decode cX7_change 19 = .ok (.aload_n 0, 1) := by decide +kernel
set_option maxRecDepth 20000 in
theorem dX7_change_20 : decode cX7_change 20 = .ok (.getfield 23, 3) := by decide +kernel
set_option maxRecDepth 20000 in
theorem dX7_change_23 : decode cX7_change 23 = .ok (.iload_n 1, 1) := by decide +kernel
set_option maxRecDepth 20000 in
theorem dX7_change_24 : decode cX7_change 24 = .ok (.lload 5, 2) := by decide +kernel
set_option maxRecDepth 20000 in
theorem dX7_change_26 : decode cX7_change 26 = .ok (.invokevirtual 35, 3) := by decide +kernel
set_option maxRecDepth 20000 in
theorem dX7_change_29 : decode cX7_change 29 = .ok (.return_, 1) := by decide +kernel
set_option maxRecDepth 20000 in
theorem dX7_kindOf_0 : decode cX7_kindOf 0 = .ok (.aload_n 0, 1) := by decide +kernel
set_option maxRecDepth 20000 in
theorem dX7_kindOf_1 : decode cX7_kindOf 1 = .ok (.getfield 14, 3) := by decide +kernel
set_option maxRecDepth 20000 in
theorem dX7_kindOf_4 : decode cX7_kindOf 4 = .ok (.iload_n 1, 1) := by decide +kernel
set_option maxRecDepth 20000 in
theorem dX7_kindOf_5 : decode cX7_kindOf 5 = .ok (.invokevirtual 39, 3) := by decide +kernel
set_option maxRecDepth 20000 in
theorem dX7_kindOf_8 : decode cX7_kindOf 8 = .ok (.ireturn, 1) := by decide +kernel
set_option maxRecDepth 20000 in
theorem dX7_uOf_0 : decode cX7_uOf 0 = .ok (.aload_n 0, 1) := by decide +kernel
set_option maxRecDepth 20000 in
theorem dX7_uOf_1 : decode cX7_uOf 1 = .ok (.getfield 20, 3) := by decide +kernel
set_option maxRecDepth 20000 in
theorem dX7_uOf_4 : decode cX7_uOf 4 = .ok (.iload_n 1, 1) := by decide +kernel
set_option maxRecDepth 20000 in
theorem dX7_uOf_5 : decode cX7_uOf 5 = .ok (.invokevirtual 43, 3) := by decide +kernel
set_option maxRecDepth 20000 in
theorem dX7_uOf_8 : decode cX7_uOf 8 = .ok (.lreturn, 1) := by decide +kernel
set_option maxRecDepth 20000 in
theorem dX7_wOf_0 : decode cX7_wOf 0 = .ok (.aload_n 0, 1) := by decide +kernel
set_option maxRecDepth 20000 in
theorem dX7_wOf_1 : decode cX7_wOf 1 = .ok (.getfield 23, 3) := by decide +kernel
set_option maxRecDepth 20000 in
theorem dX7_wOf_4 : decode cX7_wOf 4 = .ok (.iload_n 1, 1) := by decide +kernel
set_option maxRecDepth 20000 in
theorem dX7_wOf_5 : decode cX7_wOf 5 = .ok (.invokevirtual 43, 3) := by decide +kernel
set_option maxRecDepth 20000 in
theorem dX7_wOf_8 : decode cX7_wOf 8 = .ok (.lreturn, 1) := by decide +kernel
set_option maxRecDepth 20000 in
theorem dX8_of_0 : decode cX8_of 0 = .ok (.iload_n 0, 1) := by decide +kernel
set_option maxRecDepth 20000 in
theorem dX8_of_1 : decode cX8_of 1 = .ok (.i2l, 1) := by decide +kernel
set_option maxRecDepth 20000 in
theorem dX8_of_2 : decode cX8_of 2 = .ok (.bipush 32, 2) := by decide +kernel
set_option maxRecDepth 20000 in
theorem dX8_of_4 : decode cX8_of 4 = .ok (.lshl, 1) := by decide +kernel
set_option maxRecDepth 20000 in
theorem dX8_of_5 : decode cX8_of 5 = .ok (.iload_n 1, 1) := by decide +kernel
set_option maxRecDepth 20000 in
theorem dX8_of_6 : decode cX8_of 6 = .ok (.i2l, 1) := by decide +kernel
set_option maxRecDepth 20000 in
theorem dX8_of_7 : decode cX8_of 7 = .ok (.ldc2_w 9, 3) := by decide +kernel
set_option maxRecDepth 20000 in
theorem dX8_of_10 : decode cX8_of 10 = .ok (.land, 1) := by decide +kernel
set_option maxRecDepth 20000 in
theorem dX8_of_11 : decode cX8_of 11 = .ok (.lor, 1) := by decide +kernel
set_option maxRecDepth 20000 in
theorem dX8_of_12 : decode cX8_of 12 = .ok (.lreturn, 1) := by decide +kernel
set_option maxRecDepth 20000 in
theorem dX8_sortOf_0 : decode cX8_sortOf 0 = .ok (.lload_n 0, 1) := by decide +kernel
set_option maxRecDepth 20000 in
theorem dX8_sortOf_1 : decode cX8_sortOf 1 = .ok (.bipush 32, 2) := by decide +kernel
set_option maxRecDepth 20000 in
theorem dX8_sortOf_3 : decode cX8_sortOf 3 = .ok (.lshr, 1) := by decide +kernel
set_option maxRecDepth 20000 in
theorem dX8_sortOf_4 : decode cX8_sortOf 4 = .ok (.l2i, 1) := by decide +kernel
set_option maxRecDepth 20000 in
theorem dX8_sortOf_5 : decode cX8_sortOf 5 = .ok (.ireturn, 1) := by decide +kernel
set_option maxRecDepth 20000 in
theorem dX8_numberOf_0 : decode cX8_numberOf 0 = .ok (.lload_n 0, 1) := by decide +kernel
set_option maxRecDepth 20000 in
theorem dX8_numberOf_1 : decode cX8_numberOf 1 = .ok (.l2i, 1) := by decide +kernel
set_option maxRecDepth 20000 in
theorem dX8_numberOf_2 : decode cX8_numberOf 2 = .ok (.ireturn, 1) := by decide +kernel
set_option maxRecDepth 20000 in
theorem dX8_exists_0 : decode cX8_exists 0 = .ok (.iload_n 0, 1) := by decide +kernel
set_option maxRecDepth 20000 in
theorem dX8_exists_1 : decode cX8_exists 1 = .ok (.tableswitch 41 0 2 #[27, 29, 35], 27) := by decide +kernel
set_option maxRecDepth 20000 in
theorem dX8_exists_28 : decode cX8_exists 28 = .ok (.iconst 1, 1) := by decide +kernel
set_option maxRecDepth 20000 in
theorem dX8_exists_29 : decode cX8_exists 29 = .ok (.ireturn, 1) := by decide +kernel
set_option maxRecDepth 20000 in
theorem dX8_exists_30 : decode cX8_exists 30 = .ok (.iload_n 1, 1) := by decide +kernel
set_option maxRecDepth 20000 in
theorem dX8_exists_31 : decode cX8_exists 31 = .ok (.iload_n 2, 1) := by decide +kernel
set_option maxRecDepth 20000 in
theorem dX8_exists_32 : decode cX8_exists 32 = .ok (.invokestatic 11, 3) := by decide +kernel
set_option maxRecDepth 20000 in
theorem dX8_exists_35 : decode cX8_exists 35 = .ok (.ireturn, 1) := by decide +kernel
set_option maxRecDepth 20000 in
theorem dX8_exists_36 : decode cX8_exists 36 = .ok (.iload_n 1, 1) := by decide +kernel
set_option maxRecDepth 20000 in
theorem dX8_exists_37 : decode cX8_exists 37 = .ok (.iconst 4, 1) := by decide +kernel
set_option maxRecDepth 20000 in
theorem dX8_exists_38 : decode cX8_exists 38 = .ok (.invokestatic 11, 3) := by decide +kernel
set_option maxRecDepth 20000 in
theorem dX8_exists_41 : decode cX8_exists 41 = .ok (.ireturn, 1) := by decide +kernel
set_option maxRecDepth 20000 in
theorem dX8_exists_42 : decode cX8_exists 42 = .ok (.iconst 0, 1) := by decide +kernel
set_option maxRecDepth 20000 in
theorem dX8_exists_43 : decode cX8_exists 43 = .ok (.ireturn, 1) := by decide +kernel
set_option maxRecDepth 20000 in
theorem dX9_init_0 : decode cX9_init 0 = .ok (.aload_n 0, 1) := by decide +kernel
set_option maxRecDepth 20000 in
theorem dX9_init_1 : decode cX9_init 1 = .ok (.invokespecial 3, 3) := by decide +kernel
set_option maxRecDepth 20000 in
theorem dX9_init_4 : decode cX9_init 4 = .ok (.aload_n 0, 1) := by decide +kernel
set_option maxRecDepth 20000 in
theorem dX9_init_5 : decode cX9_init 5 = .ok (.new 9, 3) := by decide +kernel
set_option maxRecDepth 20000 in
theorem dX9_init_8 : decode cX9_init 8 = .ok (.dup, 1) := by decide +kernel
set_option maxRecDepth 20000 in
theorem dX9_init_9 : decode cX9_init 9 = .ok (.invokespecial 11, 3) := by decide +kernel
set_option maxRecDepth 20000 in
theorem dX9_init_12 : decode cX9_init 12 = .ok (.putfield 12, 3) := by decide +kernel
set_option maxRecDepth 20000 in
theorem dX9_init_15 : decode cX9_init 15 = .ok (.aload_n 0, 1) := by decide +kernel
set_option maxRecDepth 20000 in
theorem dX9_init_16 : decode cX9_init 16 = .ok (.new 16, 3) := by decide +kernel
set_option maxRecDepth 20000 in
theorem dX9_init_19 : decode cX9_init 19 = .ok (.dup, 1) := by decide +kernel
set_option maxRecDepth 20000 in
theorem dX9_init_20 : decode cX9_init 20 = .ok (.invokespecial 18, 3) := by decide +kernel
set_option maxRecDepth 20000 in
theorem dX9_init_23 : decode cX9_init 23 = .ok (.putfield 19, 3) := by decide +kernel
set_option maxRecDepth 20000 in
theorem dX9_init_26 : decode cX9_init 26 = .ok (.aload_n 0, 1) := by decide +kernel
set_option maxRecDepth 20000 in
theorem dX9_init_27 : decode cX9_init 27 = .ok (.new 23, 3) := by decide +kernel
set_option maxRecDepth 20000 in
theorem dX9_init_30 : decode cX9_init 30 = .ok (.dup, 1) := by decide +kernel
set_option maxRecDepth 20000 in
theorem dX9_init_31 : decode cX9_init 31 = .ok (.invokespecial 25, 3) := by decide +kernel
set_option maxRecDepth 20000 in
theorem dX9_init_34 : decode cX9_init 34 = .ok (.putfield 26, 3) := by decide +kernel
set_option maxRecDepth 20000 in
theorem dX9_init_37 : decode cX9_init 37 = .ok (.aload_n 0, 1) := by decide +kernel
set_option maxRecDepth 20000 in
theorem dX9_init_38 : decode cX9_init 38 = .ok (.new 30, 3) := by decide +kernel
set_option maxRecDepth 20000 in
theorem dX9_init_41 : decode cX9_init 41 = .ok (.dup, 1) := by decide +kernel
set_option maxRecDepth 20000 in
theorem dX9_init_42 : decode cX9_init 42 = .ok (.invokespecial 32, 3) := by decide +kernel
set_option maxRecDepth 20000 in
theorem dX9_init_45 : decode cX9_init 45 = .ok (.putfield 33, 3) := by decide +kernel
set_option maxRecDepth 20000 in
theorem dX9_init_48 : decode cX9_init 48 = .ok (.aload_n 0, 1) := by decide +kernel
set_option maxRecDepth 20000 in
theorem dX9_init_49 : decode cX9_init 49 = .ok (.new 37, 3) := by decide +kernel
set_option maxRecDepth 20000 in
theorem dX9_init_52 : decode cX9_init 52 = .ok (.dup, 1) := by decide +kernel
set_option maxRecDepth 20000 in
theorem dX9_init_53 : decode cX9_init 53 = .ok (.invokespecial 39, 3) := by decide +kernel
set_option maxRecDepth 20000 in
theorem dX9_init_56 : decode cX9_init 56 = .ok (.putfield 40, 3) := by decide +kernel
set_option maxRecDepth 20000 in
theorem dX9_init_59 : decode cX9_init 59 = .ok (.aload_n 0, 1) := by decide +kernel
set_option maxRecDepth 20000 in
theorem dX9_init_60 : decode cX9_init 60 = .ok (.new 44, 3) := by decide +kernel
set_option maxRecDepth 20000 in
theorem dX9_init_63 : decode cX9_init 63 = .ok (.dup, 1) := by decide +kernel
set_option maxRecDepth 20000 in
theorem dX9_init_64 : decode cX9_init 64 = .ok (.aload_n 0, 1) := by decide +kernel
set_option maxRecDepth 20000 in
theorem dX9_init_65 : decode cX9_init 65 = .ok (.getfield 12, 3) := by decide +kernel
set_option maxRecDepth 20000 in
theorem dX9_init_68 : decode cX9_init 68 = .ok (.invokespecial 46, 3) := by decide +kernel
set_option maxRecDepth 20000 in
theorem dX9_init_71 : decode cX9_init 71 = .ok (.putfield 49, 3) := by decide +kernel
set_option maxRecDepth 20000 in
theorem dX9_init_74 : decode cX9_init 74 = .ok (.aload_n 0, 1) := by decide +kernel
set_option maxRecDepth 20000 in
theorem dX9_init_75 : decode cX9_init 75 = .ok (.new 53, 3) := by decide +kernel
set_option maxRecDepth 20000 in
theorem dX9_init_78 : decode cX9_init 78 = .ok (.dup, 1) := by decide +kernel
set_option maxRecDepth 20000 in
theorem dX9_init_79 : decode cX9_init 79 = .ok (.aload_n 0, 1) := by decide +kernel
set_option maxRecDepth 20000 in
theorem dX9_init_80 : decode cX9_init 80 = .ok (.getfield 26, 3) := by decide +kernel
set_option maxRecDepth 20000 in
theorem dX9_init_83 : decode cX9_init 83 = .ok (.aload_n 0, 1) := by decide +kernel
set_option maxRecDepth 20000 in
theorem dX9_init_84 : decode cX9_init 84 = .ok (.getfield 12, 3) := by decide +kernel
set_option maxRecDepth 20000 in
theorem dX9_init_87 : decode cX9_init 87 = .ok (.aload_n 0, 1) := by decide +kernel
set_option maxRecDepth 20000 in
theorem dX9_init_88 : decode cX9_init 88 = .ok (.getfield 33, 3) := by decide +kernel
set_option maxRecDepth 20000 in
theorem dX9_init_91 : decode cX9_init 91 = .ok (.aload_n 0, 1) := by decide +kernel
set_option maxRecDepth 20000 in
theorem dX9_init_92 : decode cX9_init 92 = .ok (.getfield 40, 3) := by decide +kernel
set_option maxRecDepth 20000 in
theorem dX9_init_95 : decode cX9_init 95 = .ok (.invokespecial 55, 3) := by decide +kernel
set_option maxRecDepth 20000 in
theorem dX9_init_98 : decode cX9_init 98 = .ok (.putfield 58, 3) := by decide +kernel
set_option maxRecDepth 20000 in
theorem dX9_init_101 : decode cX9_init 101 = .ok (.return_, 1) := by decide +kernel
set_option maxRecDepth 20000 in
theorem dX9_promise_0 : decode cX9_promise 0 = .ok (.aload_n 0, 1) := by decide +kernel
set_option maxRecDepth 20000 in
theorem dX9_promise_1 : decode cX9_promise 1 = .ok (.getfield 12, 3) := by decide +kernel
set_option maxRecDepth 20000 in
theorem dX9_promise_4 : decode cX9_promise 4 = .ok (.invokevirtual 62, 3) := by decide +kernel
set_option maxRecDepth 20000 in
theorem dX9_promise_7 : decode cX9_promise 7 = .ok (.ifCond .eq 8, 3) := by decide +kernel
set_option maxRecDepth 20000 in
theorem dX9_promise_10 : decode cX9_promise 10 = .ok (.bipush (-2), 2) := by decide +kernel
set_option maxRecDepth 20000 in
theorem dX9_promise_12 : decode cX9_promise 12 = .ok (.goto 10, 3) := by decide +kernel
set_option maxRecDepth 20000 in
theorem dX9_promise_15 : decode cX9_promise 15 = .ok (.aload_n 0, 1) := by decide +kernel
set_option maxRecDepth 20000 in
theorem dX9_promise_16 : decode cX9_promise 16 = .ok (.getfield 12, 3) := by decide +kernel
set_option maxRecDepth 20000 in
theorem dX9_promise_19 : decode cX9_promise 19 = .ok (.invokevirtual 66, 3) := by decide +kernel
set_option maxRecDepth 20000 in
theorem dX9_promise_22 : decode cX9_promise 22 = .ok (.ireturn, 1) := by decide +kernel
set_option maxRecDepth 20000 in
theorem dX9_resolve_0 : decode cX9_resolve 0 = .ok (.aload_n 0, 1) := by decide +kernel
set_option maxRecDepth 20000 in
theorem dX9_resolve_1 : decode cX9_resolve 1 = .ok (.iload_n 1, 1) := by decide +kernel
set_option maxRecDepth 20000 in
theorem dX9_resolve_2 : decode cX9_resolve 2 = .ok (.iconst 1, 1) := by decide +kernel
set_option maxRecDepth 20000 in
theorem dX9_resolve_3 : decode cX9_resolve 3 = .ok (.iload_n 2, 1) := by decide +kernel
set_option maxRecDepth 20000 in
theorem dX9_resolve_4 : decode cX9_resolve 4 = .ok (.iload_n 3, 1) := by decide +kernel
set_option maxRecDepth 20000 in
theorem dX9_resolve_5 : decode cX9_resolve 5 = .ok (.invokevirtual 70, 3) := by decide +kernel
set_option maxRecDepth 20000 in
theorem dX9_resolve_8 : decode cX9_resolve 8 = .ok (.ireturn, 1) := by decide +kernel
set_option maxRecDepth 20000 in
theorem dX9_reject_0 : decode cX9_reject 0 = .ok (.aload_n 0, 1) := by decide +kernel
set_option maxRecDepth 20000 in
theorem dX9_reject_1 : decode cX9_reject 1 = .ok (.iload_n 1, 1) := by decide +kernel
set_option maxRecDepth 20000 in
theorem dX9_reject_2 : decode cX9_reject 2 = .ok (.iconst 2, 1) := by decide +kernel
set_option maxRecDepth 20000 in
theorem dX9_reject_3 : decode cX9_reject 3 = .ok (.iload_n 2, 1) := by decide +kernel
set_option maxRecDepth 20000 in
theorem dX9_reject_4 : decode cX9_reject 4 = .ok (.iload_n 3, 1) := by decide +kernel
set_option maxRecDepth 20000 in
theorem dX9_reject_5 : decode cX9_reject 5 = .ok (.invokevirtual 70, 3) := by decide +kernel
set_option maxRecDepth 20000 in
theorem dX9_reject_8 : decode cX9_reject 8 = .ok (.ireturn, 1) := by decide +kernel
set_option maxRecDepth 20000 in
theorem dX9_settleFromOutside_0 : decode cX9_settleFromOutside 0 = .ok (.aload_n 0, 1) := by decide +kernel
set_option maxRecDepth 20000 in
theorem dX9_settleFromOutside_1 : decode cX9_settleFromOutside 1 = .ok (.getfield 12, 3) := by decide +kernel
set_option maxRecDepth 20000 in
theorem dX9_settleFromOutside_4 : decode cX9_settleFromOutside 4 = .ok (.iload_n 1, 1) := by decide +kernel
set_option maxRecDepth 20000 in
theorem dX9_settleFromOutside_5 : decode cX9_settleFromOutside 5 = .ok (.invokevirtual 74, 3) := by decide +kernel
set_option maxRecDepth 20000 in
theorem dX9_settleFromOutside_8 : decode cX9_settleFromOutside 8 = .ok (.ifCond .eq 13, 3) := by decide +kernel
set_option maxRecDepth 20000 in
theorem dX9_settleFromOutside_11 : decode cX9_settleFromOutside 11 = .ok (.aload_n 0, 1) := by decide +kernel
set_option maxRecDepth 20000 in
theorem dX9_settleFromOutside_12 : decode cX9_settleFromOutside 12 = .ok (.iload_n 3, 1) := by decide +kernel
set_option maxRecDepth 20000 in
theorem dX9_settleFromOutside_13 : decode cX9_settleFromOutside 13 = .ok (.iload 4, 2) := by decide +kernel
set_option maxRecDepth 20000 in
theorem dX9_settleFromOutside_15 : decode cX9_settleFromOutside 15 = .ok (.invokevirtual 78, 3) := by decide +kernel
set_option maxRecDepth 20000 in
theorem dX9_settleFromOutside_18 : decode cX9_settleFromOutside 18 = .ok (.ifCond .ne 5, 3) := by decide +kernel
set_option maxRecDepth 20000 in
theorem dX9_settleFromOutside_21 : decode cX9_settleFromOutside 21 = .ok (.iconst 0, 1) := by decide +kernel
set_option maxRecDepth 20000 in
theorem dX9_settleFromOutside_22 : decode cX9_settleFromOutside 22 = .ok (.ireturn, 1) := by decide +kernel
set_option maxRecDepth 20000 in
theorem dX9_settleFromOutside_23 : decode cX9_settleFromOutside 23 = .ok (.aload_n 0, 1) := by decide +kernel
set_option maxRecDepth 20000 in
theorem dX9_settleFromOutside_24 : decode cX9_settleFromOutside 24 = .ok (.getfield 12, 3) := by decide +kernel
set_option maxRecDepth 20000 in
theorem dX9_settleFromOutside_27 : decode cX9_settleFromOutside 27 = .ok (.iload_n 1, 1) := by decide +kernel
set_option maxRecDepth 20000 in
theorem dX9_settleFromOutside_28 : decode cX9_settleFromOutside 28 = .ok (.iload_n 2, 1) := by decide +kernel
set_option maxRecDepth 20000 in
theorem dX9_settleFromOutside_29 : decode cX9_settleFromOutside 29 = .ok (.iload_n 3, 1) := by decide +kernel
set_option maxRecDepth 20000 in
theorem dX9_settleFromOutside_30 : decode cX9_settleFromOutside 30 = .ok (.iload 4, 2) := by decide +kernel
set_option maxRecDepth 20000 in
theorem dX9_settleFromOutside_32 : decode cX9_settleFromOutside 32 = .ok (.invokestatic 82, 3) := by decide +kernel
set_option maxRecDepth 20000 in
theorem dX9_settleFromOutside_35 : decode cX9_settleFromOutside 35 = .ok (.iconst 0, 1) := by decide +kernel
set_option maxRecDepth 20000 in
theorem dX9_settleFromOutside_36 : decode cX9_settleFromOutside 36 = .ok (.invokevirtual 88, 3) := by decide +kernel
set_option maxRecDepth 20000 in
theorem dX9_settleFromOutside_39 : decode cX9_settleFromOutside 39 = .ok (.iconst 1, 1) := by decide +kernel
set_option maxRecDepth 20000 in
theorem dX9_settleFromOutside_40 : decode cX9_settleFromOutside 40 = .ok (.ireturn, 1) := by decide +kernel
set_option maxRecDepth 20000 in
theorem dX9_then_0 : decode cX9_then 0 = .ok (.aload_n 0, 1) := by decide +kernel
set_option maxRecDepth 20000 in
theorem dX9_then_1 : decode cX9_then 1 = .ok (.getfield 12, 3) := by decide +kernel
set_option maxRecDepth 20000 in
theorem dX9_then_4 : decode cX9_then 4 = .ok (.iload_n 1, 1) := by decide +kernel
set_option maxRecDepth 20000 in
theorem dX9_then_5 : decode cX9_then 5 = .ok (.invokevirtual 74, 3) := by decide +kernel
set_option maxRecDepth 20000 in
theorem dX9_then_8 : decode cX9_then 8 = .ok (.ifCond .eq 17, 3) := by decide +kernel
set_option maxRecDepth 20000 in
theorem dX9_then_11 : decode cX9_then 11 = .ok (.iload_n 2, 1) := by decide +kernel
set_option maxRecDepth 20000 in
theorem dX9_then_12 : decode cX9_then 12 = .ok (.invokestatic 92, 3) := by decide +kernel
set_option maxRecDepth 20000 in
theorem dX9_then_15 : decode cX9_then 15 = .ok (.ifCond .eq 10, 3) := by decide +kernel
set_option maxRecDepth 20000 in
theorem dX9_then_18 : decode cX9_then 18 = .ok (.iload_n 3, 1) := by decide +kernel
set_option maxRecDepth 20000 in
theorem dX9_then_19 : decode cX9_then 19 = .ok (.invokestatic 92, 3) := by decide +kernel
set_option maxRecDepth 20000 in
theorem dX9_then_22 : decode cX9_then 22 = .ok (.ifCond .ne 5, 3) := by decide +kernel
set_option maxRecDepth 20000 in
theorem dX9_then_25 : decode cX9_then 25 = .ok (.iconst (-1), 1) := by decide +kernel
set_option maxRecDepth 20000 in
theorem dX9_then_26 : decode cX9_then 26 = .ok (.ireturn, 1) := by decide +kernel
set_option maxRecDepth 20000 in
theorem dX9_then_27 : decode cX9_then 27 = .ok (.aload_n 0, 1) := by decide +kernel
set_option maxRecDepth 20000 in
theorem dX9_then_28 : decode cX9_then 28 = .ok (.getfield 12, 3) := by decide +kernel
set_option maxRecDepth 20000 in
theorem dX9_then_31 : decode cX9_then 31 = .ok (.invokevirtual 62, 3) := by decide +kernel
set_option maxRecDepth 20000 in
theorem dX9_then_34 : decode cX9_then 34 = .ok (.ifCond .eq 8, 3) := by decide +kernel
set_option maxRecDepth 20000 in
theorem dX9_then_37 : decode cX9_then 37 = .ok (.bipush (-2), 2) := by decide +kernel
set_option maxRecDepth 20000 in
theorem dX9_then_39 : decode cX9_then 39 = .ok (.goto 13, 3) := by decide +kernel
set_option maxRecDepth 20000 in
theorem dX9_then_42 : decode cX9_then 42 = .ok (.aload_n 0, 1) := by decide +kernel
set_option maxRecDepth 20000 in
theorem dX9_then_43 : decode cX9_then 43 = .ok (.getfield 58, 3) := by decide +kernel
set_option maxRecDepth 20000 in
theorem dX9_then_46 : decode cX9_then 46 = .ok (.iload_n 1, 1) := by decide +kernel
set_option maxRecDepth 20000 in
theorem dX9_then_47 : decode cX9_then 47 = .ok (.iload_n 2, 1) := by decide +kernel
set_option maxRecDepth 20000 in
theorem dX9_then_48 : decode cX9_then 48 = .ok (.iload_n 3, 1) := by decide +kernel
set_option maxRecDepth 20000 in
theorem dX9_then_49 : decode cX9_then 49 = .ok (.invokevirtual 95, 3) := by decide +kernel
set_option maxRecDepth 20000 in
theorem dX9_then_52 : decode cX9_then 52 = .ok (.ireturn, 1) := by decide +kernel
set_option maxRecDepth 20000 in
theorem dX9_thenable_0 : decode cX9_thenable 0 = .ok (.iload_n 1, 1) := by decide +kernel
set_option maxRecDepth 20000 in
theorem dX9_thenable_1 : decode cX9_thenable 1 = .ok (.iconst 4, 1) := by decide +kernel
set_option maxRecDepth 20000 in
theorem dX9_thenable_2 : decode cX9_thenable 2 = .ok (.invokestatic 99, 3) := by decide +kernel
set_option maxRecDepth 20000 in
theorem dX9_thenable_5 : decode cX9_thenable 5 = .ok (.ifCond .eq 11, 3) := by decide +kernel
set_option maxRecDepth 20000 in
theorem dX9_thenable_8 : decode cX9_thenable 8 = .ok (.iload_n 2, 1) := by decide +kernel
set_option maxRecDepth 20000 in
theorem dX9_thenable_9 : decode cX9_thenable 9 = .ok (.iconst 4, 1) := by decide +kernel
set_option maxRecDepth 20000 in
theorem dX9_thenable_10 : decode cX9_thenable 10 = .ok (.invokestatic 99, 3) := by decide +kernel
set_option maxRecDepth 20000 in
theorem dX9_thenable_13 : decode cX9_thenable 13 = .ok (.ifCond .ne 5, 3) := by decide +kernel
set_option maxRecDepth 20000 in
theorem dX9_thenable_16 : decode cX9_thenable 16 = .ok (.iconst 0, 1) := by decide +kernel
set_option maxRecDepth 20000 in
theorem dX9_thenable_17 : decode cX9_thenable 17 = .ok (.ireturn, 1) := by decide +kernel
set_option maxRecDepth 20000 in
theorem dX9_thenable_18 : decode cX9_thenable 18 = .ok (.aload_n 0, 1) := by decide +kernel
set_option maxRecDepth 20000 in
theorem dX9_thenable_19 : decode cX9_thenable 19 = .ok (.iload_n 3, 1) := by decide +kernel
set_option maxRecDepth 20000 in
theorem dX9_thenable_20 : decode cX9_thenable 20 = .ok (.iload 4, 2) := by decide +kernel
set_option maxRecDepth 20000 in
theorem dX9_thenable_22 : decode cX9_thenable 22 = .ok (.invokevirtual 78, 3) := by decide +kernel
set_option maxRecDepth 20000 in
theorem dX9_thenable_25 : decode cX9_thenable 25 = .ok (.ifCond .eq 14, 3) := by decide +kernel
set_option maxRecDepth 20000 in
theorem dX9_thenable_28 : decode cX9_thenable 28 = .ok (.aload_n 0, 1) := by decide +kernel
set_option maxRecDepth 20000 in
theorem dX9_thenable_29 : decode cX9_thenable 29 = .ok (.iload 5, 2) := by decide +kernel
set_option maxRecDepth 20000 in
theorem dX9_thenable_31 : decode cX9_thenable 31 = .ok (.iload 6, 2) := by decide +kernel
set_option maxRecDepth 20000 in
theorem dX9_thenable_33 : decode cX9_thenable 33 = .ok (.invokevirtual 78, 3) := by decide +kernel
set_option maxRecDepth 20000 in
theorem dX9_thenable_36 : decode cX9_thenable 36 = .ok (.ifCond .ne 5, 3) := by decide +kernel
set_option maxRecDepth 20000 in
theorem dX9_thenable_39 : decode cX9_thenable 39 = .ok (.iconst 0, 1) := by decide +kernel
set_option maxRecDepth 20000 in
theorem dX9_thenable_40 : decode cX9_thenable 40 = .ok (.ireturn, 1) := by decide +kernel
set_option maxRecDepth 20000 in
theorem dX9_thenable_41 : decode cX9_thenable 41 = .ok (.aload_n 0, 1) := by decide +kernel
set_option maxRecDepth 20000 in
theorem dX9_thenable_42 : decode cX9_thenable 42 = .ok (.getfield 19, 3) := by decide +kernel
set_option maxRecDepth 20000 in
theorem dX9_thenable_45 : decode cX9_thenable 45 = .ok (.iload_n 1, 1) := by decide +kernel
set_option maxRecDepth 20000 in
theorem dX9_thenable_46 : decode cX9_thenable 46 = .ok (.iload_n 2, 1) := by decide +kernel
set_option maxRecDepth 20000 in
theorem dX9_thenable_47 : decode cX9_thenable 47 = .ok (.iload_n 3, 1) := by decide +kernel
set_option maxRecDepth 20000 in
theorem dX9_thenable_48 : decode cX9_thenable 48 = .ok (.iload 4, 2) := by decide +kernel
set_option maxRecDepth 20000 in
theorem dX9_thenable_50 : decode cX9_thenable 50 = .ok (.invokestatic 82, 3) := by decide +kernel
set_option maxRecDepth 20000 in
theorem dX9_thenable_53 : decode cX9_thenable 53 = .ok (.iload 5, 2) := by decide +kernel
set_option maxRecDepth 20000 in
theorem dX9_thenable_55 : decode cX9_thenable 55 = .ok (.iload 6, 2) := by decide +kernel
set_option maxRecDepth 20000 in
theorem dX9_thenable_57 : decode cX9_thenable 57 = .ok (.invokestatic 82, 3) := by decide +kernel
set_option maxRecDepth 20000 in
theorem dX9_thenable_60 : decode cX9_thenable 60 = .ok (.invokevirtual 102, 3) := by decide +kernel
set_option maxRecDepth 20000 in
theorem dX9_thenable_63 : decode cX9_thenable 63 = .ok (.iconst 1, 1) := by decide +kernel
set_option maxRecDepth 20000 in
theorem dX9_thenable_64 : decode cX9_thenable 64 = .ok (.ireturn, 1) := by decide +kernel
set_option maxRecDepth 20000 in
theorem dX9_step_0 : decode cX9_step 0 = .ok (.iload_n 1, 1) := by decide +kernel
set_option maxRecDepth 20000 in
theorem dX9_step_1 : decode cX9_step 1 = .ok (.invokestatic 106, 3) := by decide +kernel
set_option maxRecDepth 20000 in
theorem dX9_step_4 : decode cX9_step 4 = .ok (.ifCond .eq 13, 3) := by decide +kernel
set_option maxRecDepth 20000 in
theorem dX9_step_7 : decode cX9_step 7 = .ok (.iload_n 2, 1) := by decide +kernel
set_option maxRecDepth 20000 in
theorem dX9_step_8 : decode cX9_step 8 = .ok (.iload_n 3, 1) := by decide +kernel
set_option maxRecDepth 20000 in
theorem dX9_step_9 : decode cX9_step 9 = .ok (.iload 4, 2) := by decide +kernel
set_option maxRecDepth 20000 in
theorem dX9_step_11 : decode cX9_step 11 = .ok (.invokestatic 109, 3) := by decide +kernel
set_option maxRecDepth 20000 in
theorem dX9_step_14 : decode cX9_step 14 = .ok (.ifCond .ne 5, 3) := by decide +kernel
set_option maxRecDepth 20000 in
theorem dX9_step_17 : decode cX9_step 17 = .ok (.iconst (-1), 1) := by decide +kernel
set_option maxRecDepth 20000 in
theorem dX9_step_18 : decode cX9_step 18 = .ok (.ireturn, 1) := by decide +kernel
set_option maxRecDepth 20000 in
theorem dX9_step_19 : decode cX9_step 19 = .ok (.aload_n 0, 1) := by decide +kernel
set_option maxRecDepth 20000 in
theorem dX9_step_20 : decode cX9_step 20 = .ok (.getfield 26, 3) := by decide +kernel
set_option maxRecDepth 20000 in
theorem dX9_step_23 : decode cX9_step 23 = .ok (.iload_n 1, 1) := by decide +kernel
set_option maxRecDepth 20000 in
theorem dX9_step_24 : decode cX9_step 24 = .ok (.invokevirtual 113, 3) := by decide +kernel
set_option maxRecDepth 20000 in
theorem dX9_step_27 : decode cX9_step 27 = .ok (.ifCond .eq 8, 3) := by decide +kernel
set_option maxRecDepth 20000 in
theorem dX9_step_30 : decode cX9_step 30 = .ok (.bipush (-2), 2) := by decide +kernel
set_option maxRecDepth 20000 in
theorem dX9_step_32 : decode cX9_step 32 = .ok (.goto 27, 3) := by decide +kernel
set_option maxRecDepth 20000 in
theorem dX9_step_35 : decode cX9_step 35 = .ok (.aload_n 0, 1) := by decide +kernel
set_option maxRecDepth 20000 in
theorem dX9_step_36 : decode cX9_step 36 = .ok (.getfield 26, 3) := by decide +kernel
set_option maxRecDepth 20000 in
theorem dX9_step_39 : decode cX9_step 39 = .ok (.iload_n 1, 1) := by decide +kernel
set_option maxRecDepth 20000 in
theorem dX9_step_40 : decode cX9_step 40 = .ok (.iload_n 2, 1) := by decide +kernel
set_option maxRecDepth 20000 in
theorem dX9_step_41 : decode cX9_step 41 = .ok (.iload_n 2, 1) := by decide +kernel
set_option maxRecDepth 20000 in
theorem dX9_step_42 : decode cX9_step 42 = .ok (.iconst 2, 1) := by decide +kernel
set_option maxRecDepth 20000 in
theorem dX9_step_43 : decode cX9_step 43 = .ok (.if_icmp .ne 7, 3) := by decide +kernel
set_option maxRecDepth 20000 in
theorem dX9_step_46 : decode cX9_step 46 = .ok (.iload_n 3, 1) := by decide +kernel
set_option maxRecDepth 20000 in
theorem dX9_step_47 : decode cX9_step 47 = .ok (.goto 4, 3) := by decide +kernel
set_option maxRecDepth 20000 in
theorem dX9_step_50 : decode cX9_step 50 = .ok (.iconst 0, 1) := by decide +kernel
set_option maxRecDepth 20000 in
theorem dX9_step_51 : decode cX9_step 51 = .ok (.iload 4, 2) := by decide +kernel
set_option maxRecDepth 20000 in
theorem dX9_step_53 : decode cX9_step 53 = .ok (.invokestatic 82, 3) := by decide +kernel
set_option maxRecDepth 20000 in
theorem dX9_step_56 : decode cX9_step 56 = .ok (.invokevirtual 115, 3) := by decide +kernel
set_option maxRecDepth 20000 in
theorem dX9_step_59 : decode cX9_step 59 = .ok (.ireturn, 1) := by decide +kernel
set_option maxRecDepth 20000 in
theorem dX9_empty_0 : decode cX9_empty 0 = .ok (.iload_n 1, 1) := by decide +kernel
set_option maxRecDepth 20000 in
theorem dX9_empty_1 : decode cX9_empty 1 = .ok (.invokestatic 106, 3) := by decide +kernel
set_option maxRecDepth 20000 in
theorem dX9_empty_4 : decode cX9_empty 4 = .ok (.ifCond .eq 14, 3) := by decide +kernel
set_option maxRecDepth 20000 in
theorem dX9_empty_7 : decode cX9_empty 7 = .ok (.aload_n 0, 1) := by decide +kernel
set_option maxRecDepth 20000 in
theorem dX9_empty_8 : decode cX9_empty 8 = .ok (.getfield 26, 3) := by decide +kernel
set_option maxRecDepth 20000 in
theorem dX9_empty_11 : decode cX9_empty 11 = .ok (.iload_n 1, 1) := by decide +kernel
set_option maxRecDepth 20000 in
theorem dX9_empty_12 : decode cX9_empty 12 = .ok (.invokevirtual 119, 3) := by decide +kernel
set_option maxRecDepth 20000 in
theorem dX9_empty_15 : decode cX9_empty 15 = .ok (.goto 4, 3) := by decide +kernel
set_option maxRecDepth 20000 in
theorem dX9_empty_18 : decode cX9_empty 18 = .ok (.iconst (-1), 1) := by decide +kernel
set_option maxRecDepth 20000 in
theorem dX9_empty_19 : decode cX9_empty 19 = .ok (.ireturn, 1) := by decide +kernel
set_option maxRecDepth 20000 in
theorem dX9_start_0 : decode cX9_start 0 = .ok (.iload_n 1, 1) := by decide +kernel
set_option maxRecDepth 20000 in
theorem dX9_start_1 : decode cX9_start 1 = .ok (.invokestatic 106, 3) := by decide +kernel
set_option maxRecDepth 20000 in
theorem dX9_start_4 : decode cX9_start 4 = .ok (.ifCond .eq 12, 3) := by decide +kernel
set_option maxRecDepth 20000 in
theorem dX9_start_7 : decode cX9_start 7 = .ok (.aload_n 0, 1) := by decide +kernel
set_option maxRecDepth 20000 in
theorem dX9_start_8 : decode cX9_start 8 = .ok (.iload_n 2, 1) := by decide +kernel
set_option maxRecDepth 20000 in
theorem dX9_start_9 : decode cX9_start 9 = .ok (.iload_n 3, 1) := by decide +kernel
set_option maxRecDepth 20000 in
theorem dX9_start_10 : decode cX9_start 10 = .ok (.invokevirtual 78, 3) := by decide +kernel
set_option maxRecDepth 20000 in
theorem dX9_start_13 : decode cX9_start 13 = .ok (.ifCond .ne 5, 3) := by decide +kernel
set_option maxRecDepth 20000 in
theorem dX9_start_16 : decode cX9_start 16 = .ok (.iconst (-1), 1) := by decide +kernel
set_option maxRecDepth 20000 in
theorem dX9_start_17 : decode cX9_start 17 = .ok (.ireturn, 1) := by decide +kernel
set_option maxRecDepth 20000 in
theorem dX9_start_18 : decode cX9_start 18 = .ok (.aload_n 0, 1) := by decide +kernel
set_option maxRecDepth 20000 in
theorem dX9_start_19 : decode cX9_start 19 = .ok (.getfield 12, 3) := by decide +kernel
set_option maxRecDepth 20000 in
theorem dX9_start_22 : decode cX9_start 22 = .ok (.invokevirtual 62, 3) := by decide +kernel
set_option maxRecDepth 20000 in
theorem dX9_start_25 : decode cX9_start 25 = .ok (.ifCond .eq 6, 3) := by decide +kernel
set_option maxRecDepth 20000 in
theorem dX9_start_28 : decode cX9_start 28 = .ok (.bipush (-2), 2) := by decide +kernel
set_option maxRecDepth 20000 in
theorem dX9_start_30 : decode cX9_start 30 = .ok (.ireturn, 1) := by decide +kernel
set_option maxRecDepth 20000 in
theorem dX9_start_31 : decode cX9_start 31 = .ok (.aload_n 0, 1) := by decide +kernel
set_option maxRecDepth 20000 in
theorem dX9_start_32 : decode cX9_start 32 = .ok (.getfield 58, 3) := by decide +kernel
set_option maxRecDepth 20000 in
theorem dX9_start_35 : decode cX9_start 35 = .ok (.iload_n 1, 1) := by decide +kernel
set_option maxRecDepth 20000 in
theorem dX9_start_36 : decode cX9_start 36 = .ok (.iload_n 2, 1) := by decide +kernel
set_option maxRecDepth 20000 in
theorem dX9_start_37 : decode cX9_start 37 = .ok (.iload_n 3, 1) := by decide +kernel
set_option maxRecDepth 20000 in
theorem dX9_start_38 : decode cX9_start 38 = .ok (.invokestatic 82, 3) := by decide +kernel
set_option maxRecDepth 20000 in
theorem dX9_start_41 : decode cX9_start 41 = .ok (.invokevirtual 123, 3) := by decide +kernel
set_option maxRecDepth 20000 in
theorem dX9_start_44 : decode cX9_start 44 = .ok (.istore 4, 2) := by decide +kernel
set_option maxRecDepth 20000 in
theorem dX9_start_46 : decode cX9_start 46 = .ok (.aload_n 0, 1) := by decide +kernel
set_option maxRecDepth 20000 in
theorem dX9_start_47 : decode cX9_start 47 = .ok (.getfield 58, 3) := by decide +kernel
set_option maxRecDepth 20000 in
theorem dX9_start_50 : decode cX9_start 50 = .ok (.invokevirtual 127, 3) := by decide +kernel
set_option maxRecDepth 20000 in
theorem dX9_start_53 : decode cX9_start 53 = .ok (.iload 4, 2) := by decide +kernel
set_option maxRecDepth 20000 in
theorem dX9_start_55 : decode cX9_start 55 = .ok (.ireturn, 1) := by decide +kernel
set_option maxRecDepth 20000 in
theorem dX9_later_0 : decode cX9_later 0 = .ok (.iload_n 1, 1) := by decide +kernel
set_option maxRecDepth 20000 in
theorem dX9_later_1 : decode cX9_later 1 = .ok (.invokestatic 106, 3) := by decide +kernel
set_option maxRecDepth 20000 in
theorem dX9_later_4 : decode cX9_later 4 = .ok (.ifCond .eq 23, 3) := by decide +kernel
set_option maxRecDepth 20000 in
theorem dX9_later_7 : decode cX9_later 7 = .ok (.aload_n 0, 1) := by decide +kernel
set_option maxRecDepth 20000 in
theorem dX9_later_8 : decode cX9_later 8 = .ok (.iload_n 2, 1) := by decide +kernel
set_option maxRecDepth 20000 in
theorem dX9_later_9 : decode cX9_later 9 = .ok (.iload_n 3, 1) := by decide +kernel
set_option maxRecDepth 20000 in
theorem dX9_later_10 : decode cX9_later 10 = .ok (.invokevirtual 78, 3) := by decide +kernel
set_option maxRecDepth 20000 in
theorem dX9_later_13 : decode cX9_later 13 = .ok (.ifCond .eq 14, 3) := by decide +kernel
set_option maxRecDepth 20000 in
theorem dX9_later_16 : decode cX9_later 16 = .ok (.iload 4, 2) := by decide +kernel
set_option maxRecDepth 20000 in
theorem dX9_later_18 : decode cX9_later 18 = .ok (.sipush 1001, 3) := by decide +kernel
set_option maxRecDepth 20000 in
theorem dX9_later_21 : decode cX9_later 21 = .ok (.invokestatic 99, 3) := by decide +kernel
set_option maxRecDepth 20000 in
theorem dX9_later_24 : decode cX9_later 24 = .ok (.ifCond .ne 5, 3) := by decide +kernel
set_option maxRecDepth 20000 in
theorem dX9_later_27 : decode cX9_later 27 = .ok (.iconst (-1), 1) := by decide +kernel
set_option maxRecDepth 20000 in
theorem dX9_later_28 : decode cX9_later 28 = .ok (.ireturn, 1) := by decide +kernel
set_option maxRecDepth 20000 in
theorem dX9_later_29 : decode cX9_later 29 = .ok (.aload_n 0, 1) := by decide +kernel
set_option maxRecDepth 20000 in
theorem dX9_later_30 : decode cX9_later 30 = .ok (.getfield 33, 3) := by decide +kernel
set_option maxRecDepth 20000 in
theorem dX9_later_33 : decode cX9_later 33 = .ok (.invokevirtual 130, 3) := by decide +kernel
set_option maxRecDepth 20000 in
theorem dX9_later_36 : decode cX9_later 36 = .ok (.ifCond .eq 8, 3) := by decide +kernel
set_option maxRecDepth 20000 in
theorem dX9_later_39 : decode cX9_later 39 = .ok (.bipush (-2), 2) := by decide +kernel
set_option maxRecDepth 20000 in
theorem dX9_later_41 : decode cX9_later 41 = .ok (.goto 18, 3) := by decide +kernel
set_option maxRecDepth 20000 in
theorem dX9_later_44 : decode cX9_later 44 = .ok (.aload_n 0, 1) := by decide +kernel
set_option maxRecDepth 20000 in
theorem dX9_later_45 : decode cX9_later 45 = .ok (.getfield 33, 3) := by decide +kernel
set_option maxRecDepth 20000 in
theorem dX9_later_48 : decode cX9_later 48 = .ok (.iload_n 1, 1) := by decide +kernel
set_option maxRecDepth 20000 in
theorem dX9_later_49 : decode cX9_later 49 = .ok (.iload_n 2, 1) := by decide +kernel
set_option maxRecDepth 20000 in
theorem dX9_later_50 : decode cX9_later 50 = .ok (.iload_n 3, 1) := by decide +kernel
set_option maxRecDepth 20000 in
theorem dX9_later_51 : decode cX9_later 51 = .ok (.invokestatic 82, 3) := by decide +kernel
set_option maxRecDepth 20000 in
theorem dX9_later_54 : decode cX9_later 54 = .ok (.iload 4, 2) := by decide +kernel
set_option maxRecDepth 20000 in
theorem dX9_later_56 : decode cX9_later 56 = .ok (.invokevirtual 131, 3) := by decide +kernel
set_option maxRecDepth 20000 in
theorem dX9_later_59 : decode cX9_later 59 = .ok (.ireturn, 1) := by decide +kernel
set_option maxRecDepth 20000 in
theorem dX9_item_0 : decode cX9_item 0 = .ok (.aload_n 0, 1) := by decide +kernel
set_option maxRecDepth 20000 in
theorem dX9_item_1 : decode cX9_item 1 = .ok (.iload_n 1, 1) := by decide +kernel
set_option maxRecDepth 20000 in
theorem dX9_item_2 : decode cX9_item 2 = .ok (.iload_n 2, 1) := by decide +kernel
set_option maxRecDepth 20000 in
theorem dX9_item_3 : decode cX9_item 3 = .ok (.invokevirtual 78, 3) := by decide +kernel
set_option maxRecDepth 20000 in
theorem dX9_item_6 : decode cX9_item 6 = .ok (.ifCond .ne 5, 3) := by decide +kernel
set_option maxRecDepth 20000 in
theorem dX9_item_9 : decode cX9_item 9 = .ok (.iconst (-1), 1) := by decide +kernel
set_option maxRecDepth 20000 in
theorem dX9_item_10 : decode cX9_item 10 = .ok (.ireturn, 1) := by decide +kernel
set_option maxRecDepth 20000 in
theorem dX9_item_11 : decode cX9_item 11 = .ok (.aload_n 0, 1) := by decide +kernel
set_option maxRecDepth 20000 in
theorem dX9_item_12 : decode cX9_item 12 = .ok (.getfield 49, 3) := by decide +kernel
set_option maxRecDepth 20000 in
theorem dX9_item_15 : decode cX9_item 15 = .ok (.invokevirtual 134, 3) := by decide +kernel
set_option maxRecDepth 20000 in
theorem dX9_item_18 : decode cX9_item 18 = .ok (.ifCond .eq 8, 3) := by decide +kernel
set_option maxRecDepth 20000 in
theorem dX9_item_21 : decode cX9_item 21 = .ok (.bipush (-2), 2) := by decide +kernel
set_option maxRecDepth 20000 in
theorem dX9_item_23 : decode cX9_item 23 = .ok (.goto 15, 3) := by decide +kernel
set_option maxRecDepth 20000 in
theorem dX9_item_26 : decode cX9_item 26 = .ok (.aload_n 0, 1) := by decide +kernel
set_option maxRecDepth 20000 in
theorem dX9_item_27 : decode cX9_item 27 = .ok (.getfield 49, 3) := by decide +kernel
set_option maxRecDepth 20000 in
theorem dX9_item_30 : decode cX9_item 30 = .ok (.iload_n 1, 1) := by decide +kernel
set_option maxRecDepth 20000 in
theorem dX9_item_31 : decode cX9_item 31 = .ok (.iload_n 2, 1) := by decide +kernel
set_option maxRecDepth 20000 in
theorem dX9_item_32 : decode cX9_item 32 = .ok (.invokestatic 82, 3) := by decide +kernel
set_option maxRecDepth 20000 in
theorem dX9_item_35 : decode cX9_item 35 = .ok (.invokevirtual 135, 3) := by decide +kernel
set_option maxRecDepth 20000 in
theorem dX9_item_38 : decode cX9_item 38 = .ok (.ireturn, 1) := by decide +kernel
set_option maxRecDepth 20000 in
theorem dX9_group_0 : decode cX9_group 0 = .ok (.iload_n 1, 1) := by decide +kernel
set_option maxRecDepth 20000 in
theorem dX9_group_1 : decode cX9_group 1 = .ok (.iconst 4, 1) := by decide +kernel
set_option maxRecDepth 20000 in
theorem dX9_group_2 : decode cX9_group 2 = .ok (.invokestatic 99, 3) := by decide +kernel
set_option maxRecDepth 20000 in
theorem dX9_group_5 : decode cX9_group 5 = .ok (.ifCond .ne 5, 3) := by decide +kernel
set_option maxRecDepth 20000 in
theorem dX9_group_8 : decode cX9_group 8 = .ok (.iconst (-1), 1) := by decide +kernel
set_option maxRecDepth 20000 in
theorem dX9_group_9 : decode cX9_group 9 = .ok (.ireturn, 1) := by decide +kernel
set_option maxRecDepth 20000 in
theorem dX9_group_10 : decode cX9_group 10 = .ok (.aload_n 0, 1) := by decide +kernel
set_option maxRecDepth 20000 in
theorem dX9_group_11 : decode cX9_group 11 = .ok (.getfield 49, 3) := by decide +kernel
set_option maxRecDepth 20000 in
theorem dX9_group_14 : decode cX9_group 14 = .ok (.invokevirtual 139, 3) := by decide +kernel
set_option maxRecDepth 20000 in
theorem dX9_group_17 : decode cX9_group 17 = .ok (.ifCond .eq 14, 3) := by decide +kernel
set_option maxRecDepth 20000 in
theorem dX9_group_20 : decode cX9_group 20 = .ok (.aload_n 0, 1) := by decide +kernel
set_option maxRecDepth 20000 in
theorem dX9_group_21 : decode cX9_group 21 = .ok (.getfield 49, 3) := by decide +kernel
set_option maxRecDepth 20000 in
theorem dX9_group_24 : decode cX9_group 24 = .ok (.iload_n 1, 1) := by decide +kernel
set_option maxRecDepth 20000 in
theorem dX9_group_25 : decode cX9_group 25 = .ok (.invokevirtual 142, 3) := by decide +kernel
set_option maxRecDepth 20000 in
theorem dX9_group_28 : decode cX9_group 28 = .ok (.goto 5, 3) := by decide +kernel
set_option maxRecDepth 20000 in
theorem dX9_group_31 : decode cX9_group 31 = .ok (.bipush (-2), 2) := by decide +kernel
set_option maxRecDepth 20000 in
theorem dX9_group_33 : decode cX9_group 33 = .ok (.ireturn, 1) := by decide +kernel
set_option maxRecDepth 20000 in
theorem dX9_run_0 : decode cX9_run 0 = .ok (.iload_n 1, 1) := by decide +kernel
set_option maxRecDepth 20000 in
theorem dX9_run_1 : decode cX9_run 1 = .ok (.bipush 61, 2) := by decide +kernel
set_option maxRecDepth 20000 in
theorem dX9_run_3 : decode cX9_run 3 = .ok (.invokestatic 99, 3) := by decide +kernel
set_option maxRecDepth 20000 in
theorem dX9_run_6 : decode cX9_run 6 = .ok (.ifCond .ne 5, 3) := by decide +kernel
set_option maxRecDepth 20000 in
theorem dX9_run_9 : decode cX9_run 9 = .ok (.iconst (-1), 1) := by decide +kernel
set_option maxRecDepth 20000 in
theorem dX9_run_10 : decode cX9_run 10 = .ok (.ireturn, 1) := by decide +kernel
set_option maxRecDepth 20000 in
theorem dX9_run_11 : decode cX9_run 11 = .ok (.iconst 0, 1) := by decide +kernel
set_option maxRecDepth 20000 in
theorem dX9_run_12 : decode cX9_run 12 = .ok (.istore_n 2, 1) := by decide +kernel
set_option maxRecDepth 20000 in
theorem dX9_run_13 : decode cX9_run 13 = .ok (.iload_n 2, 1) := by decide +kernel
set_option maxRecDepth 20000 in
theorem dX9_run_14 : decode cX9_run 14 = .ok (.iload_n 1, 1) := by decide +kernel
set_option maxRecDepth 20000 in
theorem dX9_run_15 : decode cX9_run 15 = .ok (.if_icmp .ge 78, 3) := by decide +kernel
set_option maxRecDepth 20000 in
theorem dX9_run_18 : decode cX9_run 18 = .ok (.aload_n 0, 1) := by decide +kernel
set_option maxRecDepth 20000 in
theorem dX9_run_19 : decode cX9_run 19 = .ok (.getfield 12, 3) := by decide +kernel
set_option maxRecDepth 20000 in
theorem dX9_run_22 : decode cX9_run 22 = .ok (.invokevirtual 145, 3) := by decide +kernel
set_option maxRecDepth 20000 in
theorem dX9_run_25 : decode cX9_run 25 = .ok (.ifCond .gt 13, 3) := by decide +kernel
set_option maxRecDepth 20000 in
theorem dX9_run_28 : decode cX9_run 28 = .ok (.aload_n 0, 1) := by decide +kernel
set_option maxRecDepth 20000 in
theorem dX9_run_29 : decode cX9_run 29 = .ok (.getfield 33, 3) := by decide +kernel
set_option maxRecDepth 20000 in
theorem dX9_run_32 : decode cX9_run 32 = .ok (.invokevirtual 148, 3) := by decide +kernel
set_option maxRecDepth 20000 in
theorem dX9_run_35 : decode cX9_run 35 = .ok (.ifCond .le 58, 3) := by decide +kernel
set_option maxRecDepth 20000 in
theorem dX9_run_38 : decode cX9_run 38 = .ok (.aload_n 0, 1) := by decide +kernel
set_option maxRecDepth 20000 in
theorem dX9_run_39 : decode cX9_run 39 = .ok (.getfield 40, 3) := by decide +kernel
set_option maxRecDepth 20000 in
theorem dX9_run_42 : decode cX9_run 42 = .ok (.invokevirtual 151, 3) := by decide +kernel
set_option maxRecDepth 20000 in
theorem dX9_run_45 : decode cX9_run 45 = .ok (.aload_n 0, 1) := by decide +kernel
set_option maxRecDepth 20000 in
theorem dX9_run_46 : decode cX9_run 46 = .ok (.getfield 12, 3) := by decide +kernel
set_option maxRecDepth 20000 in
theorem dX9_run_49 : decode cX9_run 49 = .ok (.invokevirtual 145, 3) := by decide +kernel
set_option maxRecDepth 20000 in
theorem dX9_run_52 : decode cX9_run 52 = .ok (.ifCond .le 17, 3) := by decide +kernel
set_option maxRecDepth 20000 in
theorem dX9_run_55 : decode cX9_run 55 = .ok (.aload_n 0, 1) := by decide +kernel
set_option maxRecDepth 20000 in
theorem dX9_run_56 : decode cX9_run 56 = .ok (.aload_n 0, 1) := by decide +kernel
set_option maxRecDepth 20000 in
theorem dX9_run_57 : decode cX9_run 57 = .ok (.getfield 12, 3) := by decide +kernel
set_option maxRecDepth 20000 in
theorem dX9_run_60 : decode cX9_run 60 = .ok (.invokevirtual 154, 3) := by decide +kernel
set_option maxRecDepth 20000 in
theorem dX9_run_63 : decode cX9_run 63 = .ok (.invokevirtual 157, 3) := by decide +kernel
set_option maxRecDepth 20000 in
theorem dX9_run_66 : decode cX9_run 66 = .ok (.goto 14, 3) := by decide +kernel
set_option maxRecDepth 20000 in
theorem dX9_run_69 : decode cX9_run 69 = .ok (.aload_n 0, 1) := by decide +kernel
set_option maxRecDepth 20000 in
theorem dX9_run_70 : decode cX9_run 70 = .ok (.aload_n 0, 1) := by decide +kernel
set_option maxRecDepth 20000 in
theorem dX9_run_71 : decode cX9_run 71 = .ok (.getfield 33, 3) := by decide +kernel
set_option maxRecDepth 20000 in
theorem dX9_run_74 : decode cX9_run 74 = .ok (.invokevirtual 161, 3) := by decide +kernel
set_option maxRecDepth 20000 in
theorem dX9_run_77 : decode cX9_run 77 = .ok (.invokevirtual 164, 3) := by decide +kernel
set_option maxRecDepth 20000 in
theorem dX9_run_80 : decode cX9_run 80 = .ok (.aload_n 0, 1) := by decide +kernel
set_option maxRecDepth 20000 in
theorem dX9_run_81 : decode cX9_run 81 = .ok (.getfield 58, 3) := by decide +kernel
set_option maxRecDepth 20000 in
theorem dX9_run_84 : decode cX9_run 84 = .ok (.invokevirtual 127, 3) := by decide +kernel
set_option maxRecDepth 20000 in
theorem dX9_run_87 : decode cX9_run 87 = .ok (.iinc 2 1, 3) := by decide +kernel
set_option maxRecDepth 20000 in
theorem dX9_run_90 : decode cX9_run 90 = .ok (.goto (-77), 3) := by decide +kernel
set_option maxRecDepth 20000 in
theorem dX9_run_93 : decode cX9_run 93 = .ok (.iload_n 2, 1) := by decide +kernel
set_option maxRecDepth 20000 in
theorem dX9_run_94 : decode cX9_run 94 = .ok (.ireturn, 1) := by decide +kernel
set_option maxRecDepth 20000 in
theorem dX9_forget_0 : decode cX9_forget 0 = .ok (.aload_n 0, 1) := by decide +kernel
set_option maxRecDepth 20000 in
theorem dX9_forget_1 : decode cX9_forget 1 = .ok (.getfield 12, 3) := by decide +kernel
set_option maxRecDepth 20000 in
theorem dX9_forget_4 : decode cX9_forget 4 = .ok (.invokevirtual 167, 3) := by decide +kernel
set_option maxRecDepth 20000 in
theorem dX9_forget_7 : decode cX9_forget 7 = .ok (.istore_n 1, 1) := by decide +kernel
set_option maxRecDepth 20000 in
theorem dX9_forget_8 : decode cX9_forget 8 = .ok (.aload_n 0, 1) := by decide +kernel
set_option maxRecDepth 20000 in
theorem dX9_forget_9 : decode cX9_forget 9 = .ok (.getfield 12, 3) := by decide +kernel
set_option maxRecDepth 20000 in
theorem dX9_forget_12 : decode cX9_forget 12 = .ok (.invokevirtual 170, 3) := by decide +kernel
set_option maxRecDepth 20000 in
theorem dX9_forget_15 : decode cX9_forget 15 = .ok (.aload_n 0, 1) := by decide +kernel
set_option maxRecDepth 20000 in
theorem dX9_forget_16 : decode cX9_forget 16 = .ok (.getfield 19, 3) := by decide +kernel
set_option maxRecDepth 20000 in
theorem dX9_forget_19 : decode cX9_forget 19 = .ok (.invokevirtual 173, 3) := by decide +kernel
set_option maxRecDepth 20000 in
theorem dX9_forget_22 : decode cX9_forget 22 = .ok (.aload_n 0, 1) := by decide +kernel
set_option maxRecDepth 20000 in
theorem dX9_forget_23 : decode cX9_forget 23 = .ok (.getfield 33, 3) := by decide +kernel
set_option maxRecDepth 20000 in
theorem dX9_forget_26 : decode cX9_forget 26 = .ok (.invokevirtual 174, 3) := by decide +kernel
set_option maxRecDepth 20000 in
theorem dX9_forget_29 : decode cX9_forget 29 = .ok (.aload_n 0, 1) := by decide +kernel
set_option maxRecDepth 20000 in
theorem dX9_forget_30 : decode cX9_forget 30 = .ok (.getfield 40, 3) := by decide +kernel
set_option maxRecDepth 20000 in
theorem dX9_forget_33 : decode cX9_forget 33 = .ok (.invokevirtual 175, 3) := by decide +kernel
set_option maxRecDepth 20000 in
theorem dX9_forget_36 : decode cX9_forget 36 = .ok (.aload_n 0, 1) := by decide +kernel
set_option maxRecDepth 20000 in
theorem dX9_forget_37 : decode cX9_forget 37 = .ok (.getfield 49, 3) := by decide +kernel
set_option maxRecDepth 20000 in
theorem dX9_forget_40 : decode cX9_forget 40 = .ok (.invokevirtual 176, 3) := by decide +kernel
set_option maxRecDepth 20000 in
theorem dX9_forget_43 : decode cX9_forget 43 = .ok (.aload_n 0, 1) := by decide +kernel
set_option maxRecDepth 20000 in
theorem dX9_forget_44 : decode cX9_forget 44 = .ok (.getfield 58, 3) := by decide +kernel
set_option maxRecDepth 20000 in
theorem dX9_forget_47 : decode cX9_forget 47 = .ok (.invokevirtual 177, 3) := by decide +kernel
set_option maxRecDepth 20000 in
theorem dX9_forget_50 : decode cX9_forget 50 = .ok (.iload_n 1, 1) := by decide +kernel
set_option maxRecDepth 20000 in
theorem dX9_forget_51 : decode cX9_forget 51 = .ok (.ireturn, 1) := by decide +kernel
set_option maxRecDepth 20000 in
theorem dX9_state_0 : decode cX9_state 0 = .ok (.aload_n 0, 1) := by decide +kernel
set_option maxRecDepth 20000 in
theorem dX9_state_1 : decode cX9_state 1 = .ok (.getfield 12, 3) := by decide +kernel
set_option maxRecDepth 20000 in
theorem dX9_state_4 : decode cX9_state 4 = .ok (.iload_n 1, 1) := by decide +kernel
set_option maxRecDepth 20000 in
theorem dX9_state_5 : decode cX9_state 5 = .ok (.invokevirtual 74, 3) := by decide +kernel
set_option maxRecDepth 20000 in
theorem dX9_state_8 : decode cX9_state 8 = .ok (.ifCond .ne 5, 3) := by decide +kernel
set_option maxRecDepth 20000 in
theorem dX9_state_11 : decode cX9_state 11 = .ok (.iconst (-1), 1) := by decide +kernel
set_option maxRecDepth 20000 in
theorem dX9_state_12 : decode cX9_state 12 = .ok (.ireturn, 1) := by decide +kernel
set_option maxRecDepth 20000 in
theorem dX9_state_13 : decode cX9_state 13 = .ok (.aload_n 0, 1) := by decide +kernel
set_option maxRecDepth 20000 in
theorem dX9_state_14 : decode cX9_state 14 = .ok (.getfield 12, 3) := by decide +kernel
set_option maxRecDepth 20000 in
theorem dX9_state_17 : decode cX9_state 17 = .ok (.iload_n 1, 1) := by decide +kernel
set_option maxRecDepth 20000 in
theorem dX9_state_18 : decode cX9_state 18 = .ok (.invokevirtual 178, 3) := by decide +kernel
set_option maxRecDepth 20000 in
theorem dX9_state_21 : decode cX9_state 21 = .ok (.ifCond .ne 7, 3) := by decide +kernel
set_option maxRecDepth 20000 in
theorem dX9_state_24 : decode cX9_state 24 = .ok (.iconst 1, 1) := by decide +kernel
set_option maxRecDepth 20000 in
theorem dX9_state_25 : decode cX9_state 25 = .ok (.goto 4, 3) := by decide +kernel
set_option maxRecDepth 20000 in
theorem dX9_state_28 : decode cX9_state 28 = .ok (.iconst 0, 1) := by decide +kernel
set_option maxRecDepth 20000 in
theorem dX9_state_29 : decode cX9_state 29 = .ok (.istore_n 3, 1) := by decide +kernel
set_option maxRecDepth 20000 in
theorem dX9_state_30 : decode cX9_state 30 = .ok (.iload_n 2, 1) := by decide +kernel
set_option maxRecDepth 20000 in
theorem dX9_state_31 : decode cX9_state 31 = .ok (.tableswitch 163 0 7 #[45, 54, 74, 94, 111, 120, 129, 146], 45) := by decide +kernel
set_option maxRecDepth 20000 in
theorem dX9_state_76 : decode cX9_state 76 = .ok (.aload_n 0, 1) := by decide +kernel
set_option maxRecDepth 20000 in
theorem dX9_state_77 : decode cX9_state 77 = .ok (.getfield 12, 3) := by decide +kernel
set_option maxRecDepth 20000 in
theorem dX9_state_80 : decode cX9_state 80 = .ok (.iload_n 1, 1) := by decide +kernel
set_option maxRecDepth 20000 in
theorem dX9_state_81 : decode cX9_state 81 = .ok (.invokevirtual 178, 3) := by decide +kernel
set_option maxRecDepth 20000 in
theorem dX9_state_84 : decode cX9_state 84 = .ok (.ireturn, 1) := by decide +kernel
set_option maxRecDepth 20000 in
theorem dX9_state_85 : decode cX9_state 85 = .ok (.iload_n 3, 1) := by decide +kernel
set_option maxRecDepth 20000 in
theorem dX9_state_86 : decode cX9_state 86 = .ok (.ifCond .eq 7, 3) := by decide +kernel
set_option maxRecDepth 20000 in
theorem dX9_state_89 : decode cX9_state 89 = .ok (.iconst (-1), 1) := by decide +kernel
set_option maxRecDepth 20000 in
theorem dX9_state_90 : decode cX9_state 90 = .ok (.goto 14, 3) := by decide +kernel
set_option maxRecDepth 20000 in
theorem dX9_state_93 : decode cX9_state 93 = .ok (.aload_n 0, 1) := by decide +kernel
set_option maxRecDepth 20000 in
theorem dX9_state_94 : decode cX9_state 94 = .ok (.getfield 12, 3) := by decide +kernel
set_option maxRecDepth 20000 in
theorem dX9_state_97 : decode cX9_state 97 = .ok (.iload_n 1, 1) := by decide +kernel
set_option maxRecDepth 20000 in
theorem dX9_state_98 : decode cX9_state 98 = .ok (.invokevirtual 181, 3) := by decide +kernel
set_option maxRecDepth 20000 in
theorem dX9_state_101 : decode cX9_state 101 = .ok (.invokestatic 185, 3) := by decide +kernel
set_option maxRecDepth 20000 in
theorem dX9_state_104 : decode cX9_state 104 = .ok (.ireturn, 1) := by decide +kernel
set_option maxRecDepth 20000 in
theorem dX9_state_105 : decode cX9_state 105 = .ok (.iload_n 3, 1) := by decide +kernel
set_option maxRecDepth 20000 in
theorem dX9_state_106 : decode cX9_state 106 = .ok (.ifCond .eq 7, 3) := by decide +kernel
set_option maxRecDepth 20000 in
theorem dX9_state_109 : decode cX9_state 109 = .ok (.iconst (-1), 1) := by decide +kernel
set_option maxRecDepth 20000 in
theorem dX9_state_110 : decode cX9_state 110 = .ok (.goto 14, 3) := by decide +kernel
set_option maxRecDepth 20000 in
theorem dX9_state_113 : decode cX9_state 113 = .ok (.aload_n 0, 1) := by decide +kernel
set_option maxRecDepth 20000 in
theorem dX9_state_114 : decode cX9_state 114 = .ok (.getfield 12, 3) := by decide +kernel
set_option maxRecDepth 20000 in
theorem dX9_state_117 : decode cX9_state 117 = .ok (.iload_n 1, 1) := by decide +kernel
set_option maxRecDepth 20000 in
theorem dX9_state_118 : decode cX9_state 118 = .ok (.invokevirtual 181, 3) := by decide +kernel
set_option maxRecDepth 20000 in
theorem dX9_state_121 : decode cX9_state 121 = .ok (.invokestatic 188, 3) := by decide +kernel
set_option maxRecDepth 20000 in
theorem dX9_state_124 : decode cX9_state 124 = .ok (.ireturn, 1) := by decide +kernel
set_option maxRecDepth 20000 in
theorem dX9_state_125 : decode cX9_state 125 = .ok (.aload_n 0, 1) := by decide +kernel
set_option maxRecDepth 20000 in
theorem dX9_state_126 : decode cX9_state 126 = .ok (.getfield 12, 3) := by decide +kernel
set_option maxRecDepth 20000 in
theorem dX9_state_129 : decode cX9_state 129 = .ok (.iload_n 1, 1) := by decide +kernel
set_option maxRecDepth 20000 in
theorem dX9_state_130 : decode cX9_state 130 = .ok (.invokevirtual 191, 3) := by decide +kernel
set_option maxRecDepth 20000 in
theorem dX9_state_133 : decode cX9_state 133 = .ok (.ifCond .eq 7, 3) := by decide +kernel
set_option maxRecDepth 20000 in
theorem dX9_state_136 : decode cX9_state 136 = .ok (.iconst 1, 1) := by decide +kernel
set_option maxRecDepth 20000 in
theorem dX9_state_137 : decode cX9_state 137 = .ok (.goto 4, 3) := by decide +kernel
set_option maxRecDepth 20000 in
theorem dX9_state_140 : decode cX9_state 140 = .ok (.iconst 0, 1) := by decide +kernel
set_option maxRecDepth 20000 in
theorem dX9_state_141 : decode cX9_state 141 = .ok (.ireturn, 1) := by decide +kernel
set_option maxRecDepth 20000 in
theorem dX9_state_142 : decode cX9_state 142 = .ok (.aload_n 0, 1) := by decide +kernel
set_option maxRecDepth 20000 in
theorem dX9_state_143 : decode cX9_state 143 = .ok (.getfield 12, 3) := by decide +kernel
set_option maxRecDepth 20000 in
theorem dX9_state_146 : decode cX9_state 146 = .ok (.iload_n 1, 1) := by decide +kernel
set_option maxRecDepth 20000 in
theorem dX9_state_147 : decode cX9_state 147 = .ok (.invokevirtual 194, 3) := by decide +kernel
set_option maxRecDepth 20000 in
theorem dX9_state_150 : decode cX9_state 150 = .ok (.ireturn, 1) := by decide +kernel
set_option maxRecDepth 20000 in
theorem dX9_state_151 : decode cX9_state 151 = .ok (.aload_n 0, 1) := by decide +kernel
set_option maxRecDepth 20000 in
theorem dX9_state_152 : decode cX9_state 152 = .ok (.getfield 12, 3) := by decide +kernel
set_option maxRecDepth 20000 in
theorem dX9_state_155 : decode cX9_state 155 = .ok (.iload_n 1, 1) := by decide +kernel
set_option maxRecDepth 20000 in
theorem dX9_state_156 : decode cX9_state 156 = .ok (.invokevirtual 197, 3) := by decide +kernel
set_option maxRecDepth 20000 in
theorem dX9_state_159 : decode cX9_state 159 = .ok (.ireturn, 1) := by decide +kernel
set_option maxRecDepth 20000 in
theorem dX9_state_160 : decode cX9_state 160 = .ok (.aload_n 0, 1) := by decide +kernel
set_option maxRecDepth 20000 in
theorem dX9_state_161 : decode cX9_state 161 = .ok (.getfield 12, 3) := by decide +kernel
set_option maxRecDepth 20000 in
theorem dX9_state_164 : decode cX9_state 164 = .ok (.iload_n 1, 1) := by decide +kernel
set_option maxRecDepth 20000 in
theorem dX9_state_165 : decode cX9_state 165 = .ok (.invokevirtual 200, 3) := by decide +kernel
set_option maxRecDepth 20000 in
theorem dX9_state_168 : decode cX9_state 168 = .ok (.ifCond .eq 7, 3) := by decide +kernel
set_option maxRecDepth 20000 in
theorem dX9_state_171 : decode cX9_state 171 = .ok (.iconst 1, 1) := by decide +kernel
set_option maxRecDepth 20000 in
theorem dX9_state_172 : decode cX9_state 172 = .ok (.goto 4, 3) := by decide +kernel
set_option maxRecDepth 20000 in
theorem dX9_state_175 : decode cX9_state 175 = .ok (.iconst 0, 1) := by decide +kernel
set_option maxRecDepth 20000 in
theorem dX9_state_176 : decode cX9_state 176 = .ok (.ireturn, 1) := by decide +kernel
set_option maxRecDepth 20000 in
theorem dX9_state_177 : decode cX9_state 177 = .ok (.aload_n 0, 1) := by decide +kernel
set_option maxRecDepth 20000 in
theorem dX9_state_178 : decode cX9_state 178 = .ok (.getfield 58, 3) := by decide +kernel
set_option maxRecDepth 20000 in
theorem dX9_state_181 : decode cX9_state 181 = .ok (.iload_n 1, 1) := by decide +kernel
set_option maxRecDepth 20000 in
theorem dX9_state_182 : decode cX9_state 182 = .ok (.invokevirtual 203, 3) := by decide +kernel
set_option maxRecDepth 20000 in
theorem dX9_state_185 : decode cX9_state 185 = .ok (.ifCond .eq 7, 3) := by decide +kernel
set_option maxRecDepth 20000 in
theorem dX9_state_188 : decode cX9_state 188 = .ok (.iconst 1, 1) := by decide +kernel
set_option maxRecDepth 20000 in
theorem dX9_state_189 : decode cX9_state 189 = .ok (.goto 4, 3) := by decide +kernel
set_option maxRecDepth 20000 in
theorem dX9_state_192 : decode cX9_state 192 = .ok (.iconst 0, 1) := by decide +kernel
set_option maxRecDepth 20000 in
theorem dX9_state_193 : decode cX9_state 193 = .ok (.ireturn, 1) := by decide +kernel
set_option maxRecDepth 20000 in
theorem dX9_state_194 : decode cX9_state 194 = .ok (.iconst (-1), 1) := by decide +kernel
set_option maxRecDepth 20000 in
theorem dX9_state_195 : decode cX9_state 195 = .ok (.ireturn, 1) := by decide +kernel
set_option maxRecDepth 20000 in
theorem dX9_noted_0 : decode cX9_noted 0 = .ok (.iload_n 1, 1) := by decide +kernel
set_option maxRecDepth 20000 in
theorem dX9_noted_1 : decode cX9_noted 1 = .ok (.aload_n 0, 1) := by decide +kernel
set_option maxRecDepth 20000 in
theorem dX9_noted_2 : decode cX9_noted 2 = .ok (.getfield 40, 3) := by decide +kernel
set_option maxRecDepth 20000 in
theorem dX9_noted_5 : decode cX9_noted 5 = .ok (.invokevirtual 206, 3) := by decide +kernel
set_option maxRecDepth 20000 in
theorem dX9_noted_8 : decode cX9_noted 8 = .ok (.invokestatic 99, 3) := by decide +kernel
set_option maxRecDepth 20000 in
theorem dX9_noted_11 : decode cX9_noted 11 = .ok (.ifCond .ne 7, 3) := by decide +kernel
set_option maxRecDepth 20000 in
theorem dX9_noted_14 : decode cX9_noted 14 = .ok (.ldc2_w 209, 3) := by decide +kernel
set_option maxRecDepth 20000 in
theorem dX9_noted_17 : decode cX9_noted 17 = .ok (.lreturn, 1) := by decide +kernel
set_option maxRecDepth 20000 in
theorem dX9_noted_18 : decode cX9_noted 18 = .ok (.iload_n 2, 1) := by decide +kernel
set_option maxRecDepth 20000 in
theorem dX9_noted_19 : decode cX9_noted 19 = .ok (.tableswitch 61 0 2 #[25, 38, 51], 25) := by decide +kernel
set_option maxRecDepth 20000 in
theorem dX9_noted_44 : decode cX9_noted 44 = .ok (.aload_n 0, 1) := by decide +kernel
set_option maxRecDepth 20000 in
theorem dX9_noted_45 : decode cX9_noted 45 = .ok (.getfield 40, 3) := by decide +kernel
set_option maxRecDepth 20000 in
theorem dX9_noted_48 : decode cX9_noted 48 = .ok (.iload_n 1, 1) := by decide +kernel
set_option maxRecDepth 20000 in
theorem dX9_noted_49 : decode cX9_noted 49 = .ok (.invokevirtual 211, 3) := by decide +kernel
set_option maxRecDepth 20000 in
theorem dX9_noted_52 : decode cX9_noted 52 = .ok (.invokestatic 188, 3) := by decide +kernel
set_option maxRecDepth 20000 in
theorem dX9_noted_55 : decode cX9_noted 55 = .ok (.i2l, 1) := by decide +kernel
set_option maxRecDepth 20000 in
theorem dX9_noted_56 : decode cX9_noted 56 = .ok (.lreturn, 1) := by decide +kernel
set_option maxRecDepth 20000 in
theorem dX9_noted_57 : decode cX9_noted 57 = .ok (.aload_n 0, 1) := by decide +kernel
set_option maxRecDepth 20000 in
theorem dX9_noted_58 : decode cX9_noted 58 = .ok (.getfield 40, 3) := by decide +kernel
set_option maxRecDepth 20000 in
theorem dX9_noted_61 : decode cX9_noted 61 = .ok (.iload_n 1, 1) := by decide +kernel
set_option maxRecDepth 20000 in
theorem dX9_noted_62 : decode cX9_noted 62 = .ok (.invokevirtual 211, 3) := by decide +kernel
set_option maxRecDepth 20000 in
theorem dX9_noted_65 : decode cX9_noted 65 = .ok (.invokestatic 185, 3) := by decide +kernel
set_option maxRecDepth 20000 in
theorem dX9_noted_68 : decode cX9_noted 68 = .ok (.i2l, 1) := by decide +kernel
set_option maxRecDepth 20000 in
theorem dX9_noted_69 : decode cX9_noted 69 = .ok (.lreturn, 1) := by decide +kernel
set_option maxRecDepth 20000 in
theorem dX9_noted_70 : decode cX9_noted 70 = .ok (.aload_n 0, 1) := by decide +kernel
set_option maxRecDepth 20000 in
theorem dX9_noted_71 : decode cX9_noted 71 = .ok (.getfield 40, 3) := by decide +kernel
set_option maxRecDepth 20000 in
theorem dX9_noted_74 : decode cX9_noted 74 = .ok (.iload_n 1, 1) := by decide +kernel
set_option maxRecDepth 20000 in
theorem dX9_noted_75 : decode cX9_noted 75 = .ok (.invokevirtual 212, 3) := by decide +kernel
set_option maxRecDepth 20000 in
theorem dX9_noted_78 : decode cX9_noted 78 = .ok (.i2l, 1) := by decide +kernel
set_option maxRecDepth 20000 in
theorem dX9_noted_79 : decode cX9_noted 79 = .ok (.lreturn, 1) := by decide +kernel
set_option maxRecDepth 20000 in
theorem dX9_noted_80 : decode cX9_noted 80 = .ok (.ldc2_w 209, 3) := by decide +kernel
set_option maxRecDepth 20000 in
theorem dX9_noted_83 : decode cX9_noted 83 = .ok (.lreturn, 1) := by decide +kernel
set_option maxRecDepth 20000 in
theorem dX9_count_0 : decode cX9_count 0 = .ok (.iload_n 1, 1) := by decide +kernel
set_option maxRecDepth 20000 in
theorem dX9_count_1 : decode cX9_count 1 = .ok (.tableswitch 111 0 7 #[47, 55, 63, 71, 79, 87, 95, 103], 47) := by decide +kernel
set_option maxRecDepth 20000 in
theorem dX9_count_48 : decode cX9_count 48 = .ok (.aload_n 0, 1) := by decide +kernel
set_option maxRecDepth 20000 in
theorem dX9_count_49 : decode cX9_count 49 = .ok (.getfield 12, 3) := by decide +kernel
set_option maxRecDepth 20000 in
theorem dX9_count_52 : decode cX9_count 52 = .ok (.invokevirtual 167, 3) := by decide +kernel
set_option maxRecDepth 20000 in
theorem dX9_count_55 : decode cX9_count 55 = .ok (.ireturn, 1) := by decide +kernel
set_option maxRecDepth 20000 in
theorem dX9_count_56 : decode cX9_count 56 = .ok (.aload_n 0, 1) := by decide +kernel
set_option maxRecDepth 20000 in
theorem dX9_count_57 : decode cX9_count 57 = .ok (.getfield 12, 3) := by decide +kernel
set_option maxRecDepth 20000 in
theorem dX9_count_60 : decode cX9_count 60 = .ok (.invokevirtual 145, 3) := by decide +kernel
set_option maxRecDepth 20000 in
theorem dX9_count_63 : decode cX9_count 63 = .ok (.ireturn, 1) := by decide +kernel
set_option maxRecDepth 20000 in
theorem dX9_count_64 : decode cX9_count 64 = .ok (.aload_n 0, 1) := by decide +kernel
set_option maxRecDepth 20000 in
theorem dX9_count_65 : decode cX9_count 65 = .ok (.getfield 40, 3) := by decide +kernel
set_option maxRecDepth 20000 in
theorem dX9_count_68 : decode cX9_count 68 = .ok (.invokevirtual 215, 3) := by decide +kernel
set_option maxRecDepth 20000 in
theorem dX9_count_71 : decode cX9_count 71 = .ok (.ireturn, 1) := by decide +kernel
set_option maxRecDepth 20000 in
theorem dX9_count_72 : decode cX9_count 72 = .ok (.aload_n 0, 1) := by decide +kernel
set_option maxRecDepth 20000 in
theorem dX9_count_73 : decode cX9_count 73 = .ok (.getfield 33, 3) := by decide +kernel
set_option maxRecDepth 20000 in
theorem dX9_count_76 : decode cX9_count 76 = .ok (.invokevirtual 148, 3) := by decide +kernel
set_option maxRecDepth 20000 in
theorem dX9_count_79 : decode cX9_count 79 = .ok (.ireturn, 1) := by decide +kernel
set_option maxRecDepth 20000 in
theorem dX9_count_80 : decode cX9_count 80 = .ok (.aload_n 0, 1) := by decide +kernel
set_option maxRecDepth 20000 in
theorem dX9_count_81 : decode cX9_count 81 = .ok (.getfield 33, 3) := by decide +kernel
set_option maxRecDepth 20000 in
theorem dX9_count_84 : decode cX9_count 84 = .ok (.invokevirtual 218, 3) := by decide +kernel
set_option maxRecDepth 20000 in
theorem dX9_count_87 : decode cX9_count 87 = .ok (.ireturn, 1) := by decide +kernel
set_option maxRecDepth 20000 in
theorem dX9_count_88 : decode cX9_count 88 = .ok (.aload_n 0, 1) := by decide +kernel
set_option maxRecDepth 20000 in
theorem dX9_count_89 : decode cX9_count 89 = .ok (.getfield 40, 3) := by decide +kernel
set_option maxRecDepth 20000 in
theorem dX9_count_92 : decode cX9_count 92 = .ok (.invokevirtual 221, 3) := by decide +kernel
set_option maxRecDepth 20000 in
theorem dX9_count_95 : decode cX9_count 95 = .ok (.ireturn, 1) := by decide +kernel
set_option maxRecDepth 20000 in
theorem dX9_count_96 : decode cX9_count 96 = .ok (.aload_n 0, 1) := by decide +kernel
set_option maxRecDepth 20000 in
theorem dX9_count_97 : decode cX9_count 97 = .ok (.getfield 12, 3) := by decide +kernel
set_option maxRecDepth 20000 in
theorem dX9_count_100 : decode cX9_count 100 = .ok (.invokevirtual 224, 3) := by decide +kernel
set_option maxRecDepth 20000 in
theorem dX9_count_103 : decode cX9_count 103 = .ok (.ireturn, 1) := by decide +kernel
set_option maxRecDepth 20000 in
theorem dX9_count_104 : decode cX9_count 104 = .ok (.aload_n 0, 1) := by decide +kernel
set_option maxRecDepth 20000 in
theorem dX9_count_105 : decode cX9_count 105 = .ok (.getfield 49, 3) := by decide +kernel
set_option maxRecDepth 20000 in
theorem dX9_count_108 : decode cX9_count 108 = .ok (.invokevirtual 227, 3) := by decide +kernel
set_option maxRecDepth 20000 in
theorem dX9_count_111 : decode cX9_count 111 = .ok (.ireturn, 1) := by decide +kernel
set_option maxRecDepth 20000 in
theorem dX9_count_112 : decode cX9_count 112 = .ok (.iconst (-1), 1) := by decide +kernel
set_option maxRecDepth 20000 in
theorem dX9_count_113 : decode cX9_count 113 = .ok (.ireturn, 1) := by decide +kernel
set_option maxRecDepth 20000 in
theorem dX9_doJob_0 : decode cX9_doJob 0 = .ok (.iload_n 1, 1) := by decide +kernel
set_option maxRecDepth 20000 in
theorem dX9_doJob_1 : decode cX9_doJob 1 = .ok (.bipush 9, 2) := by decide +kernel
set_option maxRecDepth 20000 in
theorem dX9_doJob_3 : decode cX9_doJob 3 = .ok (.idiv, 1) := by decide +kernel
set_option maxRecDepth 20000 in
theorem dX9_doJob_4 : decode cX9_doJob 4 = .ok (.istore_n 2, 1) := by decide +kernel
set_option maxRecDepth 20000 in
theorem dX9_doJob_5 : decode cX9_doJob 5 = .ok (.iload_n 1, 1) := by decide +kernel
set_option maxRecDepth 20000 in
theorem dX9_doJob_6 : decode cX9_doJob 6 = .ok (.bipush 9, 2) := by decide +kernel
set_option maxRecDepth 20000 in
theorem dX9_doJob_8 : decode cX9_doJob 8 = .ok (.irem, 1) := by decide +kernel
set_option maxRecDepth 20000 in
theorem dX9_doJob_9 : decode cX9_doJob 9 = .ok (.istore_n 3, 1) := by decide +kernel
set_option maxRecDepth 20000 in
theorem dX9_doJob_10 : decode cX9_doJob 10 = .ok (.aload_n 0, 1) := by decide +kernel
set_option maxRecDepth 20000 in
theorem dX9_doJob_11 : decode cX9_doJob 11 = .ok (.getfield 12, 3) := by decide +kernel
set_option maxRecDepth 20000 in
theorem dX9_doJob_14 : decode cX9_doJob 14 = .ok (.iload_n 1, 1) := by decide +kernel
set_option maxRecDepth 20000 in
theorem dX9_doJob_15 : decode cX9_doJob 15 = .ok (.invokevirtual 230, 3) := by decide +kernel
set_option maxRecDepth 20000 in
theorem dX9_doJob_18 : decode cX9_doJob 18 = .ok (.istore 4, 2) := by decide +kernel
set_option maxRecDepth 20000 in
theorem dX9_doJob_20 : decode cX9_doJob 20 = .ok (.aload_n 0, 1) := by decide +kernel
set_option maxRecDepth 20000 in
theorem dX9_doJob_21 : decode cX9_doJob 21 = .ok (.getfield 12, 3) := by decide +kernel
set_option maxRecDepth 20000 in
theorem dX9_doJob_24 : decode cX9_doJob 24 = .ok (.iload 4, 2) := by decide +kernel
set_option maxRecDepth 20000 in
theorem dX9_doJob_26 : decode cX9_doJob 26 = .ok (.invokevirtual 178, 3) := by decide +kernel
set_option maxRecDepth 20000 in
theorem dX9_doJob_29 : decode cX9_doJob 29 = .ok (.istore 5, 2) := by decide +kernel
set_option maxRecDepth 20000 in
theorem dX9_doJob_31 : decode cX9_doJob 31 = .ok (.aload_n 0, 1) := by decide +kernel
set_option maxRecDepth 20000 in
theorem dX9_doJob_32 : decode cX9_doJob 32 = .ok (.getfield 12, 3) := by decide +kernel
set_option maxRecDepth 20000 in
theorem dX9_doJob_35 : decode cX9_doJob 35 = .ok (.iload 4, 2) := by decide +kernel
set_option maxRecDepth 20000 in
theorem dX9_doJob_37 : decode cX9_doJob 37 = .ok (.invokevirtual 181, 3) := by decide +kernel
set_option maxRecDepth 20000 in
theorem dX9_doJob_40 : decode cX9_doJob 40 = .ok (.lstore 6, 2) := by decide +kernel
set_option maxRecDepth 20000 in
theorem dX9_doJob_42 : decode cX9_doJob 42 = .ok (.iload_n 3, 1) := by decide +kernel
set_option maxRecDepth 20000 in
theorem dX9_doJob_43 : decode cX9_doJob 43 = .ok (.tableswitch 106 0 3 #[29, 53, 76, 91], 29) := by decide +kernel
set_option maxRecDepth 20000 in
theorem dX9_doJob_72 : decode cX9_doJob 72 = .ok (.aload_n 0, 1) := by decide +kernel
set_option maxRecDepth 20000 in
theorem dX9_doJob_73 : decode cX9_doJob 73 = .ok (.iload_n 2, 1) := by decide +kernel
set_option maxRecDepth 20000 in
theorem dX9_doJob_74 : decode cX9_doJob 74 = .ok (.aload_n 0, 1) := by decide +kernel
set_option maxRecDepth 20000 in
theorem dX9_doJob_75 : decode cX9_doJob 75 = .ok (.getfield 12, 3) := by decide +kernel
set_option maxRecDepth 20000 in
theorem dX9_doJob_78 : decode cX9_doJob 78 = .ok (.iload_n 2, 1) := by decide +kernel
set_option maxRecDepth 20000 in
theorem dX9_doJob_79 : decode cX9_doJob 79 = .ok (.invokevirtual 233, 3) := by decide +kernel
set_option maxRecDepth 20000 in
theorem dX9_doJob_82 : decode cX9_doJob 82 = .ok (.aload_n 0, 1) := by decide +kernel
set_option maxRecDepth 20000 in
theorem dX9_doJob_83 : decode cX9_doJob 83 = .ok (.getfield 12, 3) := by decide +kernel
set_option maxRecDepth 20000 in
theorem dX9_doJob_86 : decode cX9_doJob 86 = .ok (.iload_n 2, 1) := by decide +kernel
set_option maxRecDepth 20000 in
theorem dX9_doJob_87 : decode cX9_doJob 87 = .ok (.invokevirtual 236, 3) := by decide +kernel
set_option maxRecDepth 20000 in
theorem dX9_doJob_90 : decode cX9_doJob 90 = .ok (.invokevirtual 239, 3) := by decide +kernel
set_option maxRecDepth 20000 in
theorem dX9_doJob_93 : decode cX9_doJob 93 = .ok (.goto 79, 3) := by decide +kernel
set_option maxRecDepth 20000 in
theorem dX9_doJob_96 : decode cX9_doJob 96 = .ok (.aload_n 0, 1) := by decide +kernel
set_option maxRecDepth 20000 in
theorem dX9_doJob_97 : decode cX9_doJob 97 = .ok (.getfield 12, 3) := by decide +kernel
set_option maxRecDepth 20000 in
theorem dX9_doJob_100 : decode cX9_doJob 100 = .ok (.iload_n 2, 1) := by decide +kernel
set_option maxRecDepth 20000 in
theorem dX9_doJob_101 : decode cX9_doJob 101 = .ok (.iload 5, 2) := by decide +kernel
set_option maxRecDepth 20000 in
theorem dX9_doJob_103 : decode cX9_doJob 103 = .ok (.lload 6, 2) := by decide +kernel
set_option maxRecDepth 20000 in
theorem dX9_doJob_105 : decode cX9_doJob 105 = .ok (.aload_n 0, 1) := by decide +kernel
set_option maxRecDepth 20000 in
theorem dX9_doJob_106 : decode cX9_doJob 106 = .ok (.getfield 12, 3) := by decide +kernel
set_option maxRecDepth 20000 in
theorem dX9_doJob_109 : decode cX9_doJob 109 = .ok (.iload_n 2, 1) := by decide +kernel
set_option maxRecDepth 20000 in
theorem dX9_doJob_110 : decode cX9_doJob 110 = .ok (.invokevirtual 197, 3) := by decide +kernel
set_option maxRecDepth 20000 in
theorem dX9_doJob_113 : decode cX9_doJob 113 = .ok (.invokevirtual 88, 3) := by decide +kernel
set_option maxRecDepth 20000 in
theorem dX9_doJob_116 : decode cX9_doJob 116 = .ok (.goto 56, 3) := by decide +kernel
set_option maxRecDepth 20000 in
theorem dX9_doJob_119 : decode cX9_doJob 119 = .ok (.aload_n 0, 1) := by decide +kernel
set_option maxRecDepth 20000 in
theorem dX9_doJob_120 : decode cX9_doJob 120 = .ok (.getfield 58, 3) := by decide +kernel
set_option maxRecDepth 20000 in
theorem dX9_doJob_123 : decode cX9_doJob 123 = .ok (.iload_n 2, 1) := by decide +kernel
set_option maxRecDepth 20000 in
theorem dX9_doJob_124 : decode cX9_doJob 124 = .ok (.iload 5, 2) := by decide +kernel
set_option maxRecDepth 20000 in
theorem dX9_doJob_126 : decode cX9_doJob 126 = .ok (.lload 6, 2) := by decide +kernel
set_option maxRecDepth 20000 in
theorem dX9_doJob_128 : decode cX9_doJob 128 = .ok (.invokevirtual 243, 3) := by decide +kernel
set_option maxRecDepth 20000 in
theorem dX9_doJob_131 : decode cX9_doJob 131 = .ok (.goto 41, 3) := by decide +kernel
set_option maxRecDepth 20000 in
theorem dX9_doJob_134 : decode cX9_doJob 134 = .ok (.aload_n 0, 1) := by decide +kernel
set_option maxRecDepth 20000 in
theorem dX9_doJob_135 : decode cX9_doJob 135 = .ok (.getfield 58, 3) := by decide +kernel
set_option maxRecDepth 20000 in
theorem dX9_doJob_138 : decode cX9_doJob 138 = .ok (.iload_n 2, 1) := by decide +kernel
set_option maxRecDepth 20000 in
theorem dX9_doJob_139 : decode cX9_doJob 139 = .ok (.iload 5, 2) := by decide +kernel
set_option maxRecDepth 20000 in
theorem dX9_doJob_141 : decode cX9_doJob 141 = .ok (.lload 6, 2) := by decide +kernel
set_option maxRecDepth 20000 in
theorem dX9_doJob_143 : decode cX9_doJob 143 = .ok (.invokevirtual 247, 3) := by decide +kernel
set_option maxRecDepth 20000 in
theorem dX9_doJob_146 : decode cX9_doJob 146 = .ok (.goto 26, 3) := by decide +kernel
set_option maxRecDepth 20000 in
theorem dX9_doJob_149 : decode cX9_doJob 149 = .ok (.aload_n 0, 1) := by decide +kernel
set_option maxRecDepth 20000 in
theorem dX9_doJob_150 : decode cX9_doJob 150 = .ok (.getfield 49, 3) := by decide +kernel
set_option maxRecDepth 20000 in
theorem dX9_doJob_153 : decode cX9_doJob 153 = .ok (.iload_n 2, 1) := by decide +kernel
set_option maxRecDepth 20000 in
theorem dX9_doJob_154 : decode cX9_doJob 154 = .ok (.iload_n 3, 1) := by decide +kernel
set_option maxRecDepth 20000 in
theorem dX9_doJob_155 : decode cX9_doJob 155 = .ok (.iconst 4, 1) := by decide +kernel
set_option maxRecDepth 20000 in
theorem dX9_doJob_156 : decode cX9_doJob 156 = .ok (.isub, 1) := by decide +kernel
set_option maxRecDepth 20000 in
theorem dX9_doJob_157 : decode cX9_doJob 157 = .ok (.iload 5, 2) := by decide +kernel
set_option maxRecDepth 20000 in
theorem dX9_doJob_159 : decode cX9_doJob 159 = .ok (.lload 6, 2) := by decide +kernel
set_option maxRecDepth 20000 in
theorem dX9_doJob_161 : decode cX9_doJob 161 = .ok (.invokevirtual 250, 3) := by decide +kernel
set_option maxRecDepth 20000 in
theorem dX9_doJob_164 : decode cX9_doJob 164 = .ok (.aload_n 0, 1) := by decide +kernel
set_option maxRecDepth 20000 in
theorem dX9_doJob_165 : decode cX9_doJob 165 = .ok (.getfield 49, 3) := by decide +kernel
set_option maxRecDepth 20000 in
theorem dX9_doJob_168 : decode cX9_doJob 168 = .ok (.iload_n 2, 1) := by decide +kernel
set_option maxRecDepth 20000 in
theorem dX9_doJob_169 : decode cX9_doJob 169 = .ok (.invokevirtual 254, 3) := by decide +kernel
set_option maxRecDepth 20000 in
theorem dX9_doJob_172 : decode cX9_doJob 172 = .ok (.return_, 1) := by decide +kernel
set_option maxRecDepth 20000 in
theorem dX9_adopt_0 : decode cX9_adopt 0 = .ok (.lload_n 2, 1) := by decide +kernel
set_option maxRecDepth 20000 in
theorem dX9_adopt_1 : decode cX9_adopt 1 = .ok (.invokestatic 188, 3) := by decide +kernel
set_option maxRecDepth 20000 in
theorem dX9_adopt_4 : decode cX9_adopt 4 = .ok (.istore 5, 2) := by decide +kernel
set_option maxRecDepth 20000 in
theorem dX9_adopt_6 : decode cX9_adopt 6 = .ok (.lload_n 2, 1) := by decide +kernel
set_option maxRecDepth 20000 in
theorem dX9_adopt_7 : decode cX9_adopt 7 = .ok (.invokestatic 185, 3) := by decide +kernel
set_option maxRecDepth 20000 in
theorem dX9_adopt_10 : decode cX9_adopt 10 = .ok (.iconst 1, 1) := by decide +kernel
set_option maxRecDepth 20000 in
theorem dX9_adopt_11 : decode cX9_adopt 11 = .ok (.if_icmp .ne 18, 3) := by decide +kernel
set_option maxRecDepth 20000 in
theorem dX9_adopt_14 : decode cX9_adopt 14 = .ok (.aload_n 0, 1) := by decide +kernel
set_option maxRecDepth 20000 in
theorem dX9_adopt_15 : decode cX9_adopt 15 = .ok (.getfield 12, 3) := by decide +kernel
set_option maxRecDepth 20000 in
theorem dX9_adopt_18 : decode cX9_adopt 18 = .ok (.iload 5, 2) := by decide +kernel
set_option maxRecDepth 20000 in
theorem dX9_adopt_20 : decode cX9_adopt 20 = .ok (.iload_n 1, 1) := by decide +kernel
set_option maxRecDepth 20000 in
theorem dX9_adopt_21 : decode cX9_adopt 21 = .ok (.iconst 1, 1) := by decide +kernel
set_option maxRecDepth 20000 in
theorem dX9_adopt_22 : decode cX9_adopt 22 = .ok (.invokestatic 257, 3) := by decide +kernel
set_option maxRecDepth 20000 in
theorem dX9_adopt_25 : decode cX9_adopt 25 = .ok (.invokevirtual 261, 3) := by decide +kernel
set_option maxRecDepth 20000 in
theorem dX9_adopt_28 : decode cX9_adopt 28 = .ok (.return_, 1) := by decide +kernel
set_option maxRecDepth 20000 in
theorem dX9_adopt_29 : decode cX9_adopt 29 = .ok (.aload_n 0, 1) := by decide +kernel
set_option maxRecDepth 20000 in
theorem dX9_adopt_30 : decode cX9_adopt 30 = .ok (.getfield 19, 3) := by decide +kernel
set_option maxRecDepth 20000 in
theorem dX9_adopt_33 : decode cX9_adopt 33 = .ok (.iload 5, 2) := by decide +kernel
set_option maxRecDepth 20000 in
theorem dX9_adopt_35 : decode cX9_adopt 35 = .ok (.invokevirtual 265, 3) := by decide +kernel
set_option maxRecDepth 20000 in
theorem dX9_adopt_38 : decode cX9_adopt 38 = .ok (.tableswitch 115 0 2 #[26, 49, 72], 26) := by decide +kernel
set_option maxRecDepth 20000 in
theorem dX9_adopt_64 : decode cX9_adopt 64 = .ok (.aload_n 0, 1) := by decide +kernel
set_option maxRecDepth 20000 in
theorem dX9_adopt_65 : decode cX9_adopt 65 = .ok (.getfield 12, 3) := by decide +kernel
set_option maxRecDepth 20000 in
theorem dX9_adopt_68 : decode cX9_adopt 68 = .ok (.iload_n 1, 1) := by decide +kernel
set_option maxRecDepth 20000 in
theorem dX9_adopt_69 : decode cX9_adopt 69 = .ok (.iconst 1, 1) := by decide +kernel
set_option maxRecDepth 20000 in
theorem dX9_adopt_70 : decode cX9_adopt 70 = .ok (.aload_n 0, 1) := by decide +kernel
set_option maxRecDepth 20000 in
theorem dX9_adopt_71 : decode cX9_adopt 71 = .ok (.getfield 19, 3) := by decide +kernel
set_option maxRecDepth 20000 in
theorem dX9_adopt_74 : decode cX9_adopt 74 = .ok (.iload 5, 2) := by decide +kernel
set_option maxRecDepth 20000 in
theorem dX9_adopt_76 : decode cX9_adopt 76 = .ok (.invokevirtual 268, 3) := by decide +kernel
set_option maxRecDepth 20000 in
theorem dX9_adopt_79 : decode cX9_adopt 79 = .ok (.iload 4, 2) := by decide +kernel
set_option maxRecDepth 20000 in
theorem dX9_adopt_81 : decode cX9_adopt 81 = .ok (.invokevirtual 88, 3) := by decide +kernel
set_option maxRecDepth 20000 in
theorem dX9_adopt_84 : decode cX9_adopt 84 = .ok (.goto 69, 3) := by decide +kernel
set_option maxRecDepth 20000 in
theorem dX9_adopt_87 : decode cX9_adopt 87 = .ok (.aload_n 0, 1) := by decide +kernel
set_option maxRecDepth 20000 in
theorem dX9_adopt_88 : decode cX9_adopt 88 = .ok (.getfield 12, 3) := by decide +kernel
set_option maxRecDepth 20000 in
theorem dX9_adopt_91 : decode cX9_adopt 91 = .ok (.iload_n 1, 1) := by decide +kernel
set_option maxRecDepth 20000 in
theorem dX9_adopt_92 : decode cX9_adopt 92 = .ok (.iconst 2, 1) := by decide +kernel
set_option maxRecDepth 20000 in
theorem dX9_adopt_93 : decode cX9_adopt 93 = .ok (.aload_n 0, 1) := by decide +kernel
set_option maxRecDepth 20000 in
theorem dX9_adopt_94 : decode cX9_adopt 94 = .ok (.getfield 19, 3) := by decide +kernel
set_option maxRecDepth 20000 in
theorem dX9_adopt_97 : decode cX9_adopt 97 = .ok (.iload 5, 2) := by decide +kernel
set_option maxRecDepth 20000 in
theorem dX9_adopt_99 : decode cX9_adopt 99 = .ok (.invokevirtual 268, 3) := by decide +kernel
set_option maxRecDepth 20000 in
theorem dX9_adopt_102 : decode cX9_adopt 102 = .ok (.iload 4, 2) := by decide +kernel
set_option maxRecDepth 20000 in
theorem dX9_adopt_104 : decode cX9_adopt 104 = .ok (.invokevirtual 88, 3) := by decide +kernel
set_option maxRecDepth 20000 in
theorem dX9_adopt_107 : decode cX9_adopt 107 = .ok (.goto 46, 3) := by decide +kernel
set_option maxRecDepth 20000 in
theorem dX9_adopt_110 : decode cX9_adopt 110 = .ok (.aload_n 0, 1) := by decide +kernel
set_option maxRecDepth 20000 in
theorem dX9_adopt_111 : decode cX9_adopt 111 = .ok (.getfield 12, 3) := by decide +kernel
set_option maxRecDepth 20000 in
theorem dX9_adopt_114 : decode cX9_adopt 114 = .ok (.iload_n 1, 1) := by decide +kernel
set_option maxRecDepth 20000 in
theorem dX9_adopt_115 : decode cX9_adopt 115 = .ok (.iconst 1, 1) := by decide +kernel
set_option maxRecDepth 20000 in
theorem dX9_adopt_116 : decode cX9_adopt 116 = .ok (.aload_n 0, 1) := by decide +kernel
set_option maxRecDepth 20000 in
theorem dX9_adopt_117 : decode cX9_adopt 117 = .ok (.getfield 19, 3) := by decide +kernel
set_option maxRecDepth 20000 in
theorem dX9_adopt_120 : decode cX9_adopt 120 = .ok (.iload 5, 2) := by decide +kernel
set_option maxRecDepth 20000 in
theorem dX9_adopt_122 : decode cX9_adopt 122 = .ok (.invokevirtual 268, 3) := by decide +kernel
set_option maxRecDepth 20000 in
theorem dX9_adopt_125 : decode cX9_adopt 125 = .ok (.iload 4, 2) := by decide +kernel
set_option maxRecDepth 20000 in
theorem dX9_adopt_127 : decode cX9_adopt 127 = .ok (.invokevirtual 88, 3) := by decide +kernel
set_option maxRecDepth 20000 in
theorem dX9_adopt_130 : decode cX9_adopt 130 = .ok (.aload_n 0, 1) := by decide +kernel
set_option maxRecDepth 20000 in
theorem dX9_adopt_131 : decode cX9_adopt 131 = .ok (.getfield 12, 3) := by decide +kernel
set_option maxRecDepth 20000 in
theorem dX9_adopt_134 : decode cX9_adopt 134 = .ok (.iload_n 1, 1) := by decide +kernel
set_option maxRecDepth 20000 in
theorem dX9_adopt_135 : decode cX9_adopt 135 = .ok (.iconst 2, 1) := by decide +kernel
set_option maxRecDepth 20000 in
theorem dX9_adopt_136 : decode cX9_adopt 136 = .ok (.aload_n 0, 1) := by decide +kernel
set_option maxRecDepth 20000 in
theorem dX9_adopt_137 : decode cX9_adopt 137 = .ok (.getfield 19, 3) := by decide +kernel
set_option maxRecDepth 20000 in
theorem dX9_adopt_140 : decode cX9_adopt 140 = .ok (.iload 5, 2) := by decide +kernel
set_option maxRecDepth 20000 in
theorem dX9_adopt_142 : decode cX9_adopt 142 = .ok (.invokevirtual 271, 3) := by decide +kernel
set_option maxRecDepth 20000 in
theorem dX9_adopt_145 : decode cX9_adopt 145 = .ok (.iload 4, 2) := by decide +kernel
set_option maxRecDepth 20000 in
theorem dX9_adopt_147 : decode cX9_adopt 147 = .ok (.invokevirtual 88, 3) := by decide +kernel
set_option maxRecDepth 20000 in
theorem dX9_adopt_150 : decode cX9_adopt 150 = .ok (.goto 3, 3) := by decide +kernel
set_option maxRecDepth 20000 in
theorem dX9_adopt_153 : decode cX9_adopt 153 = .ok (.return_, 1) := by decide +kernel
set_option maxRecDepth 20000 in
theorem dX9_doTask_0 : decode cX9_doTask 0 = .ok (.aload_n 0, 1) := by decide +kernel
set_option maxRecDepth 20000 in
theorem dX9_doTask_1 : decode cX9_doTask 1 = .ok (.getfield 58, 3) := by decide +kernel
set_option maxRecDepth 20000 in
theorem dX9_doTask_4 : decode cX9_doTask 4 = .ok (.aload_n 0, 1) := by decide +kernel
set_option maxRecDepth 20000 in
theorem dX9_doTask_5 : decode cX9_doTask 5 = .ok (.getfield 33, 3) := by decide +kernel
set_option maxRecDepth 20000 in
theorem dX9_doTask_8 : decode cX9_doTask 8 = .ok (.iload_n 1, 1) := by decide +kernel
set_option maxRecDepth 20000 in
theorem dX9_doTask_9 : decode cX9_doTask 9 = .ok (.invokevirtual 274, 3) := by decide +kernel
set_option maxRecDepth 20000 in
theorem dX9_doTask_12 : decode cX9_doTask 12 = .ok (.aload_n 0, 1) := by decide +kernel
set_option maxRecDepth 20000 in
theorem dX9_doTask_13 : decode cX9_doTask 13 = .ok (.getfield 33, 3) := by decide +kernel
set_option maxRecDepth 20000 in
theorem dX9_doTask_16 : decode cX9_doTask 16 = .ok (.iload_n 1, 1) := by decide +kernel
set_option maxRecDepth 20000 in
theorem dX9_doTask_17 : decode cX9_doTask 17 = .ok (.invokevirtual 277, 3) := by decide +kernel
set_option maxRecDepth 20000 in
theorem dX9_doTask_20 : decode cX9_doTask 20 = .ok (.iconst (-1), 1) := by decide +kernel
set_option maxRecDepth 20000 in
theorem dX9_doTask_21 : decode cX9_doTask 21 = .ok (.invokevirtual 278, 3) := by decide +kernel
set_option maxRecDepth 20000 in
theorem dX9_doTask_24 : decode cX9_doTask 24 = .ok (.aload_n 0, 1) := by decide +kernel
set_option maxRecDepth 20000 in
theorem dX9_doTask_25 : decode cX9_doTask 25 = .ok (.getfield 33, 3) := by decide +kernel
set_option maxRecDepth 20000 in
theorem dX9_doTask_28 : decode cX9_doTask 28 = .ok (.iload_n 1, 1) := by decide +kernel
set_option maxRecDepth 20000 in
theorem dX9_doTask_29 : decode cX9_doTask 29 = .ok (.invokevirtual 281, 3) := by decide +kernel
set_option maxRecDepth 20000 in
theorem dX9_doTask_32 : decode cX9_doTask 32 = .ok (.return_, 1) := by decide +kernel
set_option maxRecDepth 20000 in
theorem dX9_isValue_0 : decode cX9_isValue 0 = .ok (.iload_n 1, 1) := by decide +kernel
set_option maxRecDepth 20000 in
theorem dX9_isValue_1 : decode cX9_isValue 1 = .ok (.iload_n 2, 1) := by decide +kernel
set_option maxRecDepth 20000 in
theorem dX9_isValue_2 : decode cX9_isValue 2 = .ok (.aload_n 0, 1) := by decide +kernel
set_option maxRecDepth 20000 in
theorem dX9_isValue_3 : decode cX9_isValue 3 = .ok (.getfield 12, 3) := by decide +kernel
set_option maxRecDepth 20000 in
theorem dX9_isValue_6 : decode cX9_isValue 6 = .ok (.invokevirtual 167, 3) := by decide +kernel
set_option maxRecDepth 20000 in
theorem dX9_isValue_9 : decode cX9_isValue 9 = .ok (.invokestatic 284, 3) := by decide +kernel
set_option maxRecDepth 20000 in
theorem dX9_isValue_12 : decode cX9_isValue 12 = .ok (.ireturn, 1) := by decide +kernel
set_option maxRecDepth 20000 in
theorem dX9_isFunction_0 : decode cX9_isFunction 0 = .ok (.iload_n 0, 1) := by decide +kernel
set_option maxRecDepth 20000 in
theorem dX9_isFunction_1 : decode cX9_isFunction 1 = .ok (.bipush 10, 2) := by decide +kernel
set_option maxRecDepth 20000 in
theorem dX9_isFunction_3 : decode cX9_isFunction 3 = .ok (.invokestatic 99, 3) := by decide +kernel
set_option maxRecDepth 20000 in
theorem dX9_isFunction_6 : decode cX9_isFunction 6 = .ok (.ireturn, 1) := by decide +kernel
set_option maxRecDepth 20000 in
theorem dX9_isHandler_0 : decode cX9_isHandler 0 = .ok (.iload_n 0, 1) := by decide +kernel
set_option maxRecDepth 20000 in
theorem dX9_isHandler_1 : decode cX9_isHandler 1 = .ok (.iconst (-1), 1) := by decide +kernel
set_option maxRecDepth 20000 in
theorem dX9_isHandler_2 : decode cX9_isHandler 2 = .ok (.if_icmp .eq 10, 3) := by decide +kernel
set_option maxRecDepth 20000 in
theorem dX9_isHandler_5 : decode cX9_isHandler 5 = .ok (.iload_n 0, 1) := by decide +kernel
set_option maxRecDepth 20000 in
theorem dX9_isHandler_6 : decode cX9_isHandler 6 = .ok (.invokestatic 106, 3) := by decide +kernel
set_option maxRecDepth 20000 in
theorem dX9_isHandler_9 : decode cX9_isHandler 9 = .ok (.ifCond .eq 7, 3) := by decide +kernel
set_option maxRecDepth 20000 in
theorem dX9_isHandler_12 : decode cX9_isHandler 12 = .ok (.iconst 1, 1) := by decide +kernel
set_option maxRecDepth 20000 in
theorem dX9_isHandler_13 : decode cX9_isHandler 13 = .ok (.goto 4, 3) := by decide +kernel
set_option maxRecDepth 20000 in
theorem dX9_isHandler_16 : decode cX9_isHandler 16 = .ok (.iconst 0, 1) := by decide +kernel
set_option maxRecDepth 20000 in
theorem dX9_isHandler_17 : decode cX9_isHandler 17 = .ok (.ireturn, 1) := by decide +kernel
set_option maxRecDepth 20000 in
theorem dX9_isWithin_0 : decode cX9_isWithin 0 = .ok (.iload_n 0, 1) := by decide +kernel
set_option maxRecDepth 20000 in
theorem dX9_isWithin_1 : decode cX9_isWithin 1 = .ok (.ifCond .lt 12, 3) := by decide +kernel
set_option maxRecDepth 20000 in
theorem dX9_isWithin_4 : decode cX9_isWithin 4 = .ok (.iload_n 0, 1) := by decide +kernel
set_option maxRecDepth 20000 in
theorem dX9_isWithin_5 : decode cX9_isWithin 5 = .ok (.iload_n 1, 1) := by decide +kernel
set_option maxRecDepth 20000 in
theorem dX9_isWithin_6 : decode cX9_isWithin 6 = .ok (.if_icmp .ge 7, 3) := by decide +kernel
set_option maxRecDepth 20000 in
theorem dX9_isWithin_9 : decode cX9_isWithin 9 = .ok (.iconst 1, 1) := by decide +kernel
set_option maxRecDepth 20000 in
theorem dX9_isWithin_10 : decode cX9_isWithin 10 = .ok (.goto 4, 3) := by decide +kernel
set_option maxRecDepth 20000 in
theorem dX9_isWithin_13 : decode cX9_isWithin 13 = .ok (.iconst 0, 1) := by decide +kernel
set_option maxRecDepth 20000 in
theorem dX9_isWithin_14 : decode cX9_isWithin 14 = .ok (.ireturn, 1) := by decide +kernel
set_option maxRecDepth 20000 in
theorem dX9_jobOf_0 : decode cX9_jobOf 0 = .ok (.iload_n 0, 1) := by decide +kernel
set_option maxRecDepth 20000 in
theorem dX9_jobOf_1 : decode cX9_jobOf 1 = .ok (.bipush 9, 2) := by decide +kernel
set_option maxRecDepth 20000 in
theorem dX9_jobOf_3 : decode cX9_jobOf 3 = .ok (.imul, 1) := by decide +kernel
set_option maxRecDepth 20000 in
theorem dX9_jobOf_4 : decode cX9_jobOf 4 = .ok (.iload_n 1, 1) := by decide +kernel
set_option maxRecDepth 20000 in
theorem dX9_jobOf_5 : decode cX9_jobOf 5 = .ok (.iadd, 1) := by decide +kernel
set_option maxRecDepth 20000 in
theorem dX9_jobOf_6 : decode cX9_jobOf 6 = .ok (.ireturn, 1) := by decide +kernel
set_option maxRecDepth 20000 in
theorem dL_law_0 : decode cL_law 0 = .ok (.new 7, 3) := by decide +kernel
set_option maxRecDepth 20000 in
theorem dL_law_3 : decode cL_law 3 = .ok (.dup, 1) := by decide +kernel
set_option maxRecDepth 20000 in
theorem dL_law_4 : decode cL_law 4 = .ok (.invokespecial 9, 3) := by decide +kernel
set_option maxRecDepth 20000 in
theorem dL_law_7 : decode cL_law 7 = .ok (.astore_n 1, 1) := by decide +kernel
set_option maxRecDepth 20000 in
theorem dL_law_8 : decode cL_law 8 = .ok (.new 10, 3) := by decide +kernel
set_option maxRecDepth 20000 in
theorem dL_law_11 : decode cL_law 11 = .ok (.dup, 1) := by decide +kernel
set_option maxRecDepth 20000 in
theorem dL_law_12 : decode cL_law 12 = .ok (.invokespecial 12, 3) := by decide +kernel
set_option maxRecDepth 20000 in
theorem dL_law_15 : decode cL_law 15 = .ok (.astore_n 2, 1) := by decide +kernel
set_option maxRecDepth 20000 in
theorem dL_law_16 : decode cL_law 16 = .ok (.iconst 0, 1) := by decide +kernel
set_option maxRecDepth 20000 in
theorem dL_law_17 : decode cL_law 17 = .ok (.istore_n 3, 1) := by decide +kernel
set_option maxRecDepth 20000 in
theorem dL_law_18 : decode cL_law 18 = .ok (.iload_n 3, 1) := by decide +kernel
set_option maxRecDepth 20000 in
theorem dL_law_19 : decode cL_law 19 = .ok (.aload_n 0, 1) := by decide +kernel
set_option maxRecDepth 20000 in
theorem dL_law_20 : decode cL_law 20 = .ok (.arraylength, 1) := by decide +kernel
set_option maxRecDepth 20000 in
theorem dL_law_21 : decode cL_law 21 = .ok (.bipush 7, 2) := by decide +kernel
set_option maxRecDepth 20000 in
theorem dL_law_23 : decode cL_law 23 = .ok (.isub, 1) := by decide +kernel
set_option maxRecDepth 20000 in
theorem dL_law_24 : decode cL_law 24 = .ok (.if_icmp .gt 665, 3) := by decide +kernel
set_option maxRecDepth 20000 in
theorem dL_law_27 : decode cL_law 27 = .ok (.aload_n 0, 1) := by decide +kernel
set_option maxRecDepth 20000 in
theorem dL_law_28 : decode cL_law 28 = .ok (.iload_n 3, 1) := by decide +kernel
set_option maxRecDepth 20000 in
theorem dL_law_29 : decode cL_law 29 = .ok (.iaload, 1) := by decide +kernel
set_option maxRecDepth 20000 in
theorem dL_law_30 : decode cL_law 30 = .ok (.bipush 15, 2) := by decide +kernel
set_option maxRecDepth 20000 in
theorem dL_law_32 : decode cL_law 32 = .ok (.iand, 1) := by decide +kernel
set_option maxRecDepth 20000 in
theorem dL_law_33 : decode cL_law 33 = .ok (.tableswitch 650 0 15 #[79, 92, 135, 178, 221, 296, 349, 372, 415, 468, 501, 524, 547, 560, 593, 627], 79) := by decide +kernel
set_option maxRecDepth 20000 in
theorem dL_law_112 : decode cL_law 112 = .ok (.aload_n 1, 1) := by decide +kernel
set_option maxRecDepth 20000 in
theorem dL_law_113 : decode cL_law 113 = .ok (.invokevirtual 13, 3) := by decide +kernel
set_option maxRecDepth 20000 in
theorem dL_law_116 : decode cL_law 116 = .ok (.aload_n 2, 1) := by decide +kernel
set_option maxRecDepth 20000 in
theorem dL_law_117 : decode cL_law 117 = .ok (.invokevirtual 17, 3) := by decide +kernel
set_option maxRecDepth 20000 in
theorem dL_law_120 : decode cL_law 120 = .ok (.if_icmp .eq 563, 3) := by decide +kernel
set_option maxRecDepth 20000 in
theorem dL_law_123 : decode cL_law 123 = .ok (.iconst 0, 1) := by decide +kernel
set_option maxRecDepth 20000 in
theorem dL_law_124 : decode cL_law 124 = .ok (.ireturn, 1) := by decide +kernel
set_option maxRecDepth 20000 in
theorem dL_law_125 : decode cL_law 125 = .ok (.aload_n 1, 1) := by decide +kernel
set_option maxRecDepth 20000 in
theorem dL_law_126 : decode cL_law 126 = .ok (.aload_n 0, 1) := by decide +kernel
set_option maxRecDepth 20000 in
theorem dL_law_127 : decode cL_law 127 = .ok (.iload_n 3, 1) := by decide +kernel
set_option maxRecDepth 20000 in
theorem dL_law_128 : decode cL_law 128 = .ok (.iconst 1, 1) := by decide +kernel
set_option maxRecDepth 20000 in
theorem dL_law_129 : decode cL_law 129 = .ok (.iadd, 1) := by decide +kernel
set_option maxRecDepth 20000 in
theorem dL_law_130 : decode cL_law 130 = .ok (.iaload, 1) := by decide +kernel
set_option maxRecDepth 20000 in
theorem dL_law_131 : decode cL_law 131 = .ok (.aload_n 0, 1) := by decide +kernel
set_option maxRecDepth 20000 in
theorem dL_law_132 : decode cL_law 132 = .ok (.iload_n 3, 1) := by decide +kernel
set_option maxRecDepth 20000 in
theorem dL_law_133 : decode cL_law 133 = .ok (.iconst 2, 1) := by decide +kernel
set_option maxRecDepth 20000 in
theorem dL_law_134 : decode cL_law 134 = .ok (.iadd, 1) := by decide +kernel
set_option maxRecDepth 20000 in
theorem dL_law_135 : decode cL_law 135 = .ok (.iaload, 1) := by decide +kernel
set_option maxRecDepth 20000 in
theorem dL_law_136 : decode cL_law 136 = .ok (.aload_n 0, 1) := by decide +kernel
set_option maxRecDepth 20000 in
theorem dL_law_137 : decode cL_law 137 = .ok (.iload_n 3, 1) := by decide +kernel
set_option maxRecDepth 20000 in
theorem dL_law_138 : decode cL_law 138 = .ok (.iconst 3, 1) := by decide +kernel
set_option maxRecDepth 20000 in
theorem dL_law_139 : decode cL_law 139 = .ok (.iadd, 1) := by decide +kernel
set_option maxRecDepth 20000 in
theorem dL_law_140 : decode cL_law 140 = .ok (.iaload, 1) := by decide +kernel
set_option maxRecDepth 20000 in
theorem dL_law_141 : decode cL_law 141 = .ok (.invokevirtual 18, 3) := by decide +kernel
set_option maxRecDepth 20000 in
theorem dL_law_144 : decode cL_law 144 = .ok (.aload_n 2, 1) := by decide +kernel
set_option maxRecDepth 20000 in
theorem dL_law_145 : decode cL_law 145 = .ok (.aload_n 0, 1) := by decide +kernel
set_option maxRecDepth 20000 in
theorem dL_law_146 : decode cL_law 146 = .ok (.iload_n 3, 1) := by decide +kernel
set_option maxRecDepth 20000 in
theorem dL_law_147 : decode cL_law 147 = .ok (.iconst 1, 1) := by decide +kernel
set_option maxRecDepth 20000 in
theorem dL_law_148 : decode cL_law 148 = .ok (.iadd, 1) := by decide +kernel
set_option maxRecDepth 20000 in
theorem dL_law_149 : decode cL_law 149 = .ok (.iaload, 1) := by decide +kernel
set_option maxRecDepth 20000 in
theorem dL_law_150 : decode cL_law 150 = .ok (.aload_n 0, 1) := by decide +kernel
set_option maxRecDepth 20000 in
theorem dL_law_151 : decode cL_law 151 = .ok (.iload_n 3, 1) := by decide +kernel
set_option maxRecDepth 20000 in
theorem dL_law_152 : decode cL_law 152 = .ok (.iconst 2, 1) := by decide +kernel
set_option maxRecDepth 20000 in
theorem dL_law_153 : decode cL_law 153 = .ok (.iadd, 1) := by decide +kernel
set_option maxRecDepth 20000 in
theorem dL_law_154 : decode cL_law 154 = .ok (.iaload, 1) := by decide +kernel
set_option maxRecDepth 20000 in
theorem dL_law_155 : decode cL_law 155 = .ok (.aload_n 0, 1) := by decide +kernel
set_option maxRecDepth 20000 in
theorem dL_law_156 : decode cL_law 156 = .ok (.iload_n 3, 1) := by decide +kernel
set_option maxRecDepth 20000 in
theorem dL_law_157 : decode cL_law 157 = .ok (.iconst 3, 1) := by decide +kernel
set_option maxRecDepth 20000 in
theorem dL_law_158 : decode cL_law 158 = .ok (.iadd, 1) := by decide +kernel
set_option maxRecDepth 20000 in
theorem dL_law_159 : decode cL_law 159 = .ok (.iaload, 1) := by decide +kernel
set_option maxRecDepth 20000 in
theorem dL_law_160 : decode cL_law 160 = .ok (.invokevirtual 22, 3) := by decide +kernel
set_option maxRecDepth 20000 in
theorem dL_law_163 : decode cL_law 163 = .ok (.if_icmp .eq 520, 3) := by decide +kernel
set_option maxRecDepth 20000 in
theorem dL_law_166 : decode cL_law 166 = .ok (.iconst 0, 1) := by decide +kernel
set_option maxRecDepth 20000 in
theorem dL_law_167 : decode cL_law 167 = .ok (.ireturn, 1) := by decide +kernel
set_option maxRecDepth 20000 in
theorem dL_law_168 : decode cL_law 168 = .ok (.aload_n 1, 1) := by decide +kernel
set_option maxRecDepth 20000 in
theorem dL_law_169 : decode cL_law 169 = .ok (.aload_n 0, 1) := by decide +kernel
set_option maxRecDepth 20000 in
theorem dL_law_170 : decode cL_law 170 = .ok (.iload_n 3, 1) := by decide +kernel
set_option maxRecDepth 20000 in
theorem dL_law_171 : decode cL_law 171 = .ok (.iconst 1, 1) := by decide +kernel
set_option maxRecDepth 20000 in
theorem dL_law_172 : decode cL_law 172 = .ok (.iadd, 1) := by decide +kernel
set_option maxRecDepth 20000 in
theorem dL_law_173 : decode cL_law 173 = .ok (.iaload, 1) := by decide +kernel
set_option maxRecDepth 20000 in
theorem dL_law_174 : decode cL_law 174 = .ok (.aload_n 0, 1) := by decide +kernel
set_option maxRecDepth 20000 in
theorem dL_law_175 : decode cL_law 175 = .ok (.iload_n 3, 1) := by decide +kernel
set_option maxRecDepth 20000 in
theorem dL_law_176 : decode cL_law 176 = .ok (.iconst 2, 1) := by decide +kernel
set_option maxRecDepth 20000 in
theorem dL_law_177 : decode cL_law 177 = .ok (.iadd, 1) := by decide +kernel
set_option maxRecDepth 20000 in
theorem dL_law_178 : decode cL_law 178 = .ok (.iaload, 1) := by decide +kernel
set_option maxRecDepth 20000 in
theorem dL_law_179 : decode cL_law 179 = .ok (.aload_n 0, 1) := by decide +kernel
set_option maxRecDepth 20000 in
theorem dL_law_180 : decode cL_law 180 = .ok (.iload_n 3, 1) := by decide +kernel
set_option maxRecDepth 20000 in
theorem dL_law_181 : decode cL_law 181 = .ok (.iconst 3, 1) := by decide +kernel
set_option maxRecDepth 20000 in
theorem dL_law_182 : decode cL_law 182 = .ok (.iadd, 1) := by decide +kernel
set_option maxRecDepth 20000 in
theorem dL_law_183 : decode cL_law 183 = .ok (.iaload, 1) := by decide +kernel
set_option maxRecDepth 20000 in
theorem dL_law_184 : decode cL_law 184 = .ok (.invokevirtual 23, 3) := by decide +kernel
set_option maxRecDepth 20000 in
theorem dL_law_187 : decode cL_law 187 = .ok (.aload_n 2, 1) := by decide +kernel
set_option maxRecDepth 20000 in
theorem dL_law_188 : decode cL_law 188 = .ok (.aload_n 0, 1) := by decide +kernel
set_option maxRecDepth 20000 in
theorem dL_law_189 : decode cL_law 189 = .ok (.iload_n 3, 1) := by decide +kernel
set_option maxRecDepth 20000 in
theorem dL_law_190 : decode cL_law 190 = .ok (.iconst 1, 1) := by decide +kernel
set_option maxRecDepth 20000 in
theorem dL_law_191 : decode cL_law 191 = .ok (.iadd, 1) := by decide +kernel
set_option maxRecDepth 20000 in
theorem dL_law_192 : decode cL_law 192 = .ok (.iaload, 1) := by decide +kernel
set_option maxRecDepth 20000 in
theorem dL_law_193 : decode cL_law 193 = .ok (.aload_n 0, 1) := by decide +kernel
set_option maxRecDepth 20000 in
theorem dL_law_194 : decode cL_law 194 = .ok (.iload_n 3, 1) := by decide +kernel
set_option maxRecDepth 20000 in
theorem dL_law_195 : decode cL_law 195 = .ok (.iconst 2, 1) := by decide +kernel
set_option maxRecDepth 20000 in
theorem dL_law_196 : decode cL_law 196 = .ok (.iadd, 1) := by decide +kernel
set_option maxRecDepth 20000 in
theorem dL_law_197 : decode cL_law 197 = .ok (.iaload, 1) := by decide +kernel
set_option maxRecDepth 20000 in
theorem dL_law_198 : decode cL_law 198 = .ok (.aload_n 0, 1) := by decide +kernel
set_option maxRecDepth 20000 in
theorem dL_law_199 : decode cL_law 199 = .ok (.iload_n 3, 1) := by decide +kernel
set_option maxRecDepth 20000 in
theorem dL_law_200 : decode cL_law 200 = .ok (.iconst 3, 1) := by decide +kernel
set_option maxRecDepth 20000 in
theorem dL_law_201 : decode cL_law 201 = .ok (.iadd, 1) := by decide +kernel
set_option maxRecDepth 20000 in
theorem dL_law_202 : decode cL_law 202 = .ok (.iaload, 1) := by decide +kernel
set_option maxRecDepth 20000 in
theorem dL_law_203 : decode cL_law 203 = .ok (.invokevirtual 26, 3) := by decide +kernel
set_option maxRecDepth 20000 in
theorem dL_law_206 : decode cL_law 206 = .ok (.if_icmp .eq 477, 3) := by decide +kernel
set_option maxRecDepth 20000 in
theorem dL_law_209 : decode cL_law 209 = .ok (.iconst 0, 1) := by decide +kernel
set_option maxRecDepth 20000 in
theorem dL_law_210 : decode cL_law 210 = .ok (.ireturn, 1) := by decide +kernel
set_option maxRecDepth 20000 in
theorem dL_law_211 : decode cL_law 211 = .ok (.aload_n 1, 1) := by decide +kernel
set_option maxRecDepth 20000 in
theorem dL_law_212 : decode cL_law 212 = .ok (.aload_n 0, 1) := by decide +kernel
set_option maxRecDepth 20000 in
theorem dL_law_213 : decode cL_law 213 = .ok (.iload_n 3, 1) := by decide +kernel
set_option maxRecDepth 20000 in
theorem dL_law_214 : decode cL_law 214 = .ok (.iconst 1, 1) := by decide +kernel
set_option maxRecDepth 20000 in
theorem dL_law_215 : decode cL_law 215 = .ok (.iadd, 1) := by decide +kernel
set_option maxRecDepth 20000 in
theorem dL_law_216 : decode cL_law 216 = .ok (.iaload, 1) := by decide +kernel
set_option maxRecDepth 20000 in
theorem dL_law_217 : decode cL_law 217 = .ok (.aload_n 0, 1) := by decide +kernel
set_option maxRecDepth 20000 in
theorem dL_law_218 : decode cL_law 218 = .ok (.iload_n 3, 1) := by decide +kernel
set_option maxRecDepth 20000 in
theorem dL_law_219 : decode cL_law 219 = .ok (.iconst 2, 1) := by decide +kernel
set_option maxRecDepth 20000 in
theorem dL_law_220 : decode cL_law 220 = .ok (.iadd, 1) := by decide +kernel
set_option maxRecDepth 20000 in
theorem dL_law_221 : decode cL_law 221 = .ok (.iaload, 1) := by decide +kernel
set_option maxRecDepth 20000 in
theorem dL_law_222 : decode cL_law 222 = .ok (.aload_n 0, 1) := by decide +kernel
set_option maxRecDepth 20000 in
theorem dL_law_223 : decode cL_law 223 = .ok (.iload_n 3, 1) := by decide +kernel
set_option maxRecDepth 20000 in
theorem dL_law_224 : decode cL_law 224 = .ok (.iconst 3, 1) := by decide +kernel
set_option maxRecDepth 20000 in
theorem dL_law_225 : decode cL_law 225 = .ok (.iadd, 1) := by decide +kernel
set_option maxRecDepth 20000 in
theorem dL_law_226 : decode cL_law 226 = .ok (.iaload, 1) := by decide +kernel
set_option maxRecDepth 20000 in
theorem dL_law_227 : decode cL_law 227 = .ok (.invokevirtual 27, 3) := by decide +kernel
set_option maxRecDepth 20000 in
theorem dL_law_230 : decode cL_law 230 = .ok (.aload_n 2, 1) := by decide +kernel
set_option maxRecDepth 20000 in
theorem dL_law_231 : decode cL_law 231 = .ok (.aload_n 0, 1) := by decide +kernel
set_option maxRecDepth 20000 in
theorem dL_law_232 : decode cL_law 232 = .ok (.iload_n 3, 1) := by decide +kernel
set_option maxRecDepth 20000 in
theorem dL_law_233 : decode cL_law 233 = .ok (.iconst 1, 1) := by decide +kernel
set_option maxRecDepth 20000 in
theorem dL_law_234 : decode cL_law 234 = .ok (.iadd, 1) := by decide +kernel
set_option maxRecDepth 20000 in
theorem dL_law_235 : decode cL_law 235 = .ok (.iaload, 1) := by decide +kernel
set_option maxRecDepth 20000 in
theorem dL_law_236 : decode cL_law 236 = .ok (.aload_n 0, 1) := by decide +kernel
set_option maxRecDepth 20000 in
theorem dL_law_237 : decode cL_law 237 = .ok (.iload_n 3, 1) := by decide +kernel
set_option maxRecDepth 20000 in
theorem dL_law_238 : decode cL_law 238 = .ok (.iconst 2, 1) := by decide +kernel
set_option maxRecDepth 20000 in
theorem dL_law_239 : decode cL_law 239 = .ok (.iadd, 1) := by decide +kernel
set_option maxRecDepth 20000 in
theorem dL_law_240 : decode cL_law 240 = .ok (.iaload, 1) := by decide +kernel
set_option maxRecDepth 20000 in
theorem dL_law_241 : decode cL_law 241 = .ok (.aload_n 0, 1) := by decide +kernel
set_option maxRecDepth 20000 in
theorem dL_law_242 : decode cL_law 242 = .ok (.iload_n 3, 1) := by decide +kernel
set_option maxRecDepth 20000 in
theorem dL_law_243 : decode cL_law 243 = .ok (.iconst 3, 1) := by decide +kernel
set_option maxRecDepth 20000 in
theorem dL_law_244 : decode cL_law 244 = .ok (.iadd, 1) := by decide +kernel
set_option maxRecDepth 20000 in
theorem dL_law_245 : decode cL_law 245 = .ok (.iaload, 1) := by decide +kernel
set_option maxRecDepth 20000 in
theorem dL_law_246 : decode cL_law 246 = .ok (.invokevirtual 31, 3) := by decide +kernel
set_option maxRecDepth 20000 in
theorem dL_law_249 : decode cL_law 249 = .ok (.if_icmp .eq 434, 3) := by decide +kernel
set_option maxRecDepth 20000 in
theorem dL_law_252 : decode cL_law 252 = .ok (.iconst 0, 1) := by decide +kernel
set_option maxRecDepth 20000 in
theorem dL_law_253 : decode cL_law 253 = .ok (.ireturn, 1) := by decide +kernel
set_option maxRecDepth 20000 in
theorem dL_law_254 : decode cL_law 254 = .ok (.aload_n 1, 1) := by decide +kernel
set_option maxRecDepth 20000 in
theorem dL_law_255 : decode cL_law 255 = .ok (.aload_n 0, 1) := by decide +kernel
set_option maxRecDepth 20000 in
theorem dL_law_256 : decode cL_law 256 = .ok (.iload_n 3, 1) := by decide +kernel
set_option maxRecDepth 20000 in
theorem dL_law_257 : decode cL_law 257 = .ok (.iconst 1, 1) := by decide +kernel
set_option maxRecDepth 20000 in
theorem dL_law_258 : decode cL_law 258 = .ok (.iadd, 1) := by decide +kernel
set_option maxRecDepth 20000 in
theorem dL_law_259 : decode cL_law 259 = .ok (.iaload, 1) := by decide +kernel
set_option maxRecDepth 20000 in
theorem dL_law_260 : decode cL_law 260 = .ok (.aload_n 0, 1) := by decide +kernel
set_option maxRecDepth 20000 in
theorem dL_law_261 : decode cL_law 261 = .ok (.iload_n 3, 1) := by decide +kernel
set_option maxRecDepth 20000 in
theorem dL_law_262 : decode cL_law 262 = .ok (.iconst 2, 1) := by decide +kernel
set_option maxRecDepth 20000 in
theorem dL_law_263 : decode cL_law 263 = .ok (.iadd, 1) := by decide +kernel
set_option maxRecDepth 20000 in
theorem dL_law_264 : decode cL_law 264 = .ok (.iaload, 1) := by decide +kernel
set_option maxRecDepth 20000 in
theorem dL_law_265 : decode cL_law 265 = .ok (.aload_n 0, 1) := by decide +kernel
set_option maxRecDepth 20000 in
theorem dL_law_266 : decode cL_law 266 = .ok (.iload_n 3, 1) := by decide +kernel
set_option maxRecDepth 20000 in
theorem dL_law_267 : decode cL_law 267 = .ok (.iconst 3, 1) := by decide +kernel
set_option maxRecDepth 20000 in
theorem dL_law_268 : decode cL_law 268 = .ok (.iadd, 1) := by decide +kernel
set_option maxRecDepth 20000 in
theorem dL_law_269 : decode cL_law 269 = .ok (.iaload, 1) := by decide +kernel
set_option maxRecDepth 20000 in
theorem dL_law_270 : decode cL_law 270 = .ok (.aload_n 0, 1) := by decide +kernel
set_option maxRecDepth 20000 in
theorem dL_law_271 : decode cL_law 271 = .ok (.iload_n 3, 1) := by decide +kernel
set_option maxRecDepth 20000 in
theorem dL_law_272 : decode cL_law 272 = .ok (.iconst 4, 1) := by decide +kernel
set_option maxRecDepth 20000 in
theorem dL_law_273 : decode cL_law 273 = .ok (.iadd, 1) := by decide +kernel
set_option maxRecDepth 20000 in
theorem dL_law_274 : decode cL_law 274 = .ok (.iaload, 1) := by decide +kernel
set_option maxRecDepth 20000 in
theorem dL_law_275 : decode cL_law 275 = .ok (.aload_n 0, 1) := by decide +kernel
set_option maxRecDepth 20000 in
theorem dL_law_276 : decode cL_law 276 = .ok (.iload_n 3, 1) := by decide +kernel
set_option maxRecDepth 20000 in
theorem dL_law_277 : decode cL_law 277 = .ok (.iconst 5, 1) := by decide +kernel
set_option maxRecDepth 20000 in
theorem dL_law_278 : decode cL_law 278 = .ok (.iadd, 1) := by decide +kernel
set_option maxRecDepth 20000 in
theorem dL_law_279 : decode cL_law 279 = .ok (.iaload, 1) := by decide +kernel
set_option maxRecDepth 20000 in
theorem dL_law_280 : decode cL_law 280 = .ok (.aload_n 0, 1) := by decide +kernel
set_option maxRecDepth 20000 in
theorem dL_law_281 : decode cL_law 281 = .ok (.iload_n 3, 1) := by decide +kernel
set_option maxRecDepth 20000 in
theorem dL_law_282 : decode cL_law 282 = .ok (.bipush 6, 2) := by decide +kernel
set_option maxRecDepth 20000 in
theorem dL_law_284 : decode cL_law 284 = .ok (.iadd, 1) := by decide +kernel
set_option maxRecDepth 20000 in
theorem dL_law_285 : decode cL_law 285 = .ok (.iaload, 1) := by decide +kernel
set_option maxRecDepth 20000 in
theorem dL_law_286 : decode cL_law 286 = .ok (.invokevirtual 32, 3) := by decide +kernel
set_option maxRecDepth 20000 in
theorem dL_law_289 : decode cL_law 289 = .ok (.aload_n 2, 1) := by decide +kernel
set_option maxRecDepth 20000 in
theorem dL_law_290 : decode cL_law 290 = .ok (.aload_n 0, 1) := by decide +kernel
set_option maxRecDepth 20000 in
theorem dL_law_291 : decode cL_law 291 = .ok (.iload_n 3, 1) := by decide +kernel
set_option maxRecDepth 20000 in
theorem dL_law_292 : decode cL_law 292 = .ok (.iconst 1, 1) := by decide +kernel
set_option maxRecDepth 20000 in
theorem dL_law_293 : decode cL_law 293 = .ok (.iadd, 1) := by decide +kernel
set_option maxRecDepth 20000 in
theorem dL_law_294 : decode cL_law 294 = .ok (.iaload, 1) := by decide +kernel
set_option maxRecDepth 20000 in
theorem dL_law_295 : decode cL_law 295 = .ok (.aload_n 0, 1) := by decide +kernel
set_option maxRecDepth 20000 in
theorem dL_law_296 : decode cL_law 296 = .ok (.iload_n 3, 1) := by decide +kernel
set_option maxRecDepth 20000 in
theorem dL_law_297 : decode cL_law 297 = .ok (.iconst 2, 1) := by decide +kernel
set_option maxRecDepth 20000 in
theorem dL_law_298 : decode cL_law 298 = .ok (.iadd, 1) := by decide +kernel
set_option maxRecDepth 20000 in
theorem dL_law_299 : decode cL_law 299 = .ok (.iaload, 1) := by decide +kernel
set_option maxRecDepth 20000 in
theorem dL_law_300 : decode cL_law 300 = .ok (.aload_n 0, 1) := by decide +kernel
set_option maxRecDepth 20000 in
theorem dL_law_301 : decode cL_law 301 = .ok (.iload_n 3, 1) := by decide +kernel
set_option maxRecDepth 20000 in
theorem dL_law_302 : decode cL_law 302 = .ok (.iconst 3, 1) := by decide +kernel
set_option maxRecDepth 20000 in
theorem dL_law_303 : decode cL_law 303 = .ok (.iadd, 1) := by decide +kernel
set_option maxRecDepth 20000 in
theorem dL_law_304 : decode cL_law 304 = .ok (.iaload, 1) := by decide +kernel
set_option maxRecDepth 20000 in
theorem dL_law_305 : decode cL_law 305 = .ok (.aload_n 0, 1) := by decide +kernel
set_option maxRecDepth 20000 in
theorem dL_law_306 : decode cL_law 306 = .ok (.iload_n 3, 1) := by decide +kernel
set_option maxRecDepth 20000 in
theorem dL_law_307 : decode cL_law 307 = .ok (.iconst 4, 1) := by decide +kernel
set_option maxRecDepth 20000 in
theorem dL_law_308 : decode cL_law 308 = .ok (.iadd, 1) := by decide +kernel
set_option maxRecDepth 20000 in
theorem dL_law_309 : decode cL_law 309 = .ok (.iaload, 1) := by decide +kernel
set_option maxRecDepth 20000 in
theorem dL_law_310 : decode cL_law 310 = .ok (.aload_n 0, 1) := by decide +kernel
set_option maxRecDepth 20000 in
theorem dL_law_311 : decode cL_law 311 = .ok (.iload_n 3, 1) := by decide +kernel
set_option maxRecDepth 20000 in
theorem dL_law_312 : decode cL_law 312 = .ok (.iconst 5, 1) := by decide +kernel
set_option maxRecDepth 20000 in
theorem dL_law_313 : decode cL_law 313 = .ok (.iadd, 1) := by decide +kernel
set_option maxRecDepth 20000 in
theorem dL_law_314 : decode cL_law 314 = .ok (.iaload, 1) := by decide +kernel
set_option maxRecDepth 20000 in
theorem dL_law_315 : decode cL_law 315 = .ok (.aload_n 0, 1) := by decide +kernel
set_option maxRecDepth 20000 in
theorem dL_law_316 : decode cL_law 316 = .ok (.iload_n 3, 1) := by decide +kernel
set_option maxRecDepth 20000 in
theorem dL_law_317 : decode cL_law 317 = .ok (.bipush 6, 2) := by decide +kernel
set_option maxRecDepth 20000 in
theorem dL_law_319 : decode cL_law 319 = .ok (.iadd, 1) := by decide +kernel
set_option maxRecDepth 20000 in
theorem dL_law_320 : decode cL_law 320 = .ok (.iaload, 1) := by decide +kernel
set_option maxRecDepth 20000 in
theorem dL_law_321 : decode cL_law 321 = .ok (.invokevirtual 36, 3) := by decide +kernel
set_option maxRecDepth 20000 in
theorem dL_law_324 : decode cL_law 324 = .ok (.if_icmp .eq 359, 3) := by decide +kernel
set_option maxRecDepth 20000 in
theorem dL_law_327 : decode cL_law 327 = .ok (.iconst 0, 1) := by decide +kernel
set_option maxRecDepth 20000 in
theorem dL_law_328 : decode cL_law 328 = .ok (.ireturn, 1) := by decide +kernel
set_option maxRecDepth 20000 in
theorem dL_law_329 : decode cL_law 329 = .ok (.aload_n 1, 1) := by decide +kernel
set_option maxRecDepth 20000 in
theorem dL_law_330 : decode cL_law 330 = .ok (.aload_n 0, 1) := by decide +kernel
set_option maxRecDepth 20000 in
theorem dL_law_331 : decode cL_law 331 = .ok (.iload_n 3, 1) := by decide +kernel
set_option maxRecDepth 20000 in
theorem dL_law_332 : decode cL_law 332 = .ok (.iconst 1, 1) := by decide +kernel
set_option maxRecDepth 20000 in
theorem dL_law_333 : decode cL_law 333 = .ok (.iadd, 1) := by decide +kernel
set_option maxRecDepth 20000 in
theorem dL_law_334 : decode cL_law 334 = .ok (.iaload, 1) := by decide +kernel
set_option maxRecDepth 20000 in
theorem dL_law_335 : decode cL_law 335 = .ok (.aload_n 0, 1) := by decide +kernel
set_option maxRecDepth 20000 in
theorem dL_law_336 : decode cL_law 336 = .ok (.iload_n 3, 1) := by decide +kernel
set_option maxRecDepth 20000 in
theorem dL_law_337 : decode cL_law 337 = .ok (.iconst 2, 1) := by decide +kernel
set_option maxRecDepth 20000 in
theorem dL_law_338 : decode cL_law 338 = .ok (.iadd, 1) := by decide +kernel
set_option maxRecDepth 20000 in
theorem dL_law_339 : decode cL_law 339 = .ok (.iaload, 1) := by decide +kernel
set_option maxRecDepth 20000 in
theorem dL_law_340 : decode cL_law 340 = .ok (.aload_n 0, 1) := by decide +kernel
set_option maxRecDepth 20000 in
theorem dL_law_341 : decode cL_law 341 = .ok (.iload_n 3, 1) := by decide +kernel
set_option maxRecDepth 20000 in
theorem dL_law_342 : decode cL_law 342 = .ok (.iconst 3, 1) := by decide +kernel
set_option maxRecDepth 20000 in
theorem dL_law_343 : decode cL_law 343 = .ok (.iadd, 1) := by decide +kernel
set_option maxRecDepth 20000 in
theorem dL_law_344 : decode cL_law 344 = .ok (.iaload, 1) := by decide +kernel
set_option maxRecDepth 20000 in
theorem dL_law_345 : decode cL_law 345 = .ok (.aload_n 0, 1) := by decide +kernel
set_option maxRecDepth 20000 in
theorem dL_law_346 : decode cL_law 346 = .ok (.iload_n 3, 1) := by decide +kernel
set_option maxRecDepth 20000 in
theorem dL_law_347 : decode cL_law 347 = .ok (.iconst 4, 1) := by decide +kernel
set_option maxRecDepth 20000 in
theorem dL_law_348 : decode cL_law 348 = .ok (.iadd, 1) := by decide +kernel
set_option maxRecDepth 20000 in
theorem dL_law_349 : decode cL_law 349 = .ok (.iaload, 1) := by decide +kernel
set_option maxRecDepth 20000 in
theorem dL_law_350 : decode cL_law 350 = .ok (.invokevirtual 37, 3) := by decide +kernel
set_option maxRecDepth 20000 in
theorem dL_law_353 : decode cL_law 353 = .ok (.aload_n 2, 1) := by decide +kernel
set_option maxRecDepth 20000 in
theorem dL_law_354 : decode cL_law 354 = .ok (.aload_n 0, 1) := by decide +kernel
set_option maxRecDepth 20000 in
theorem dL_law_355 : decode cL_law 355 = .ok (.iload_n 3, 1) := by decide +kernel
set_option maxRecDepth 20000 in
theorem dL_law_356 : decode cL_law 356 = .ok (.iconst 1, 1) := by decide +kernel
set_option maxRecDepth 20000 in
theorem dL_law_357 : decode cL_law 357 = .ok (.iadd, 1) := by decide +kernel
set_option maxRecDepth 20000 in
theorem dL_law_358 : decode cL_law 358 = .ok (.iaload, 1) := by decide +kernel
set_option maxRecDepth 20000 in
theorem dL_law_359 : decode cL_law 359 = .ok (.aload_n 0, 1) := by decide +kernel
set_option maxRecDepth 20000 in
theorem dL_law_360 : decode cL_law 360 = .ok (.iload_n 3, 1) := by decide +kernel
set_option maxRecDepth 20000 in
theorem dL_law_361 : decode cL_law 361 = .ok (.iconst 2, 1) := by decide +kernel
set_option maxRecDepth 20000 in
theorem dL_law_362 : decode cL_law 362 = .ok (.iadd, 1) := by decide +kernel
set_option maxRecDepth 20000 in
theorem dL_law_363 : decode cL_law 363 = .ok (.iaload, 1) := by decide +kernel
set_option maxRecDepth 20000 in
theorem dL_law_364 : decode cL_law 364 = .ok (.aload_n 0, 1) := by decide +kernel
set_option maxRecDepth 20000 in
theorem dL_law_365 : decode cL_law 365 = .ok (.iload_n 3, 1) := by decide +kernel
set_option maxRecDepth 20000 in
theorem dL_law_366 : decode cL_law 366 = .ok (.iconst 3, 1) := by decide +kernel
set_option maxRecDepth 20000 in
theorem dL_law_367 : decode cL_law 367 = .ok (.iadd, 1) := by decide +kernel
set_option maxRecDepth 20000 in
theorem dL_law_368 : decode cL_law 368 = .ok (.iaload, 1) := by decide +kernel
set_option maxRecDepth 20000 in
theorem dL_law_369 : decode cL_law 369 = .ok (.aload_n 0, 1) := by decide +kernel
set_option maxRecDepth 20000 in
theorem dL_law_370 : decode cL_law 370 = .ok (.iload_n 3, 1) := by decide +kernel
set_option maxRecDepth 20000 in
theorem dL_law_371 : decode cL_law 371 = .ok (.iconst 4, 1) := by decide +kernel
set_option maxRecDepth 20000 in
theorem dL_law_372 : decode cL_law 372 = .ok (.iadd, 1) := by decide +kernel
set_option maxRecDepth 20000 in
theorem dL_law_373 : decode cL_law 373 = .ok (.iaload, 1) := by decide +kernel
set_option maxRecDepth 20000 in
theorem dL_law_374 : decode cL_law 374 = .ok (.invokevirtual 41, 3) := by decide +kernel
set_option maxRecDepth 20000 in
theorem dL_law_377 : decode cL_law 377 = .ok (.if_icmp .eq 306, 3) := by decide +kernel
set_option maxRecDepth 20000 in
theorem dL_law_380 : decode cL_law 380 = .ok (.iconst 0, 1) := by decide +kernel
set_option maxRecDepth 20000 in
theorem dL_law_381 : decode cL_law 381 = .ok (.ireturn, 1) := by decide +kernel
set_option maxRecDepth 20000 in
theorem dL_law_382 : decode cL_law 382 = .ok (.aload_n 1, 1) := by decide +kernel
set_option maxRecDepth 20000 in
theorem dL_law_383 : decode cL_law 383 = .ok (.aload_n 0, 1) := by decide +kernel
set_option maxRecDepth 20000 in
theorem dL_law_384 : decode cL_law 384 = .ok (.iload_n 3, 1) := by decide +kernel
set_option maxRecDepth 20000 in
theorem dL_law_385 : decode cL_law 385 = .ok (.iconst 1, 1) := by decide +kernel
set_option maxRecDepth 20000 in
theorem dL_law_386 : decode cL_law 386 = .ok (.iadd, 1) := by decide +kernel
set_option maxRecDepth 20000 in
theorem dL_law_387 : decode cL_law 387 = .ok (.iaload, 1) := by decide +kernel
set_option maxRecDepth 20000 in
theorem dL_law_388 : decode cL_law 388 = .ok (.invokevirtual 42, 3) := by decide +kernel
set_option maxRecDepth 20000 in
theorem dL_law_391 : decode cL_law 391 = .ok (.aload_n 2, 1) := by decide +kernel
set_option maxRecDepth 20000 in
theorem dL_law_392 : decode cL_law 392 = .ok (.aload_n 0, 1) := by decide +kernel
set_option maxRecDepth 20000 in
theorem dL_law_393 : decode cL_law 393 = .ok (.iload_n 3, 1) := by decide +kernel
set_option maxRecDepth 20000 in
theorem dL_law_394 : decode cL_law 394 = .ok (.iconst 1, 1) := by decide +kernel
set_option maxRecDepth 20000 in
theorem dL_law_395 : decode cL_law 395 = .ok (.iadd, 1) := by decide +kernel
set_option maxRecDepth 20000 in
theorem dL_law_396 : decode cL_law 396 = .ok (.iaload, 1) := by decide +kernel
set_option maxRecDepth 20000 in
theorem dL_law_397 : decode cL_law 397 = .ok (.invokevirtual 46, 3) := by decide +kernel
set_option maxRecDepth 20000 in
theorem dL_law_400 : decode cL_law 400 = .ok (.if_icmp .eq 283, 3) := by decide +kernel
set_option maxRecDepth 20000 in
theorem dL_law_403 : decode cL_law 403 = .ok (.iconst 0, 1) := by decide +kernel
set_option maxRecDepth 20000 in
theorem dL_law_404 : decode cL_law 404 = .ok (.ireturn, 1) := by decide +kernel
set_option maxRecDepth 20000 in
theorem dL_law_405 : decode cL_law 405 = .ok (.aload_n 1, 1) := by decide +kernel
set_option maxRecDepth 20000 in
theorem dL_law_406 : decode cL_law 406 = .ok (.aload_n 0, 1) := by decide +kernel
set_option maxRecDepth 20000 in
theorem dL_law_407 : decode cL_law 407 = .ok (.iload_n 3, 1) := by decide +kernel
set_option maxRecDepth 20000 in
theorem dL_law_408 : decode cL_law 408 = .ok (.iconst 1, 1) := by decide +kernel
set_option maxRecDepth 20000 in
theorem dL_law_409 : decode cL_law 409 = .ok (.iadd, 1) := by decide +kernel
set_option maxRecDepth 20000 in
theorem dL_law_410 : decode cL_law 410 = .ok (.iaload, 1) := by decide +kernel
set_option maxRecDepth 20000 in
theorem dL_law_411 : decode cL_law 411 = .ok (.aload_n 0, 1) := by decide +kernel
set_option maxRecDepth 20000 in
theorem dL_law_412 : decode cL_law 412 = .ok (.iload_n 3, 1) := by decide +kernel
set_option maxRecDepth 20000 in
theorem dL_law_413 : decode cL_law 413 = .ok (.iconst 2, 1) := by decide +kernel
set_option maxRecDepth 20000 in
theorem dL_law_414 : decode cL_law 414 = .ok (.iadd, 1) := by decide +kernel
set_option maxRecDepth 20000 in
theorem dL_law_415 : decode cL_law 415 = .ok (.iaload, 1) := by decide +kernel
set_option maxRecDepth 20000 in
theorem dL_law_416 : decode cL_law 416 = .ok (.aload_n 0, 1) := by decide +kernel
set_option maxRecDepth 20000 in
theorem dL_law_417 : decode cL_law 417 = .ok (.iload_n 3, 1) := by decide +kernel
set_option maxRecDepth 20000 in
theorem dL_law_418 : decode cL_law 418 = .ok (.iconst 3, 1) := by decide +kernel
set_option maxRecDepth 20000 in
theorem dL_law_419 : decode cL_law 419 = .ok (.iadd, 1) := by decide +kernel
set_option maxRecDepth 20000 in
theorem dL_law_420 : decode cL_law 420 = .ok (.iaload, 1) := by decide +kernel
set_option maxRecDepth 20000 in
theorem dL_law_421 : decode cL_law 421 = .ok (.invokevirtual 47, 3) := by decide +kernel
set_option maxRecDepth 20000 in
theorem dL_law_424 : decode cL_law 424 = .ok (.aload_n 2, 1) := by decide +kernel
set_option maxRecDepth 20000 in
theorem dL_law_425 : decode cL_law 425 = .ok (.aload_n 0, 1) := by decide +kernel
set_option maxRecDepth 20000 in
theorem dL_law_426 : decode cL_law 426 = .ok (.iload_n 3, 1) := by decide +kernel
set_option maxRecDepth 20000 in
theorem dL_law_427 : decode cL_law 427 = .ok (.iconst 1, 1) := by decide +kernel
set_option maxRecDepth 20000 in
theorem dL_law_428 : decode cL_law 428 = .ok (.iadd, 1) := by decide +kernel
set_option maxRecDepth 20000 in
theorem dL_law_429 : decode cL_law 429 = .ok (.iaload, 1) := by decide +kernel
set_option maxRecDepth 20000 in
theorem dL_law_430 : decode cL_law 430 = .ok (.aload_n 0, 1) := by decide +kernel
set_option maxRecDepth 20000 in
theorem dL_law_431 : decode cL_law 431 = .ok (.iload_n 3, 1) := by decide +kernel
set_option maxRecDepth 20000 in
theorem dL_law_432 : decode cL_law 432 = .ok (.iconst 2, 1) := by decide +kernel
set_option maxRecDepth 20000 in
theorem dL_law_433 : decode cL_law 433 = .ok (.iadd, 1) := by decide +kernel
set_option maxRecDepth 20000 in
theorem dL_law_434 : decode cL_law 434 = .ok (.iaload, 1) := by decide +kernel
set_option maxRecDepth 20000 in
theorem dL_law_435 : decode cL_law 435 = .ok (.aload_n 0, 1) := by decide +kernel
set_option maxRecDepth 20000 in
theorem dL_law_436 : decode cL_law 436 = .ok (.iload_n 3, 1) := by decide +kernel
set_option maxRecDepth 20000 in
theorem dL_law_437 : decode cL_law 437 = .ok (.iconst 3, 1) := by decide +kernel
set_option maxRecDepth 20000 in
theorem dL_law_438 : decode cL_law 438 = .ok (.iadd, 1) := by decide +kernel
set_option maxRecDepth 20000 in
theorem dL_law_439 : decode cL_law 439 = .ok (.iaload, 1) := by decide +kernel
set_option maxRecDepth 20000 in
theorem dL_law_440 : decode cL_law 440 = .ok (.invokevirtual 50, 3) := by decide +kernel
set_option maxRecDepth 20000 in
theorem dL_law_443 : decode cL_law 443 = .ok (.if_icmp .eq 240, 3) := by decide +kernel
set_option maxRecDepth 20000 in
theorem dL_law_446 : decode cL_law 446 = .ok (.iconst 0, 1) := by decide +kernel
set_option maxRecDepth 20000 in
theorem dL_law_447 : decode cL_law 447 = .ok (.ireturn, 1) := by decide +kernel
set_option maxRecDepth 20000 in
theorem dL_law_448 : decode cL_law 448 = .ok (.aload_n 1, 1) := by decide +kernel
set_option maxRecDepth 20000 in
theorem dL_law_449 : decode cL_law 449 = .ok (.aload_n 0, 1) := by decide +kernel
set_option maxRecDepth 20000 in
theorem dL_law_450 : decode cL_law 450 = .ok (.iload_n 3, 1) := by decide +kernel
set_option maxRecDepth 20000 in
theorem dL_law_451 : decode cL_law 451 = .ok (.iconst 1, 1) := by decide +kernel
set_option maxRecDepth 20000 in
theorem dL_law_452 : decode cL_law 452 = .ok (.iadd, 1) := by decide +kernel
set_option maxRecDepth 20000 in
theorem dL_law_453 : decode cL_law 453 = .ok (.iaload, 1) := by decide +kernel
set_option maxRecDepth 20000 in
theorem dL_law_454 : decode cL_law 454 = .ok (.aload_n 0, 1) := by decide +kernel
set_option maxRecDepth 20000 in
theorem dL_law_455 : decode cL_law 455 = .ok (.iload_n 3, 1) := by decide +kernel
set_option maxRecDepth 20000 in
theorem dL_law_456 : decode cL_law 456 = .ok (.iconst 2, 1) := by decide +kernel
set_option maxRecDepth 20000 in
theorem dL_law_457 : decode cL_law 457 = .ok (.iadd, 1) := by decide +kernel
set_option maxRecDepth 20000 in
theorem dL_law_458 : decode cL_law 458 = .ok (.iaload, 1) := by decide +kernel
set_option maxRecDepth 20000 in
theorem dL_law_459 : decode cL_law 459 = .ok (.aload_n 0, 1) := by decide +kernel
set_option maxRecDepth 20000 in
theorem dL_law_460 : decode cL_law 460 = .ok (.iload_n 3, 1) := by decide +kernel
set_option maxRecDepth 20000 in
theorem dL_law_461 : decode cL_law 461 = .ok (.iconst 3, 1) := by decide +kernel
set_option maxRecDepth 20000 in
theorem dL_law_462 : decode cL_law 462 = .ok (.iadd, 1) := by decide +kernel
set_option maxRecDepth 20000 in
theorem dL_law_463 : decode cL_law 463 = .ok (.iaload, 1) := by decide +kernel
set_option maxRecDepth 20000 in
theorem dL_law_464 : decode cL_law 464 = .ok (.aload_n 0, 1) := by decide +kernel
set_option maxRecDepth 20000 in
theorem dL_law_465 : decode cL_law 465 = .ok (.iload_n 3, 1) := by decide +kernel
set_option maxRecDepth 20000 in
theorem dL_law_466 : decode cL_law 466 = .ok (.iconst 4, 1) := by decide +kernel
set_option maxRecDepth 20000 in
theorem dL_law_467 : decode cL_law 467 = .ok (.iadd, 1) := by decide +kernel
set_option maxRecDepth 20000 in
theorem dL_law_468 : decode cL_law 468 = .ok (.iaload, 1) := by decide +kernel
set_option maxRecDepth 20000 in
theorem dL_law_469 : decode cL_law 469 = .ok (.invokevirtual 51, 3) := by decide +kernel
set_option maxRecDepth 20000 in
theorem dL_law_472 : decode cL_law 472 = .ok (.aload_n 2, 1) := by decide +kernel
set_option maxRecDepth 20000 in
theorem dL_law_473 : decode cL_law 473 = .ok (.aload_n 0, 1) := by decide +kernel
set_option maxRecDepth 20000 in
theorem dL_law_474 : decode cL_law 474 = .ok (.iload_n 3, 1) := by decide +kernel
set_option maxRecDepth 20000 in
theorem dL_law_475 : decode cL_law 475 = .ok (.iconst 1, 1) := by decide +kernel
set_option maxRecDepth 20000 in
theorem dL_law_476 : decode cL_law 476 = .ok (.iadd, 1) := by decide +kernel
set_option maxRecDepth 20000 in
theorem dL_law_477 : decode cL_law 477 = .ok (.iaload, 1) := by decide +kernel
set_option maxRecDepth 20000 in
theorem dL_law_478 : decode cL_law 478 = .ok (.aload_n 0, 1) := by decide +kernel
set_option maxRecDepth 20000 in
theorem dL_law_479 : decode cL_law 479 = .ok (.iload_n 3, 1) := by decide +kernel
set_option maxRecDepth 20000 in
theorem dL_law_480 : decode cL_law 480 = .ok (.iconst 2, 1) := by decide +kernel
set_option maxRecDepth 20000 in
theorem dL_law_481 : decode cL_law 481 = .ok (.iadd, 1) := by decide +kernel
set_option maxRecDepth 20000 in
theorem dL_law_482 : decode cL_law 482 = .ok (.iaload, 1) := by decide +kernel
set_option maxRecDepth 20000 in
theorem dL_law_483 : decode cL_law 483 = .ok (.aload_n 0, 1) := by decide +kernel
set_option maxRecDepth 20000 in
theorem dL_law_484 : decode cL_law 484 = .ok (.iload_n 3, 1) := by decide +kernel
set_option maxRecDepth 20000 in
theorem dL_law_485 : decode cL_law 485 = .ok (.iconst 3, 1) := by decide +kernel
set_option maxRecDepth 20000 in
theorem dL_law_486 : decode cL_law 486 = .ok (.iadd, 1) := by decide +kernel
set_option maxRecDepth 20000 in
theorem dL_law_487 : decode cL_law 487 = .ok (.iaload, 1) := by decide +kernel
set_option maxRecDepth 20000 in
theorem dL_law_488 : decode cL_law 488 = .ok (.aload_n 0, 1) := by decide +kernel
set_option maxRecDepth 20000 in
theorem dL_law_489 : decode cL_law 489 = .ok (.iload_n 3, 1) := by decide +kernel
set_option maxRecDepth 20000 in
theorem dL_law_490 : decode cL_law 490 = .ok (.iconst 4, 1) := by decide +kernel
set_option maxRecDepth 20000 in
theorem dL_law_491 : decode cL_law 491 = .ok (.iadd, 1) := by decide +kernel
set_option maxRecDepth 20000 in
theorem dL_law_492 : decode cL_law 492 = .ok (.iaload, 1) := by decide +kernel
set_option maxRecDepth 20000 in
theorem dL_law_493 : decode cL_law 493 = .ok (.invokevirtual 54, 3) := by decide +kernel
set_option maxRecDepth 20000 in
theorem dL_law_496 : decode cL_law 496 = .ok (.if_icmp .eq 187, 3) := by decide +kernel
set_option maxRecDepth 20000 in
theorem dL_law_499 : decode cL_law 499 = .ok (.iconst 0, 1) := by decide +kernel
set_option maxRecDepth 20000 in
theorem dL_law_500 : decode cL_law 500 = .ok (.ireturn, 1) := by decide +kernel
set_option maxRecDepth 20000 in
theorem dL_law_501 : decode cL_law 501 = .ok (.aload_n 1, 1) := by decide +kernel
set_option maxRecDepth 20000 in
theorem dL_law_502 : decode cL_law 502 = .ok (.aload_n 0, 1) := by decide +kernel
set_option maxRecDepth 20000 in
theorem dL_law_503 : decode cL_law 503 = .ok (.iload_n 3, 1) := by decide +kernel
set_option maxRecDepth 20000 in
theorem dL_law_504 : decode cL_law 504 = .ok (.iconst 1, 1) := by decide +kernel
set_option maxRecDepth 20000 in
theorem dL_law_505 : decode cL_law 505 = .ok (.iadd, 1) := by decide +kernel
set_option maxRecDepth 20000 in
theorem dL_law_506 : decode cL_law 506 = .ok (.iaload, 1) := by decide +kernel
set_option maxRecDepth 20000 in
theorem dL_law_507 : decode cL_law 507 = .ok (.aload_n 0, 1) := by decide +kernel
set_option maxRecDepth 20000 in
theorem dL_law_508 : decode cL_law 508 = .ok (.iload_n 3, 1) := by decide +kernel
set_option maxRecDepth 20000 in
theorem dL_law_509 : decode cL_law 509 = .ok (.iconst 2, 1) := by decide +kernel
set_option maxRecDepth 20000 in
theorem dL_law_510 : decode cL_law 510 = .ok (.iadd, 1) := by decide +kernel
set_option maxRecDepth 20000 in
theorem dL_law_511 : decode cL_law 511 = .ok (.iaload, 1) := by decide +kernel
set_option maxRecDepth 20000 in
theorem dL_law_512 : decode cL_law 512 = .ok (.invokevirtual 55, 3) := by decide +kernel
set_option maxRecDepth 20000 in
theorem dL_law_515 : decode cL_law 515 = .ok (.aload_n 2, 1) := by decide +kernel
set_option maxRecDepth 20000 in
theorem dL_law_516 : decode cL_law 516 = .ok (.aload_n 0, 1) := by decide +kernel
set_option maxRecDepth 20000 in
theorem dL_law_517 : decode cL_law 517 = .ok (.iload_n 3, 1) := by decide +kernel
set_option maxRecDepth 20000 in
theorem dL_law_518 : decode cL_law 518 = .ok (.iconst 1, 1) := by decide +kernel
set_option maxRecDepth 20000 in
theorem dL_law_519 : decode cL_law 519 = .ok (.iadd, 1) := by decide +kernel
set_option maxRecDepth 20000 in
theorem dL_law_520 : decode cL_law 520 = .ok (.iaload, 1) := by decide +kernel
set_option maxRecDepth 20000 in
theorem dL_law_521 : decode cL_law 521 = .ok (.aload_n 0, 1) := by decide +kernel
set_option maxRecDepth 20000 in
theorem dL_law_522 : decode cL_law 522 = .ok (.iload_n 3, 1) := by decide +kernel
set_option maxRecDepth 20000 in
theorem dL_law_523 : decode cL_law 523 = .ok (.iconst 2, 1) := by decide +kernel
set_option maxRecDepth 20000 in
theorem dL_law_524 : decode cL_law 524 = .ok (.iadd, 1) := by decide +kernel
set_option maxRecDepth 20000 in
theorem dL_law_525 : decode cL_law 525 = .ok (.iaload, 1) := by decide +kernel
set_option maxRecDepth 20000 in
theorem dL_law_526 : decode cL_law 526 = .ok (.invokevirtual 59, 3) := by decide +kernel
set_option maxRecDepth 20000 in
theorem dL_law_529 : decode cL_law 529 = .ok (.if_icmp .eq 154, 3) := by decide +kernel
set_option maxRecDepth 20000 in
theorem dL_law_532 : decode cL_law 532 = .ok (.iconst 0, 1) := by decide +kernel
set_option maxRecDepth 20000 in
theorem dL_law_533 : decode cL_law 533 = .ok (.ireturn, 1) := by decide +kernel
set_option maxRecDepth 20000 in
theorem dL_law_534 : decode cL_law 534 = .ok (.aload_n 1, 1) := by decide +kernel
set_option maxRecDepth 20000 in
theorem dL_law_535 : decode cL_law 535 = .ok (.aload_n 0, 1) := by decide +kernel
set_option maxRecDepth 20000 in
theorem dL_law_536 : decode cL_law 536 = .ok (.iload_n 3, 1) := by decide +kernel
set_option maxRecDepth 20000 in
theorem dL_law_537 : decode cL_law 537 = .ok (.iconst 1, 1) := by decide +kernel
set_option maxRecDepth 20000 in
theorem dL_law_538 : decode cL_law 538 = .ok (.iadd, 1) := by decide +kernel
set_option maxRecDepth 20000 in
theorem dL_law_539 : decode cL_law 539 = .ok (.iaload, 1) := by decide +kernel
set_option maxRecDepth 20000 in
theorem dL_law_540 : decode cL_law 540 = .ok (.invokevirtual 60, 3) := by decide +kernel
set_option maxRecDepth 20000 in
theorem dL_law_543 : decode cL_law 543 = .ok (.aload_n 2, 1) := by decide +kernel
set_option maxRecDepth 20000 in
theorem dL_law_544 : decode cL_law 544 = .ok (.aload_n 0, 1) := by decide +kernel
set_option maxRecDepth 20000 in
theorem dL_law_545 : decode cL_law 545 = .ok (.iload_n 3, 1) := by decide +kernel
set_option maxRecDepth 20000 in
theorem dL_law_546 : decode cL_law 546 = .ok (.iconst 1, 1) := by decide +kernel
set_option maxRecDepth 20000 in
theorem dL_law_547 : decode cL_law 547 = .ok (.iadd, 1) := by decide +kernel
set_option maxRecDepth 20000 in
theorem dL_law_548 : decode cL_law 548 = .ok (.iaload, 1) := by decide +kernel
set_option maxRecDepth 20000 in
theorem dL_law_549 : decode cL_law 549 = .ok (.invokevirtual 63, 3) := by decide +kernel
set_option maxRecDepth 20000 in
theorem dL_law_552 : decode cL_law 552 = .ok (.if_icmp .eq 131, 3) := by decide +kernel
set_option maxRecDepth 20000 in
theorem dL_law_555 : decode cL_law 555 = .ok (.iconst 0, 1) := by decide +kernel
set_option maxRecDepth 20000 in
theorem dL_law_556 : decode cL_law 556 = .ok (.ireturn, 1) := by decide +kernel
set_option maxRecDepth 20000 in
theorem dL_law_557 : decode cL_law 557 = .ok (.aload_n 1, 1) := by decide +kernel
set_option maxRecDepth 20000 in
theorem dL_law_558 : decode cL_law 558 = .ok (.aload_n 0, 1) := by decide +kernel
set_option maxRecDepth 20000 in
theorem dL_law_559 : decode cL_law 559 = .ok (.iload_n 3, 1) := by decide +kernel
set_option maxRecDepth 20000 in
theorem dL_law_560 : decode cL_law 560 = .ok (.iconst 1, 1) := by decide +kernel
set_option maxRecDepth 20000 in
theorem dL_law_561 : decode cL_law 561 = .ok (.iadd, 1) := by decide +kernel
set_option maxRecDepth 20000 in
theorem dL_law_562 : decode cL_law 562 = .ok (.iaload, 1) := by decide +kernel
set_option maxRecDepth 20000 in
theorem dL_law_563 : decode cL_law 563 = .ok (.invokevirtual 64, 3) := by decide +kernel
set_option maxRecDepth 20000 in
theorem dL_law_566 : decode cL_law 566 = .ok (.aload_n 2, 1) := by decide +kernel
set_option maxRecDepth 20000 in
theorem dL_law_567 : decode cL_law 567 = .ok (.aload_n 0, 1) := by decide +kernel
set_option maxRecDepth 20000 in
theorem dL_law_568 : decode cL_law 568 = .ok (.iload_n 3, 1) := by decide +kernel
set_option maxRecDepth 20000 in
theorem dL_law_569 : decode cL_law 569 = .ok (.iconst 1, 1) := by decide +kernel
set_option maxRecDepth 20000 in
theorem dL_law_570 : decode cL_law 570 = .ok (.iadd, 1) := by decide +kernel
set_option maxRecDepth 20000 in
theorem dL_law_571 : decode cL_law 571 = .ok (.iaload, 1) := by decide +kernel
set_option maxRecDepth 20000 in
theorem dL_law_572 : decode cL_law 572 = .ok (.invokevirtual 67, 3) := by decide +kernel
set_option maxRecDepth 20000 in
theorem dL_law_575 : decode cL_law 575 = .ok (.if_icmp .eq 108, 3) := by decide +kernel
set_option maxRecDepth 20000 in
theorem dL_law_578 : decode cL_law 578 = .ok (.iconst 0, 1) := by decide +kernel
set_option maxRecDepth 20000 in
theorem dL_law_579 : decode cL_law 579 = .ok (.ireturn, 1) := by decide +kernel
set_option maxRecDepth 20000 in
theorem dL_law_580 : decode cL_law 580 = .ok (.aload_n 1, 1) := by decide +kernel
set_option maxRecDepth 20000 in
theorem dL_law_581 : decode cL_law 581 = .ok (.invokevirtual 68, 3) := by decide +kernel
set_option maxRecDepth 20000 in
theorem dL_law_584 : decode cL_law 584 = .ok (.aload_n 2, 1) := by decide +kernel
set_option maxRecDepth 20000 in
theorem dL_law_585 : decode cL_law 585 = .ok (.invokevirtual 71, 3) := by decide +kernel
set_option maxRecDepth 20000 in
theorem dL_law_588 : decode cL_law 588 = .ok (.if_icmp .eq 95, 3) := by decide +kernel
set_option maxRecDepth 20000 in
theorem dL_law_591 : decode cL_law 591 = .ok (.iconst 0, 1) := by decide +kernel
set_option maxRecDepth 20000 in
theorem dL_law_592 : decode cL_law 592 = .ok (.ireturn, 1) := by decide +kernel
set_option maxRecDepth 20000 in
theorem dL_law_593 : decode cL_law 593 = .ok (.aload_n 1, 1) := by decide +kernel
set_option maxRecDepth 20000 in
theorem dL_law_594 : decode cL_law 594 = .ok (.aload_n 0, 1) := by decide +kernel
set_option maxRecDepth 20000 in
theorem dL_law_595 : decode cL_law 595 = .ok (.iload_n 3, 1) := by decide +kernel
set_option maxRecDepth 20000 in
theorem dL_law_596 : decode cL_law 596 = .ok (.iconst 1, 1) := by decide +kernel
set_option maxRecDepth 20000 in
theorem dL_law_597 : decode cL_law 597 = .ok (.iadd, 1) := by decide +kernel
set_option maxRecDepth 20000 in
theorem dL_law_598 : decode cL_law 598 = .ok (.iaload, 1) := by decide +kernel
set_option maxRecDepth 20000 in
theorem dL_law_599 : decode cL_law 599 = .ok (.aload_n 0, 1) := by decide +kernel
set_option maxRecDepth 20000 in
theorem dL_law_600 : decode cL_law 600 = .ok (.iload_n 3, 1) := by decide +kernel
set_option maxRecDepth 20000 in
theorem dL_law_601 : decode cL_law 601 = .ok (.iconst 2, 1) := by decide +kernel
set_option maxRecDepth 20000 in
theorem dL_law_602 : decode cL_law 602 = .ok (.iadd, 1) := by decide +kernel
set_option maxRecDepth 20000 in
theorem dL_law_603 : decode cL_law 603 = .ok (.iaload, 1) := by decide +kernel
set_option maxRecDepth 20000 in
theorem dL_law_604 : decode cL_law 604 = .ok (.invokevirtual 72, 3) := by decide +kernel
set_option maxRecDepth 20000 in
theorem dL_law_607 : decode cL_law 607 = .ok (.aload_n 2, 1) := by decide +kernel
set_option maxRecDepth 20000 in
theorem dL_law_608 : decode cL_law 608 = .ok (.aload_n 0, 1) := by decide +kernel
set_option maxRecDepth 20000 in
theorem dL_law_609 : decode cL_law 609 = .ok (.iload_n 3, 1) := by decide +kernel
set_option maxRecDepth 20000 in
theorem dL_law_610 : decode cL_law 610 = .ok (.iconst 1, 1) := by decide +kernel
set_option maxRecDepth 20000 in
theorem dL_law_611 : decode cL_law 611 = .ok (.iadd, 1) := by decide +kernel
set_option maxRecDepth 20000 in
theorem dL_law_612 : decode cL_law 612 = .ok (.iaload, 1) := by decide +kernel
set_option maxRecDepth 20000 in
theorem dL_law_613 : decode cL_law 613 = .ok (.aload_n 0, 1) := by decide +kernel
set_option maxRecDepth 20000 in
theorem dL_law_614 : decode cL_law 614 = .ok (.iload_n 3, 1) := by decide +kernel
set_option maxRecDepth 20000 in
theorem dL_law_615 : decode cL_law 615 = .ok (.iconst 2, 1) := by decide +kernel
set_option maxRecDepth 20000 in
theorem dL_law_616 : decode cL_law 616 = .ok (.iadd, 1) := by decide +kernel
set_option maxRecDepth 20000 in
theorem dL_law_617 : decode cL_law 617 = .ok (.iaload, 1) := by decide +kernel
set_option maxRecDepth 20000 in
theorem dL_law_618 : decode cL_law 618 = .ok (.invokevirtual 75, 3) := by decide +kernel
set_option maxRecDepth 20000 in
theorem dL_law_621 : decode cL_law 621 = .ok (.if_icmp .eq 62, 3) := by decide +kernel
set_option maxRecDepth 20000 in
theorem dL_law_624 : decode cL_law 624 = .ok (.iconst 0, 1) := by decide +kernel
set_option maxRecDepth 20000 in
theorem dL_law_625 : decode cL_law 625 = .ok (.ireturn, 1) := by decide +kernel
set_option maxRecDepth 20000 in
theorem dL_law_626 : decode cL_law 626 = .ok (.aload_n 1, 1) := by decide +kernel
set_option maxRecDepth 20000 in
theorem dL_law_627 : decode cL_law 627 = .ok (.aload_n 0, 1) := by decide +kernel
set_option maxRecDepth 20000 in
theorem dL_law_628 : decode cL_law 628 = .ok (.iload_n 3, 1) := by decide +kernel
set_option maxRecDepth 20000 in
theorem dL_law_629 : decode cL_law 629 = .ok (.iconst 1, 1) := by decide +kernel
set_option maxRecDepth 20000 in
theorem dL_law_630 : decode cL_law 630 = .ok (.iadd, 1) := by decide +kernel
set_option maxRecDepth 20000 in
theorem dL_law_631 : decode cL_law 631 = .ok (.iaload, 1) := by decide +kernel
set_option maxRecDepth 20000 in
theorem dL_law_632 : decode cL_law 632 = .ok (.aload_n 0, 1) := by decide +kernel
set_option maxRecDepth 20000 in
theorem dL_law_633 : decode cL_law 633 = .ok (.iload_n 3, 1) := by decide +kernel
set_option maxRecDepth 20000 in
theorem dL_law_634 : decode cL_law 634 = .ok (.iconst 2, 1) := by decide +kernel
set_option maxRecDepth 20000 in
theorem dL_law_635 : decode cL_law 635 = .ok (.iadd, 1) := by decide +kernel
set_option maxRecDepth 20000 in
theorem dL_law_636 : decode cL_law 636 = .ok (.iaload, 1) := by decide +kernel
set_option maxRecDepth 20000 in
theorem dL_law_637 : decode cL_law 637 = .ok (.invokevirtual 76, 3) := by decide +kernel
set_option maxRecDepth 20000 in
theorem dL_law_640 : decode cL_law 640 = .ok (.aload_n 2, 1) := by decide +kernel
set_option maxRecDepth 20000 in
theorem dL_law_641 : decode cL_law 641 = .ok (.aload_n 0, 1) := by decide +kernel
set_option maxRecDepth 20000 in
theorem dL_law_642 : decode cL_law 642 = .ok (.iload_n 3, 1) := by decide +kernel
set_option maxRecDepth 20000 in
theorem dL_law_643 : decode cL_law 643 = .ok (.iconst 1, 1) := by decide +kernel
set_option maxRecDepth 20000 in
theorem dL_law_644 : decode cL_law 644 = .ok (.iadd, 1) := by decide +kernel
set_option maxRecDepth 20000 in
theorem dL_law_645 : decode cL_law 645 = .ok (.iaload, 1) := by decide +kernel
set_option maxRecDepth 20000 in
theorem dL_law_646 : decode cL_law 646 = .ok (.aload_n 0, 1) := by decide +kernel
set_option maxRecDepth 20000 in
theorem dL_law_647 : decode cL_law 647 = .ok (.iload_n 3, 1) := by decide +kernel
set_option maxRecDepth 20000 in
theorem dL_law_648 : decode cL_law 648 = .ok (.iconst 2, 1) := by decide +kernel
set_option maxRecDepth 20000 in
theorem dL_law_649 : decode cL_law 649 = .ok (.iadd, 1) := by decide +kernel
set_option maxRecDepth 20000 in
theorem dL_law_650 : decode cL_law 650 = .ok (.iaload, 1) := by decide +kernel
set_option maxRecDepth 20000 in
theorem dL_law_651 : decode cL_law 651 = .ok (.invokevirtual 80, 3) := by decide +kernel
set_option maxRecDepth 20000 in
theorem dL_law_654 : decode cL_law 654 = .ok (.lcmp, 1) := by decide +kernel
set_option maxRecDepth 20000 in
theorem dL_law_655 : decode cL_law 655 = .ok (.ifCond .eq 28, 3) := by decide +kernel
set_option maxRecDepth 20000 in
theorem dL_law_658 : decode cL_law 658 = .ok (.iconst 0, 1) := by decide +kernel
set_option maxRecDepth 20000 in
theorem dL_law_659 : decode cL_law 659 = .ok (.ireturn, 1) := by decide +kernel
set_option maxRecDepth 20000 in
theorem dL_law_660 : decode cL_law 660 = .ok (.aload_n 1, 1) := by decide +kernel
set_option maxRecDepth 20000 in
theorem dL_law_661 : decode cL_law 661 = .ok (.aload_n 0, 1) := by decide +kernel
set_option maxRecDepth 20000 in
theorem dL_law_662 : decode cL_law 662 = .ok (.iload_n 3, 1) := by decide +kernel
set_option maxRecDepth 20000 in
theorem dL_law_663 : decode cL_law 663 = .ok (.iconst 1, 1) := by decide +kernel
set_option maxRecDepth 20000 in
theorem dL_law_664 : decode cL_law 664 = .ok (.iadd, 1) := by decide +kernel
set_option maxRecDepth 20000 in
theorem dL_law_665 : decode cL_law 665 = .ok (.iaload, 1) := by decide +kernel
set_option maxRecDepth 20000 in
theorem dL_law_666 : decode cL_law 666 = .ok (.invokevirtual 81, 3) := by decide +kernel
set_option maxRecDepth 20000 in
theorem dL_law_669 : decode cL_law 669 = .ok (.aload_n 2, 1) := by decide +kernel
set_option maxRecDepth 20000 in
theorem dL_law_670 : decode cL_law 670 = .ok (.aload_n 0, 1) := by decide +kernel
set_option maxRecDepth 20000 in
theorem dL_law_671 : decode cL_law 671 = .ok (.iload_n 3, 1) := by decide +kernel
set_option maxRecDepth 20000 in
theorem dL_law_672 : decode cL_law 672 = .ok (.iconst 1, 1) := by decide +kernel
set_option maxRecDepth 20000 in
theorem dL_law_673 : decode cL_law 673 = .ok (.iadd, 1) := by decide +kernel
set_option maxRecDepth 20000 in
theorem dL_law_674 : decode cL_law 674 = .ok (.iaload, 1) := by decide +kernel
set_option maxRecDepth 20000 in
theorem dL_law_675 : decode cL_law 675 = .ok (.invokevirtual 84, 3) := by decide +kernel
set_option maxRecDepth 20000 in
theorem dL_law_678 : decode cL_law 678 = .ok (.if_icmp .eq 5, 3) := by decide +kernel
set_option maxRecDepth 20000 in
theorem dL_law_681 : decode cL_law 681 = .ok (.iconst 0, 1) := by decide +kernel
set_option maxRecDepth 20000 in
theorem dL_law_682 : decode cL_law 682 = .ok (.ireturn, 1) := by decide +kernel
set_option maxRecDepth 20000 in
theorem dL_law_683 : decode cL_law 683 = .ok (.iinc 3 7, 3) := by decide +kernel
set_option maxRecDepth 20000 in
theorem dL_law_686 : decode cL_law 686 = .ok (.goto (-668), 3) := by decide +kernel
set_option maxRecDepth 20000 in
theorem dL_law_689 : decode cL_law 689 = .ok (.iconst 1, 1) := by decide +kernel
set_option maxRecDepth 20000 in
theorem dL_law_690 : decode cL_law 690 = .ok (.ireturn, 1) := by decide +kernel
end
section
set_option maxRecDepth 20000 in
theorem dX10_init_0 : decode cX10_init 0 = .ok (.aload_n 0, 1) := by decide +kernel
set_option maxRecDepth 20000 in
theorem dX10_init_1 : decode cX10_init 1 = .ok (.invokespecial 1, 3) := by decide +kernel
set_option maxRecDepth 20000 in
theorem dX10_init_4 : decode cX10_init 4 = .ok (.aload_n 0, 1) := by decide +kernel
set_option maxRecDepth 20000 in
theorem dX10_init_5 : decode cX10_init 5 = .ok (.bipush 100, 2) := by decide +kernel
set_option maxRecDepth 20000 in
theorem dX10_init_7 : decode cX10_init 7 = .ok (.newarray .int, 2) := by decide +kernel
set_option maxRecDepth 20000 in
theorem dX10_init_9 : decode cX10_init 9 = .ok (.putfield 7, 3) := by decide +kernel
set_option maxRecDepth 20000 in
theorem dX10_init_12 : decode cX10_init 12 = .ok (.aload_n 0, 1) := by decide +kernel
set_option maxRecDepth 20000 in
theorem dX10_init_13 : decode cX10_init 13 = .ok (.bipush 100, 2) := by decide +kernel
set_option maxRecDepth 20000 in
theorem dX10_init_15 : decode cX10_init 15 = .ok (.newarray .int, 2) := by decide +kernel
set_option maxRecDepth 20000 in
theorem dX10_init_17 : decode cX10_init 17 = .ok (.putfield 13, 3) := by decide +kernel
set_option maxRecDepth 20000 in
theorem dX10_init_20 : decode cX10_init 20 = .ok (.aload_n 0, 1) := by decide +kernel
set_option maxRecDepth 20000 in
theorem dX10_init_21 : decode cX10_init 21 = .ok (.bipush 100, 2) := by decide +kernel
set_option maxRecDepth 20000 in
theorem dX10_init_23 : decode cX10_init 23 = .ok (.newarray .int, 2) := by decide +kernel
set_option maxRecDepth 20000 in
theorem dX10_init_25 : decode cX10_init 25 = .ok (.putfield 16, 3) := by decide +kernel
set_option maxRecDepth 20000 in
theorem dX10_init_28 : decode cX10_init 28 = .ok (.aload_n 0, 1) := by decide +kernel
set_option maxRecDepth 20000 in
theorem dX10_init_29 : decode cX10_init 29 = .ok (.bipush 100, 2) := by decide +kernel
set_option maxRecDepth 20000 in
theorem dX10_init_31 : decode cX10_init 31 = .ok (.newarray .int, 2) := by decide +kernel
set_option maxRecDepth 20000 in
theorem dX10_init_33 : decode cX10_init 33 = .ok (.putfield 19, 3) := by decide +kernel
set_option maxRecDepth 20000 in
theorem dX10_init_36 : decode cX10_init 36 = .ok (.aload_n 0, 1) := by decide +kernel
set_option maxRecDepth 20000 in
theorem dX10_init_37 : decode cX10_init 37 = .ok (.bipush 100, 2) := by decide +kernel
set_option maxRecDepth 20000 in
theorem dX10_init_39 : decode cX10_init 39 = .ok (.newarray .int, 2) := by decide +kernel
set_option maxRecDepth 20000 in
theorem dX10_init_41 : decode cX10_init 41 = .ok (.putfield 22, 3) := by decide +kernel
set_option maxRecDepth 20000 in
theorem dX10_init_44 : decode cX10_init 44 = .ok (.aload_n 0, 1) := by decide +kernel
set_option maxRecDepth 20000 in
theorem dX10_init_45 : decode cX10_init 45 = .ok (.bipush 100, 2) := by decide +kernel
set_option maxRecDepth 20000 in
theorem dX10_init_47 : decode cX10_init 47 = .ok (.newarray .int, 2) := by decide +kernel
set_option maxRecDepth 20000 in
theorem dX10_init_49 : decode cX10_init 49 = .ok (.putfield 25, 3) := by decide +kernel
set_option maxRecDepth 20000 in
theorem dX10_init_52 : decode cX10_init 52 = .ok (.aload_n 0, 1) := by decide +kernel
set_option maxRecDepth 20000 in
theorem dX10_init_53 : decode cX10_init 53 = .ok (.bipush 100, 2) := by decide +kernel
set_option maxRecDepth 20000 in
theorem dX10_init_55 : decode cX10_init 55 = .ok (.newarray .boolean, 2) := by decide +kernel
set_option maxRecDepth 20000 in
theorem dX10_init_57 : decode cX10_init 57 = .ok (.putfield 28, 3) := by decide +kernel
set_option maxRecDepth 20000 in
theorem dX10_init_60 : decode cX10_init 60 = .ok (.aload_n 0, 1) := by decide +kernel
set_option maxRecDepth 20000 in
theorem dX10_init_61 : decode cX10_init 61 = .ok (.bipush 100, 2) := by decide +kernel
set_option maxRecDepth 20000 in
theorem dX10_init_63 : decode cX10_init 63 = .ok (.newarray .boolean, 2) := by decide +kernel
set_option maxRecDepth 20000 in
theorem dX10_init_65 : decode cX10_init 65 = .ok (.putfield 32, 3) := by decide +kernel
set_option maxRecDepth 20000 in
theorem dX10_init_68 : decode cX10_init 68 = .ok (.aload_n 0, 1) := by decide +kernel
set_option maxRecDepth 20000 in
theorem dX10_init_69 : decode cX10_init 69 = .ok (.bipush 100, 2) := by decide +kernel
set_option maxRecDepth 20000 in
theorem dX10_init_71 : decode cX10_init 71 = .ok (.newarray .boolean, 2) := by decide +kernel
set_option maxRecDepth 20000 in
theorem dX10_init_73 : decode cX10_init 73 = .ok (.putfield 35, 3) := by decide +kernel
set_option maxRecDepth 20000 in
theorem dX10_init_76 : decode cX10_init 76 = .ok (.aload_n 0, 1) := by decide +kernel
set_option maxRecDepth 20000 in
theorem dX10_init_77 : decode cX10_init 77 = .ok (.sipush 800, 3) := by decide +kernel
set_option maxRecDepth 20000 in
theorem dX10_init_80 : decode cX10_init 80 = .ok (.newarray .int, 2) := by decide +kernel
set_option maxRecDepth 20000 in
theorem dX10_init_82 : decode cX10_init 82 = .ok (.putfield 38, 3) := by decide +kernel
set_option maxRecDepth 20000 in
theorem dX10_init_85 : decode cX10_init 85 = .ok (.aload_n 0, 1) := by decide +kernel
set_option maxRecDepth 20000 in
theorem dX10_init_86 : decode cX10_init 86 = .ok (.sipush 800, 3) := by decide +kernel
set_option maxRecDepth 20000 in
theorem dX10_init_89 : decode cX10_init 89 = .ok (.newarray .int, 2) := by decide +kernel
set_option maxRecDepth 20000 in
theorem dX10_init_91 : decode cX10_init 91 = .ok (.putfield 41, 3) := by decide +kernel
set_option maxRecDepth 20000 in
theorem dX10_init_94 : decode cX10_init 94 = .ok (.aload_n 0, 1) := by decide +kernel
set_option maxRecDepth 20000 in
theorem dX10_init_95 : decode cX10_init 95 = .ok (.sipush 800, 3) := by decide +kernel
set_option maxRecDepth 20000 in
theorem dX10_init_98 : decode cX10_init 98 = .ok (.newarray .int, 2) := by decide +kernel
set_option maxRecDepth 20000 in
theorem dX10_init_100 : decode cX10_init 100 = .ok (.putfield 44, 3) := by decide +kernel
set_option maxRecDepth 20000 in
theorem dX10_init_103 : decode cX10_init 103 = .ok (.aload_n 0, 1) := by decide +kernel
set_option maxRecDepth 20000 in
theorem dX10_init_104 : decode cX10_init 104 = .ok (.sipush 800, 3) := by decide +kernel
set_option maxRecDepth 20000 in
theorem dX10_init_107 : decode cX10_init 107 = .ok (.newarray .int, 2) := by decide +kernel
set_option maxRecDepth 20000 in
theorem dX10_init_109 : decode cX10_init 109 = .ok (.putfield 47, 3) := by decide +kernel
set_option maxRecDepth 20000 in
theorem dX10_init_112 : decode cX10_init 112 = .ok (.aload_n 0, 1) := by decide +kernel
set_option maxRecDepth 20000 in
theorem dX10_init_113 : decode cX10_init 113 = .ok (.sipush 800, 3) := by decide +kernel
set_option maxRecDepth 20000 in
theorem dX10_init_116 : decode cX10_init 116 = .ok (.newarray .int, 2) := by decide +kernel
set_option maxRecDepth 20000 in
theorem dX10_init_118 : decode cX10_init 118 = .ok (.putfield 50, 3) := by decide +kernel
set_option maxRecDepth 20000 in
theorem dX10_init_121 : decode cX10_init 121 = .ok (.aload_n 0, 1) := by decide +kernel
set_option maxRecDepth 20000 in
theorem dX10_init_122 : decode cX10_init 122 = .ok (.sipush 800, 3) := by decide +kernel
set_option maxRecDepth 20000 in
theorem dX10_init_125 : decode cX10_init 125 = .ok (.newarray .int, 2) := by decide +kernel
set_option maxRecDepth 20000 in
theorem dX10_init_127 : decode cX10_init 127 = .ok (.putfield 53, 3) := by decide +kernel
set_option maxRecDepth 20000 in
theorem dX10_init_130 : decode cX10_init 130 = .ok (.aload_n 0, 1) := by decide +kernel
set_option maxRecDepth 20000 in
theorem dX10_init_131 : decode cX10_init 131 = .ok (.sipush 800, 3) := by decide +kernel
set_option maxRecDepth 20000 in
theorem dX10_init_134 : decode cX10_init 134 = .ok (.newarray .int, 2) := by decide +kernel
set_option maxRecDepth 20000 in
theorem dX10_init_136 : decode cX10_init 136 = .ok (.putfield 56, 3) := by decide +kernel
set_option maxRecDepth 20000 in
theorem dX10_init_139 : decode cX10_init 139 = .ok (.aload_n 0, 1) := by decide +kernel
set_option maxRecDepth 20000 in
theorem dX10_init_140 : decode cX10_init 140 = .ok (.sipush 800, 3) := by decide +kernel
set_option maxRecDepth 20000 in
theorem dX10_init_143 : decode cX10_init 143 = .ok (.newarray .int, 2) := by decide +kernel
set_option maxRecDepth 20000 in
theorem dX10_init_145 : decode cX10_init 145 = .ok (.putfield 59, 3) := by decide +kernel
set_option maxRecDepth 20000 in
theorem dX10_init_148 : decode cX10_init 148 = .ok (.aload_n 0, 1) := by decide +kernel
set_option maxRecDepth 20000 in
theorem dX10_init_149 : decode cX10_init 149 = .ok (.sipush 800, 3) := by decide +kernel
set_option maxRecDepth 20000 in
theorem dX10_init_152 : decode cX10_init 152 = .ok (.newarray .int, 2) := by decide +kernel
set_option maxRecDepth 20000 in
theorem dX10_init_154 : decode cX10_init 154 = .ok (.putfield 62, 3) := by decide +kernel
set_option maxRecDepth 20000 in
theorem dX10_init_157 : decode cX10_init 157 = .ok (.aload_n 0, 1) := by decide +kernel
set_option maxRecDepth 20000 in
theorem dX10_init_158 : decode cX10_init 158 = .ok (.iconst 4, 1) := by decide +kernel
set_option maxRecDepth 20000 in
theorem dX10_init_159 : decode cX10_init 159 = .ok (.newarray .int, 2) := by decide +kernel
set_option maxRecDepth 20000 in
theorem dX10_init_161 : decode cX10_init 161 = .ok (.putfield 65, 3) := by decide +kernel
set_option maxRecDepth 20000 in
theorem dX10_init_164 : decode cX10_init 164 = .ok (.aload_n 0, 1) := by decide +kernel
set_option maxRecDepth 20000 in
theorem dX10_init_165 : decode cX10_init 165 = .ok (.iconst 4, 1) := by decide +kernel
set_option maxRecDepth 20000 in
theorem dX10_init_166 : decode cX10_init 166 = .ok (.newarray .int, 2) := by decide +kernel
set_option maxRecDepth 20000 in
theorem dX10_init_168 : decode cX10_init 168 = .ok (.putfield 68, 3) := by decide +kernel
set_option maxRecDepth 20000 in
theorem dX10_init_171 : decode cX10_init 171 = .ok (.aload_n 0, 1) := by decide +kernel
set_option maxRecDepth 20000 in
theorem dX10_init_172 : decode cX10_init 172 = .ok (.iconst 4, 1) := by decide +kernel
set_option maxRecDepth 20000 in
theorem dX10_init_173 : decode cX10_init 173 = .ok (.newarray .int, 2) := by decide +kernel
set_option maxRecDepth 20000 in
theorem dX10_init_175 : decode cX10_init 175 = .ok (.putfield 71, 3) := by decide +kernel
set_option maxRecDepth 20000 in
theorem dX10_init_178 : decode cX10_init 178 = .ok (.aload_n 0, 1) := by decide +kernel
set_option maxRecDepth 20000 in
theorem dX10_init_179 : decode cX10_init 179 = .ok (.iconst 4, 1) := by decide +kernel
set_option maxRecDepth 20000 in
theorem dX10_init_180 : decode cX10_init 180 = .ok (.newarray .int, 2) := by decide +kernel
set_option maxRecDepth 20000 in
theorem dX10_init_182 : decode cX10_init 182 = .ok (.putfield 74, 3) := by decide +kernel
set_option maxRecDepth 20000 in
theorem dX10_init_185 : decode cX10_init 185 = .ok (.aload_n 0, 1) := by decide +kernel
set_option maxRecDepth 20000 in
theorem dX10_init_186 : decode cX10_init 186 = .ok (.iconst 4, 1) := by decide +kernel
set_option maxRecDepth 20000 in
theorem dX10_init_187 : decode cX10_init 187 = .ok (.newarray .int, 2) := by decide +kernel
set_option maxRecDepth 20000 in
theorem dX10_init_189 : decode cX10_init 189 = .ok (.putfield 77, 3) := by decide +kernel
set_option maxRecDepth 20000 in
theorem dX10_init_192 : decode cX10_init 192 = .ok (.aload_n 0, 1) := by decide +kernel
set_option maxRecDepth 20000 in
theorem dX10_init_193 : decode cX10_init 193 = .ok (.bipush 10, 2) := by decide +kernel
set_option maxRecDepth 20000 in
theorem dX10_init_195 : decode cX10_init 195 = .ok (.newarray .int, 2) := by decide +kernel
set_option maxRecDepth 20000 in
theorem dX10_init_197 : decode cX10_init 197 = .ok (.putfield 80, 3) := by decide +kernel
set_option maxRecDepth 20000 in
theorem dX10_init_200 : decode cX10_init 200 = .ok (.aload_n 0, 1) := by decide +kernel
set_option maxRecDepth 20000 in
theorem dX10_init_201 : decode cX10_init 201 = .ok (.bipush 100, 2) := by decide +kernel
set_option maxRecDepth 20000 in
theorem dX10_init_203 : decode cX10_init 203 = .ok (.newarray .int, 2) := by decide +kernel
set_option maxRecDepth 20000 in
theorem dX10_init_205 : decode cX10_init 205 = .ok (.putfield 83, 3) := by decide +kernel
set_option maxRecDepth 20000 in
theorem dX10_init_208 : decode cX10_init 208 = .ok (.aload_n 0, 1) := by decide +kernel
set_option maxRecDepth 20000 in
theorem dX10_init_209 : decode cX10_init 209 = .ok (.bipush 100, 2) := by decide +kernel
set_option maxRecDepth 20000 in
theorem dX10_init_211 : decode cX10_init 211 = .ok (.newarray .int, 2) := by decide +kernel
set_option maxRecDepth 20000 in
theorem dX10_init_213 : decode cX10_init 213 = .ok (.putfield 86, 3) := by decide +kernel
set_option maxRecDepth 20000 in
theorem dX10_init_216 : decode cX10_init 216 = .ok (.aload_n 0, 1) := by decide +kernel
set_option maxRecDepth 20000 in
theorem dX10_init_217 : decode cX10_init 217 = .ok (.bipush 100, 2) := by decide +kernel
set_option maxRecDepth 20000 in
theorem dX10_init_219 : decode cX10_init 219 = .ok (.newarray .int, 2) := by decide +kernel
set_option maxRecDepth 20000 in
theorem dX10_init_221 : decode cX10_init 221 = .ok (.putfield 89, 3) := by decide +kernel
set_option maxRecDepth 20000 in
theorem dX10_init_224 : decode cX10_init 224 = .ok (.aload_n 0, 1) := by decide +kernel
set_option maxRecDepth 20000 in
theorem dX10_init_225 : decode cX10_init 225 = .ok (.bipush 100, 2) := by decide +kernel
set_option maxRecDepth 20000 in
theorem dX10_init_227 : decode cX10_init 227 = .ok (.newarray .int, 2) := by decide +kernel
set_option maxRecDepth 20000 in
theorem dX10_init_229 : decode cX10_init 229 = .ok (.putfield 92, 3) := by decide +kernel
set_option maxRecDepth 20000 in
theorem dX10_init_232 : decode cX10_init 232 = .ok (.aload_n 0, 1) := by decide +kernel
set_option maxRecDepth 20000 in
theorem dX10_init_233 : decode cX10_init 233 = .ok (.bipush 100, 2) := by decide +kernel
set_option maxRecDepth 20000 in
theorem dX10_init_235 : decode cX10_init 235 = .ok (.newarray .int, 2) := by decide +kernel
set_option maxRecDepth 20000 in
theorem dX10_init_237 : decode cX10_init 237 = .ok (.putfield 95, 3) := by decide +kernel
set_option maxRecDepth 20000 in
theorem dX10_init_240 : decode cX10_init 240 = .ok (.aload_n 0, 1) := by decide +kernel
set_option maxRecDepth 20000 in
theorem dX10_init_241 : decode cX10_init 241 = .ok (.bipush 100, 2) := by decide +kernel
set_option maxRecDepth 20000 in
theorem dX10_init_243 : decode cX10_init 243 = .ok (.newarray .int, 2) := by decide +kernel
set_option maxRecDepth 20000 in
theorem dX10_init_245 : decode cX10_init 245 = .ok (.putfield 98, 3) := by decide +kernel
set_option maxRecDepth 20000 in
theorem dX10_init_248 : decode cX10_init 248 = .ok (.aload_n 0, 1) := by decide +kernel
set_option maxRecDepth 20000 in
theorem dX10_init_249 : decode cX10_init 249 = .ok (.bipush 100, 2) := by decide +kernel
set_option maxRecDepth 20000 in
theorem dX10_init_251 : decode cX10_init 251 = .ok (.newarray .int, 2) := by decide +kernel
set_option maxRecDepth 20000 in
theorem dX10_init_253 : decode cX10_init 253 = .ok (.putfield 101, 3) := by decide +kernel
set_option maxRecDepth 20000 in
theorem dX10_init_256 : decode cX10_init 256 = .ok (.aload_n 0, 1) := by decide +kernel
set_option maxRecDepth 20000 in
theorem dX10_init_257 : decode cX10_init 257 = .ok (.iconst 5, 1) := by decide +kernel
set_option maxRecDepth 20000 in
theorem dX10_init_258 : decode cX10_init 258 = .ok (.newarray .int, 2) := by decide +kernel
set_option maxRecDepth 20000 in
theorem dX10_init_260 : decode cX10_init 260 = .ok (.putfield 104, 3) := by decide +kernel
set_option maxRecDepth 20000 in
theorem dX10_init_263 : decode cX10_init 263 = .ok (.aload_n 0, 1) := by decide +kernel
set_option maxRecDepth 20000 in
theorem dX10_init_264 : decode cX10_init 264 = .ok (.iconst 5, 1) := by decide +kernel
set_option maxRecDepth 20000 in
theorem dX10_init_265 : decode cX10_init 265 = .ok (.newarray .int, 2) := by decide +kernel
set_option maxRecDepth 20000 in
theorem dX10_init_267 : decode cX10_init 267 = .ok (.putfield 107, 3) := by decide +kernel
set_option maxRecDepth 20000 in
theorem dX10_init_270 : decode cX10_init 270 = .ok (.aload_n 0, 1) := by decide +kernel
set_option maxRecDepth 20000 in
theorem dX10_init_271 : decode cX10_init 271 = .ok (.bipush 32, 2) := by decide +kernel
set_option maxRecDepth 20000 in
theorem dX10_init_273 : decode cX10_init 273 = .ok (.newarray .int, 2) := by decide +kernel
set_option maxRecDepth 20000 in
theorem dX10_init_275 : decode cX10_init 275 = .ok (.putfield 110, 3) := by decide +kernel
set_option maxRecDepth 20000 in
theorem dX10_init_278 : decode cX10_init 278 = .ok (.aload_n 0, 1) := by decide +kernel
set_option maxRecDepth 20000 in
theorem dX10_init_279 : decode cX10_init 279 = .ok (.bipush 32, 2) := by decide +kernel
set_option maxRecDepth 20000 in
theorem dX10_init_281 : decode cX10_init 281 = .ok (.newarray .int, 2) := by decide +kernel
set_option maxRecDepth 20000 in
theorem dX10_init_283 : decode cX10_init 283 = .ok (.putfield 113, 3) := by decide +kernel
set_option maxRecDepth 20000 in
theorem dX10_init_286 : decode cX10_init 286 = .ok (.aload_n 0, 1) := by decide +kernel
set_option maxRecDepth 20000 in
theorem dX10_init_287 : decode cX10_init 287 = .ok (.bipush 32, 2) := by decide +kernel
set_option maxRecDepth 20000 in
theorem dX10_init_289 : decode cX10_init 289 = .ok (.newarray .int, 2) := by decide +kernel
set_option maxRecDepth 20000 in
theorem dX10_init_291 : decode cX10_init 291 = .ok (.putfield 116, 3) := by decide +kernel
set_option maxRecDepth 20000 in
theorem dX10_init_294 : decode cX10_init 294 = .ok (.aload_n 0, 1) := by decide +kernel
set_option maxRecDepth 20000 in
theorem dX10_init_295 : decode cX10_init 295 = .ok (.bipush 32, 2) := by decide +kernel
set_option maxRecDepth 20000 in
theorem dX10_init_297 : decode cX10_init 297 = .ok (.newarray .int, 2) := by decide +kernel
set_option maxRecDepth 20000 in
theorem dX10_init_299 : decode cX10_init 299 = .ok (.putfield 119, 3) := by decide +kernel
set_option maxRecDepth 20000 in
theorem dX10_init_302 : decode cX10_init 302 = .ok (.aload_n 0, 1) := by decide +kernel
set_option maxRecDepth 20000 in
theorem dX10_init_303 : decode cX10_init 303 = .ok (.bipush 32, 2) := by decide +kernel
set_option maxRecDepth 20000 in
theorem dX10_init_305 : decode cX10_init 305 = .ok (.newarray .int, 2) := by decide +kernel
set_option maxRecDepth 20000 in
theorem dX10_init_307 : decode cX10_init 307 = .ok (.putfield 122, 3) := by decide +kernel
set_option maxRecDepth 20000 in
theorem dX10_init_310 : decode cX10_init 310 = .ok (.aload_n 0, 1) := by decide +kernel
set_option maxRecDepth 20000 in
theorem dX10_init_311 : decode cX10_init 311 = .ok (.bipush 60, 2) := by decide +kernel
set_option maxRecDepth 20000 in
theorem dX10_init_313 : decode cX10_init 313 = .ok (.newarray .int, 2) := by decide +kernel
set_option maxRecDepth 20000 in
theorem dX10_init_315 : decode cX10_init 315 = .ok (.putfield 125, 3) := by decide +kernel
set_option maxRecDepth 20000 in
theorem dX10_init_318 : decode cX10_init 318 = .ok (.aload_n 0, 1) := by decide +kernel
set_option maxRecDepth 20000 in
theorem dX10_init_319 : decode cX10_init 319 = .ok (.bipush 60, 2) := by decide +kernel
set_option maxRecDepth 20000 in
theorem dX10_init_321 : decode cX10_init 321 = .ok (.newarray .int, 2) := by decide +kernel
set_option maxRecDepth 20000 in
theorem dX10_init_323 : decode cX10_init 323 = .ok (.putfield 128, 3) := by decide +kernel
set_option maxRecDepth 20000 in
theorem dX10_init_326 : decode cX10_init 326 = .ok (.aload_n 0, 1) := by decide +kernel
set_option maxRecDepth 20000 in
theorem dX10_init_327 : decode cX10_init 327 = .ok (.bipush 60, 2) := by decide +kernel
set_option maxRecDepth 20000 in
theorem dX10_init_329 : decode cX10_init 329 = .ok (.newarray .int, 2) := by decide +kernel
set_option maxRecDepth 20000 in
theorem dX10_init_331 : decode cX10_init 331 = .ok (.putfield 131, 3) := by decide +kernel
set_option maxRecDepth 20000 in
theorem dX10_init_334 : decode cX10_init 334 = .ok (.aload_n 0, 1) := by decide +kernel
set_option maxRecDepth 20000 in
theorem dX10_init_335 : decode cX10_init 335 = .ok (.bipush 110, 2) := by decide +kernel
set_option maxRecDepth 20000 in
theorem dX10_init_337 : decode cX10_init 337 = .ok (.newarray .int, 2) := by decide +kernel
set_option maxRecDepth 20000 in
theorem dX10_init_339 : decode cX10_init 339 = .ok (.putfield 134, 3) := by decide +kernel
set_option maxRecDepth 20000 in
theorem dX10_init_342 : decode cX10_init 342 = .ok (.aload_n 0, 1) := by decide +kernel
set_option maxRecDepth 20000 in
theorem dX10_init_343 : decode cX10_init 343 = .ok (.bipush 110, 2) := by decide +kernel
set_option maxRecDepth 20000 in
theorem dX10_init_345 : decode cX10_init 345 = .ok (.newarray .int, 2) := by decide +kernel
set_option maxRecDepth 20000 in
theorem dX10_init_347 : decode cX10_init 347 = .ok (.putfield 137, 3) := by decide +kernel
set_option maxRecDepth 20000 in
theorem dX10_init_350 : decode cX10_init 350 = .ok (.aload_n 0, 1) := by decide +kernel
set_option maxRecDepth 20000 in
theorem dX10_init_351 : decode cX10_init 351 = .ok (.bipush 110, 2) := by decide +kernel
set_option maxRecDepth 20000 in
theorem dX10_init_353 : decode cX10_init 353 = .ok (.newarray .int, 2) := by decide +kernel
set_option maxRecDepth 20000 in
theorem dX10_init_355 : decode cX10_init 355 = .ok (.putfield 140, 3) := by decide +kernel
set_option maxRecDepth 20000 in
theorem dX10_init_358 : decode cX10_init 358 = .ok (.aload_n 0, 1) := by decide +kernel
set_option maxRecDepth 20000 in
theorem dX10_init_359 : decode cX10_init 359 = .ok (.bipush 110, 2) := by decide +kernel
set_option maxRecDepth 20000 in
theorem dX10_init_361 : decode cX10_init 361 = .ok (.newarray .int, 2) := by decide +kernel
set_option maxRecDepth 20000 in
theorem dX10_init_363 : decode cX10_init 363 = .ok (.putfield 143, 3) := by decide +kernel
set_option maxRecDepth 20000 in
theorem dX10_init_366 : decode cX10_init 366 = .ok (.aload_n 0, 1) := by decide +kernel
set_option maxRecDepth 20000 in
theorem dX10_init_367 : decode cX10_init 367 = .ok (.bipush 110, 2) := by decide +kernel
set_option maxRecDepth 20000 in
theorem dX10_init_369 : decode cX10_init 369 = .ok (.newarray .int, 2) := by decide +kernel
set_option maxRecDepth 20000 in
theorem dX10_init_371 : decode cX10_init 371 = .ok (.putfield 146, 3) := by decide +kernel
set_option maxRecDepth 20000 in
theorem dX10_init_374 : decode cX10_init 374 = .ok (.aload_n 0, 1) := by decide +kernel
set_option maxRecDepth 20000 in
theorem dX10_init_375 : decode cX10_init 375 = .ok (.invokevirtual 149, 3) := by decide +kernel
set_option maxRecDepth 20000 in
theorem dX10_init_378 : decode cX10_init 378 = .ok (.return_, 1) := by decide +kernel
set_option maxRecDepth 20000 in
theorem dX10_clear_0 : decode cX10_clear 0 = .ok (.aload_n 0, 1) := by decide +kernel
set_option maxRecDepth 20000 in
theorem dX10_clear_1 : decode cX10_clear 1 = .ok (.iconst 0, 1) := by decide +kernel
set_option maxRecDepth 20000 in
theorem dX10_clear_2 : decode cX10_clear 2 = .ok (.putfield 152, 3) := by decide +kernel
set_option maxRecDepth 20000 in
theorem dX10_clear_5 : decode cX10_clear 5 = .ok (.aload_n 0, 1) := by decide +kernel
set_option maxRecDepth 20000 in
theorem dX10_clear_6 : decode cX10_clear 6 = .ok (.iconst 0, 1) := by decide +kernel
set_option maxRecDepth 20000 in
theorem dX10_clear_7 : decode cX10_clear 7 = .ok (.putfield 156, 3) := by decide +kernel
set_option maxRecDepth 20000 in
theorem dX10_clear_10 : decode cX10_clear 10 = .ok (.aload_n 0, 1) := by decide +kernel
set_option maxRecDepth 20000 in
theorem dX10_clear_11 : decode cX10_clear 11 = .ok (.iconst 0, 1) := by decide +kernel
set_option maxRecDepth 20000 in
theorem dX10_clear_12 : decode cX10_clear 12 = .ok (.putfield 159, 3) := by decide +kernel
set_option maxRecDepth 20000 in
theorem dX10_clear_15 : decode cX10_clear 15 = .ok (.aload_n 0, 1) := by decide +kernel
set_option maxRecDepth 20000 in
theorem dX10_clear_16 : decode cX10_clear 16 = .ok (.iconst 0, 1) := by decide +kernel
set_option maxRecDepth 20000 in
theorem dX10_clear_17 : decode cX10_clear 17 = .ok (.putfield 162, 3) := by decide +kernel
set_option maxRecDepth 20000 in
theorem dX10_clear_20 : decode cX10_clear 20 = .ok (.aload_n 0, 1) := by decide +kernel
set_option maxRecDepth 20000 in
theorem dX10_clear_21 : decode cX10_clear 21 = .ok (.iconst 0, 1) := by decide +kernel
set_option maxRecDepth 20000 in
theorem dX10_clear_22 : decode cX10_clear 22 = .ok (.putfield 165, 3) := by decide +kernel
set_option maxRecDepth 20000 in
theorem dX10_clear_25 : decode cX10_clear 25 = .ok (.aload_n 0, 1) := by decide +kernel
set_option maxRecDepth 20000 in
theorem dX10_clear_26 : decode cX10_clear 26 = .ok (.iconst 0, 1) := by decide +kernel
set_option maxRecDepth 20000 in
theorem dX10_clear_27 : decode cX10_clear 27 = .ok (.putfield 168, 3) := by decide +kernel
set_option maxRecDepth 20000 in
theorem dX10_clear_30 : decode cX10_clear 30 = .ok (.iconst 0, 1) := by decide +kernel
set_option maxRecDepth 20000 in
theorem dX10_clear_31 : decode cX10_clear 31 = .ok (.istore_n 1, 1) := by decide +kernel
set_option maxRecDepth 20000 in
theorem dX10_clear_32 : decode cX10_clear 32 = .ok (.iload_n 1, 1) := by decide +kernel
set_option maxRecDepth 20000 in
theorem dX10_clear_33 : decode cX10_clear 33 = .ok (.sipush 800, 3) := by decide +kernel
set_option maxRecDepth 20000 in
theorem dX10_clear_36 : decode cX10_clear 36 = .ok (.if_icmp .ge 16, 3) := by decide +kernel
set_option maxRecDepth 20000 in
theorem dX10_clear_39 : decode cX10_clear 39 = .ok (.aload_n 0, 1) := by decide +kernel
set_option maxRecDepth 20000 in
theorem dX10_clear_40 : decode cX10_clear 40 = .ok (.getfield 38, 3) := by decide +kernel
set_option maxRecDepth 20000 in
theorem dX10_clear_43 : decode cX10_clear 43 = .ok (.iload_n 1, 1) := by decide +kernel
set_option maxRecDepth 20000 in
theorem dX10_clear_44 : decode cX10_clear 44 = .ok (.iconst 0, 1) := by decide +kernel
set_option maxRecDepth 20000 in
theorem dX10_clear_45 : decode cX10_clear 45 = .ok (.iastore, 1) := by decide +kernel
set_option maxRecDepth 20000 in
theorem dX10_clear_46 : decode cX10_clear 46 = .ok (.iinc 1 1, 3) := by decide +kernel
set_option maxRecDepth 20000 in
theorem dX10_clear_49 : decode cX10_clear 49 = .ok (.goto (-17), 3) := by decide +kernel
set_option maxRecDepth 20000 in
theorem dX10_clear_52 : decode cX10_clear 52 = .ok (.iconst 0, 1) := by decide +kernel
set_option maxRecDepth 20000 in
theorem dX10_clear_53 : decode cX10_clear 53 = .ok (.istore_n 1, 1) := by decide +kernel
set_option maxRecDepth 20000 in
theorem dX10_clear_54 : decode cX10_clear 54 = .ok (.iload_n 1, 1) := by decide +kernel
set_option maxRecDepth 20000 in
theorem dX10_clear_55 : decode cX10_clear 55 = .ok (.bipush 32, 2) := by decide +kernel
set_option maxRecDepth 20000 in
theorem dX10_clear_57 : decode cX10_clear 57 = .ok (.if_icmp .ge 16, 3) := by decide +kernel
set_option maxRecDepth 20000 in
theorem dX10_clear_60 : decode cX10_clear 60 = .ok (.aload_n 0, 1) := by decide +kernel
set_option maxRecDepth 20000 in
theorem dX10_clear_61 : decode cX10_clear 61 = .ok (.getfield 110, 3) := by decide +kernel
set_option maxRecDepth 20000 in
theorem dX10_clear_64 : decode cX10_clear 64 = .ok (.iload_n 1, 1) := by decide +kernel
set_option maxRecDepth 20000 in
theorem dX10_clear_65 : decode cX10_clear 65 = .ok (.iconst (-1), 1) := by decide +kernel
set_option maxRecDepth 20000 in
theorem dX10_clear_66 : decode cX10_clear 66 = .ok (.iastore, 1) := by decide +kernel
set_option maxRecDepth 20000 in
theorem dX10_clear_67 : decode cX10_clear 67 = .ok (.iinc 1 1, 3) := by decide +kernel
set_option maxRecDepth 20000 in
theorem dX10_clear_70 : decode cX10_clear 70 = .ok (.goto (-16), 3) := by decide +kernel
set_option maxRecDepth 20000 in
theorem dX10_clear_73 : decode cX10_clear 73 = .ok (.iconst 0, 1) := by decide +kernel
set_option maxRecDepth 20000 in
theorem dX10_clear_74 : decode cX10_clear 74 = .ok (.istore_n 1, 1) := by decide +kernel
set_option maxRecDepth 20000 in
theorem dX10_clear_75 : decode cX10_clear 75 = .ok (.iload_n 1, 1) := by decide +kernel
set_option maxRecDepth 20000 in
theorem dX10_clear_76 : decode cX10_clear 76 = .ok (.iconst 4, 1) := by decide +kernel
set_option maxRecDepth 20000 in
theorem dX10_clear_77 : decode cX10_clear 77 = .ok (.if_icmp .ge 16, 3) := by decide +kernel
set_option maxRecDepth 20000 in
theorem dX10_clear_80 : decode cX10_clear 80 = .ok (.aload_n 0, 1) := by decide +kernel
set_option maxRecDepth 20000 in
theorem dX10_clear_81 : decode cX10_clear 81 = .ok (.getfield 65, 3) := by decide +kernel
set_option maxRecDepth 20000 in
theorem dX10_clear_84 : decode cX10_clear 84 = .ok (.iload_n 1, 1) := by decide +kernel
set_option maxRecDepth 20000 in
theorem dX10_clear_85 : decode cX10_clear 85 = .ok (.iconst 3, 1) := by decide +kernel
set_option maxRecDepth 20000 in
theorem dX10_clear_86 : decode cX10_clear 86 = .ok (.iastore, 1) := by decide +kernel
set_option maxRecDepth 20000 in
theorem dX10_clear_87 : decode cX10_clear 87 = .ok (.iinc 1 1, 3) := by decide +kernel
set_option maxRecDepth 20000 in
theorem dX10_clear_90 : decode cX10_clear 90 = .ok (.goto (-15), 3) := by decide +kernel
set_option maxRecDepth 20000 in
theorem dX10_clear_93 : decode cX10_clear 93 = .ok (.return_, 1) := by decide +kernel
set_option maxRecDepth 20000 in
theorem dX10_in_0 : decode cX10_in 0 = .ok (.iload_n 0, 1) := by decide +kernel
set_option maxRecDepth 20000 in
theorem dX10_in_1 : decode cX10_in 1 = .ok (.iload_n 1, 1) := by decide +kernel
set_option maxRecDepth 20000 in
theorem dX10_in_2 : decode cX10_in 2 = .ok (.if_icmp .lt 12, 3) := by decide +kernel
set_option maxRecDepth 20000 in
theorem dX10_in_5 : decode cX10_in 5 = .ok (.iload_n 0, 1) := by decide +kernel
set_option maxRecDepth 20000 in
theorem dX10_in_6 : decode cX10_in 6 = .ok (.iload_n 2, 1) := by decide +kernel
set_option maxRecDepth 20000 in
theorem dX10_in_7 : decode cX10_in 7 = .ok (.if_icmp .gt 7, 3) := by decide +kernel
set_option maxRecDepth 20000 in
theorem dX10_in_10 : decode cX10_in 10 = .ok (.iconst 1, 1) := by decide +kernel
set_option maxRecDepth 20000 in
theorem dX10_in_11 : decode cX10_in 11 = .ok (.goto 4, 3) := by decide +kernel
set_option maxRecDepth 20000 in
theorem dX10_in_14 : decode cX10_in 14 = .ok (.iconst 0, 1) := by decide +kernel
set_option maxRecDepth 20000 in
theorem dX10_in_15 : decode cX10_in 15 = .ok (.ireturn, 1) := by decide +kernel
set_option maxRecDepth 20000 in
theorem dX10_isPromise_0 : decode cX10_isPromise 0 = .ok (.iload_n 1, 1) := by decide +kernel
set_option maxRecDepth 20000 in
theorem dX10_isPromise_1 : decode cX10_isPromise 1 = .ok (.iconst 0, 1) := by decide +kernel
set_option maxRecDepth 20000 in
theorem dX10_isPromise_2 : decode cX10_isPromise 2 = .ok (.aload_n 0, 1) := by decide +kernel
set_option maxRecDepth 20000 in
theorem dX10_isPromise_3 : decode cX10_isPromise 3 = .ok (.getfield 152, 3) := by decide +kernel
set_option maxRecDepth 20000 in
theorem dX10_isPromise_6 : decode cX10_isPromise 6 = .ok (.iconst 1, 1) := by decide +kernel
set_option maxRecDepth 20000 in
theorem dX10_isPromise_7 : decode cX10_isPromise 7 = .ok (.isub, 1) := by decide +kernel
set_option maxRecDepth 20000 in
theorem dX10_isPromise_8 : decode cX10_isPromise 8 = .ok (.invokestatic 171, 3) := by decide +kernel
set_option maxRecDepth 20000 in
theorem dX10_isPromise_11 : decode cX10_isPromise 11 = .ok (.ireturn, 1) := by decide +kernel
set_option maxRecDepth 20000 in
theorem dX10_isValue_0 : decode cX10_isValue 0 = .ok (.iload_n 1, 1) := by decide +kernel
set_option maxRecDepth 20000 in
theorem dX10_isValue_1 : decode cX10_isValue 1 = .ok (.ifCond .eq 30, 3) := by decide +kernel
set_option maxRecDepth 20000 in
theorem dX10_isValue_4 : decode cX10_isValue 4 = .ok (.iload_n 1, 1) := by decide +kernel
set_option maxRecDepth 20000 in
theorem dX10_isValue_5 : decode cX10_isValue 5 = .ok (.iconst 1, 1) := by decide +kernel
set_option maxRecDepth 20000 in
theorem dX10_isValue_6 : decode cX10_isValue 6 = .ok (.if_icmp .ne 11, 3) := by decide +kernel
set_option maxRecDepth 20000 in
theorem dX10_isValue_9 : decode cX10_isValue 9 = .ok (.aload_n 0, 1) := by decide +kernel
set_option maxRecDepth 20000 in
theorem dX10_isValue_10 : decode cX10_isValue 10 = .ok (.iload_n 2, 1) := by decide +kernel
set_option maxRecDepth 20000 in
theorem dX10_isValue_11 : decode cX10_isValue 11 = .ok (.invokevirtual 175, 3) := by decide +kernel
set_option maxRecDepth 20000 in
theorem dX10_isValue_14 : decode cX10_isValue 14 = .ok (.ifCond .ne 17, 3) := by decide +kernel
set_option maxRecDepth 20000 in
theorem dX10_isValue_17 : decode cX10_isValue 17 = .ok (.iload_n 1, 1) := by decide +kernel
set_option maxRecDepth 20000 in
theorem dX10_isValue_18 : decode cX10_isValue 18 = .ok (.iconst 2, 1) := by decide +kernel
set_option maxRecDepth 20000 in
theorem dX10_isValue_19 : decode cX10_isValue 19 = .ok (.if_icmp .ne 16, 3) := by decide +kernel
set_option maxRecDepth 20000 in
theorem dX10_isValue_22 : decode cX10_isValue 22 = .ok (.iload_n 2, 1) := by decide +kernel
set_option maxRecDepth 20000 in
theorem dX10_isValue_23 : decode cX10_isValue 23 = .ok (.iconst 0, 1) := by decide +kernel
set_option maxRecDepth 20000 in
theorem dX10_isValue_24 : decode cX10_isValue 24 = .ok (.iconst 3, 1) := by decide +kernel
set_option maxRecDepth 20000 in
theorem dX10_isValue_25 : decode cX10_isValue 25 = .ok (.invokestatic 171, 3) := by decide +kernel
set_option maxRecDepth 20000 in
theorem dX10_isValue_28 : decode cX10_isValue 28 = .ok (.ifCond .eq 7, 3) := by decide +kernel
set_option maxRecDepth 20000 in
theorem dX10_isValue_31 : decode cX10_isValue 31 = .ok (.iconst 1, 1) := by decide +kernel
set_option maxRecDepth 20000 in
theorem dX10_isValue_32 : decode cX10_isValue 32 = .ok (.goto 4, 3) := by decide +kernel
set_option maxRecDepth 20000 in
theorem dX10_isValue_35 : decode cX10_isValue 35 = .ok (.iconst 0, 1) := by decide +kernel
set_option maxRecDepth 20000 in
theorem dX10_isValue_36 : decode cX10_isValue 36 = .ok (.ireturn, 1) := by decide +kernel
set_option maxRecDepth 20000 in
theorem dX10_promise_0 : decode cX10_promise 0 = .ok (.aload_n 0, 1) := by decide +kernel
set_option maxRecDepth 20000 in
theorem dX10_promise_1 : decode cX10_promise 1 = .ok (.getfield 152, 3) := by decide +kernel
set_option maxRecDepth 20000 in
theorem dX10_promise_4 : decode cX10_promise 4 = .ok (.bipush 100, 2) := by decide +kernel
set_option maxRecDepth 20000 in
theorem dX10_promise_6 : decode cX10_promise 6 = .ok (.if_icmp .ne 6, 3) := by decide +kernel
set_option maxRecDepth 20000 in
theorem dX10_promise_9 : decode cX10_promise 9 = .ok (.bipush (-2), 2) := by decide +kernel
set_option maxRecDepth 20000 in
theorem dX10_promise_11 : decode cX10_promise 11 = .ok (.ireturn, 1) := by decide +kernel
set_option maxRecDepth 20000 in
theorem dX10_promise_12 : decode cX10_promise 12 = .ok (.aload_n 0, 1) := by decide +kernel
set_option maxRecDepth 20000 in
theorem dX10_promise_13 : decode cX10_promise 13 = .ok (.dup, 1) := by decide +kernel
set_option maxRecDepth 20000 in
theorem dX10_promise_14 : decode cX10_promise 14 = .ok (.getfield 152, 3) := by decide +kernel
set_option maxRecDepth 20000 in
theorem dX10_promise_17 : decode cX10_promise 17 = .ok (.dup_x1, 1) := by decide +kernel
set_option maxRecDepth 20000 in
theorem dX10_promise_18 : decode cX10_promise 18 = .ok (.iconst 1, 1) := by decide +kernel
set_option maxRecDepth 20000 in
theorem dX10_promise_19 : decode cX10_promise 19 = .ok (.iadd, 1) := by decide +kernel
set_option maxRecDepth 20000 in
theorem dX10_promise_20 : decode cX10_promise 20 = .ok (.putfield 152, 3) := by decide +kernel
set_option maxRecDepth 20000 in
theorem dX10_promise_23 : decode cX10_promise 23 = .ok (.istore_n 1, 1) := by decide +kernel
set_option maxRecDepth 20000 in
theorem dX10_promise_24 : decode cX10_promise 24 = .ok (.aload_n 0, 1) := by decide +kernel
set_option maxRecDepth 20000 in
theorem dX10_promise_25 : decode cX10_promise 25 = .ok (.getfield 7, 3) := by decide +kernel
set_option maxRecDepth 20000 in
theorem dX10_promise_28 : decode cX10_promise 28 = .ok (.iload_n 1, 1) := by decide +kernel
set_option maxRecDepth 20000 in
theorem dX10_promise_29 : decode cX10_promise 29 = .ok (.iconst 0, 1) := by decide +kernel
set_option maxRecDepth 20000 in
theorem dX10_promise_30 : decode cX10_promise 30 = .ok (.iastore, 1) := by decide +kernel
set_option maxRecDepth 20000 in
theorem dX10_promise_31 : decode cX10_promise 31 = .ok (.aload_n 0, 1) := by decide +kernel
set_option maxRecDepth 20000 in
theorem dX10_promise_32 : decode cX10_promise 32 = .ok (.getfield 19, 3) := by decide +kernel
set_option maxRecDepth 20000 in
theorem dX10_promise_35 : decode cX10_promise 35 = .ok (.iload_n 1, 1) := by decide +kernel
set_option maxRecDepth 20000 in
theorem dX10_promise_36 : decode cX10_promise 36 = .ok (.iconst 0, 1) := by decide +kernel
set_option maxRecDepth 20000 in
theorem dX10_promise_37 : decode cX10_promise 37 = .ok (.iastore, 1) := by decide +kernel
set_option maxRecDepth 20000 in
theorem dX10_promise_38 : decode cX10_promise 38 = .ok (.aload_n 0, 1) := by decide +kernel
set_option maxRecDepth 20000 in
theorem dX10_promise_39 : decode cX10_promise 39 = .ok (.getfield 28, 3) := by decide +kernel
set_option maxRecDepth 20000 in
theorem dX10_promise_42 : decode cX10_promise 42 = .ok (.iload_n 1, 1) := by decide +kernel
set_option maxRecDepth 20000 in
theorem dX10_promise_43 : decode cX10_promise 43 = .ok (.iconst 0, 1) := by decide +kernel
set_option maxRecDepth 20000 in
theorem dX10_promise_44 : decode cX10_promise 44 = .ok (.bastore, 1) := by decide +kernel
set_option maxRecDepth 20000 in
theorem dX10_promise_45 : decode cX10_promise 45 = .ok (.aload_n 0, 1) := by decide +kernel
set_option maxRecDepth 20000 in
theorem dX10_promise_46 : decode cX10_promise 46 = .ok (.getfield 32, 3) := by decide +kernel
set_option maxRecDepth 20000 in
theorem dX10_promise_49 : decode cX10_promise 49 = .ok (.iload_n 1, 1) := by decide +kernel
set_option maxRecDepth 20000 in
theorem dX10_promise_50 : decode cX10_promise 50 = .ok (.iconst 0, 1) := by decide +kernel
set_option maxRecDepth 20000 in
theorem dX10_promise_51 : decode cX10_promise 51 = .ok (.bastore, 1) := by decide +kernel
set_option maxRecDepth 20000 in
theorem dX10_promise_52 : decode cX10_promise 52 = .ok (.aload_n 0, 1) := by decide +kernel
set_option maxRecDepth 20000 in
theorem dX10_promise_53 : decode cX10_promise 53 = .ok (.getfield 35, 3) := by decide +kernel
set_option maxRecDepth 20000 in
theorem dX10_promise_56 : decode cX10_promise 56 = .ok (.iload_n 1, 1) := by decide +kernel
set_option maxRecDepth 20000 in
theorem dX10_promise_57 : decode cX10_promise 57 = .ok (.iconst 0, 1) := by decide +kernel
set_option maxRecDepth 20000 in
theorem dX10_promise_58 : decode cX10_promise 58 = .ok (.bastore, 1) := by decide +kernel
set_option maxRecDepth 20000 in
theorem dX10_promise_59 : decode cX10_promise 59 = .ok (.iload_n 1, 1) := by decide +kernel
set_option maxRecDepth 20000 in
theorem dX10_promise_60 : decode cX10_promise 60 = .ok (.ireturn, 1) := by decide +kernel
set_option maxRecDepth 20000 in
theorem dX10_enter_0 : decode cX10_enter 0 = .ok (.iconst 0, 1) := by decide +kernel
set_option maxRecDepth 20000 in
theorem dX10_enter_1 : decode cX10_enter 1 = .ok (.istore 6, 2) := by decide +kernel
set_option maxRecDepth 20000 in
theorem dX10_enter_3 : decode cX10_enter 3 = .ok (.aload_n 0, 1) := by decide +kernel
set_option maxRecDepth 20000 in
theorem dX10_enter_4 : decode cX10_enter 4 = .ok (.getfield 38, 3) := by decide +kernel
set_option maxRecDepth 20000 in
theorem dX10_enter_7 : decode cX10_enter 7 = .ok (.iload 6, 2) := by decide +kernel
set_option maxRecDepth 20000 in
theorem dX10_enter_9 : decode cX10_enter 9 = .ok (.iaload, 1) := by decide +kernel
set_option maxRecDepth 20000 in
theorem dX10_enter_10 : decode cX10_enter 10 = .ok (.ifCond .eq 9, 3) := by decide +kernel
set_option maxRecDepth 20000 in
theorem dX10_enter_13 : decode cX10_enter 13 = .ok (.iinc 6 1, 3) := by decide +kernel
set_option maxRecDepth 20000 in
theorem dX10_enter_16 : decode cX10_enter 16 = .ok (.goto (-13), 3) := by decide +kernel
set_option maxRecDepth 20000 in
theorem dX10_enter_19 : decode cX10_enter 19 = .ok (.aload_n 0, 1) := by decide +kernel
set_option maxRecDepth 20000 in
theorem dX10_enter_20 : decode cX10_enter 20 = .ok (.getfield 38, 3) := by decide +kernel
set_option maxRecDepth 20000 in
theorem dX10_enter_23 : decode cX10_enter 23 = .ok (.iload 6, 2) := by decide +kernel
set_option maxRecDepth 20000 in
theorem dX10_enter_25 : decode cX10_enter 25 = .ok (.iload_n 1, 1) := by decide +kernel
set_option maxRecDepth 20000 in
theorem dX10_enter_26 : decode cX10_enter 26 = .ok (.iastore, 1) := by decide +kernel
set_option maxRecDepth 20000 in
theorem dX10_enter_27 : decode cX10_enter 27 = .ok (.aload_n 0, 1) := by decide +kernel
set_option maxRecDepth 20000 in
theorem dX10_enter_28 : decode cX10_enter 28 = .ok (.getfield 41, 3) := by decide +kernel
set_option maxRecDepth 20000 in
theorem dX10_enter_31 : decode cX10_enter 31 = .ok (.iload 6, 2) := by decide +kernel
set_option maxRecDepth 20000 in
theorem dX10_enter_33 : decode cX10_enter 33 = .ok (.iload_n 2, 1) := by decide +kernel
set_option maxRecDepth 20000 in
theorem dX10_enter_34 : decode cX10_enter 34 = .ok (.iastore, 1) := by decide +kernel
set_option maxRecDepth 20000 in
theorem dX10_enter_35 : decode cX10_enter 35 = .ok (.aload_n 0, 1) := by decide +kernel
set_option maxRecDepth 20000 in
theorem dX10_enter_36 : decode cX10_enter 36 = .ok (.getfield 44, 3) := by decide +kernel
set_option maxRecDepth 20000 in
theorem dX10_enter_39 : decode cX10_enter 39 = .ok (.iload 6, 2) := by decide +kernel
set_option maxRecDepth 20000 in
theorem dX10_enter_41 : decode cX10_enter 41 = .ok (.aload_n 0, 1) := by decide +kernel
set_option maxRecDepth 20000 in
theorem dX10_enter_42 : decode cX10_enter 42 = .ok (.dup, 1) := by decide +kernel
set_option maxRecDepth 20000 in
theorem dX10_enter_43 : decode cX10_enter 43 = .ok (.getfield 156, 3) := by decide +kernel
set_option maxRecDepth 20000 in
theorem dX10_enter_46 : decode cX10_enter 46 = .ok (.iconst 1, 1) := by decide +kernel
set_option maxRecDepth 20000 in
theorem dX10_enter_47 : decode cX10_enter 47 = .ok (.iadd, 1) := by decide +kernel
set_option maxRecDepth 20000 in
theorem dX10_enter_48 : decode cX10_enter 48 = .ok (.dup_x1, 1) := by decide +kernel
set_option maxRecDepth 20000 in
theorem dX10_enter_49 : decode cX10_enter 49 = .ok (.putfield 156, 3) := by decide +kernel
set_option maxRecDepth 20000 in
theorem dX10_enter_52 : decode cX10_enter 52 = .ok (.iastore, 1) := by decide +kernel
set_option maxRecDepth 20000 in
theorem dX10_enter_53 : decode cX10_enter 53 = .ok (.aload_n 0, 1) := by decide +kernel
set_option maxRecDepth 20000 in
theorem dX10_enter_54 : decode cX10_enter 54 = .ok (.getfield 47, 3) := by decide +kernel
set_option maxRecDepth 20000 in
theorem dX10_enter_57 : decode cX10_enter 57 = .ok (.iload 6, 2) := by decide +kernel
set_option maxRecDepth 20000 in
theorem dX10_enter_59 : decode cX10_enter 59 = .ok (.iload_n 3, 1) := by decide +kernel
set_option maxRecDepth 20000 in
theorem dX10_enter_60 : decode cX10_enter 60 = .ok (.iastore, 1) := by decide +kernel
set_option maxRecDepth 20000 in
theorem dX10_enter_61 : decode cX10_enter 61 = .ok (.aload_n 0, 1) := by decide +kernel
set_option maxRecDepth 20000 in
theorem dX10_enter_62 : decode cX10_enter 62 = .ok (.getfield 50, 3) := by decide +kernel
set_option maxRecDepth 20000 in
theorem dX10_enter_65 : decode cX10_enter 65 = .ok (.iload 6, 2) := by decide +kernel
set_option maxRecDepth 20000 in
theorem dX10_enter_67 : decode cX10_enter 67 = .ok (.iload 4, 2) := by decide +kernel
set_option maxRecDepth 20000 in
theorem dX10_enter_69 : decode cX10_enter 69 = .ok (.iastore, 1) := by decide +kernel
set_option maxRecDepth 20000 in
theorem dX10_enter_70 : decode cX10_enter 70 = .ok (.aload_n 0, 1) := by decide +kernel
set_option maxRecDepth 20000 in
theorem dX10_enter_71 : decode cX10_enter 71 = .ok (.getfield 53, 3) := by decide +kernel
set_option maxRecDepth 20000 in
theorem dX10_enter_74 : decode cX10_enter 74 = .ok (.iload 6, 2) := by decide +kernel
set_option maxRecDepth 20000 in
theorem dX10_enter_76 : decode cX10_enter 76 = .ok (.iload 5, 2) := by decide +kernel
set_option maxRecDepth 20000 in
theorem dX10_enter_78 : decode cX10_enter 78 = .ok (.iastore, 1) := by decide +kernel
set_option maxRecDepth 20000 in
theorem dX10_enter_79 : decode cX10_enter 79 = .ok (.iload 6, 2) := by decide +kernel
set_option maxRecDepth 20000 in
theorem dX10_enter_81 : decode cX10_enter 81 = .ok (.ireturn, 1) := by decide +kernel
set_option maxRecDepth 20000 in
theorem dX10_carry_0 : decode cX10_carry 0 = .ok (.aload_n 0, 1) := by decide +kernel
set_option maxRecDepth 20000 in
theorem dX10_carry_1 : decode cX10_carry 1 = .ok (.getfield 41, 3) := by decide +kernel
set_option maxRecDepth 20000 in
theorem dX10_carry_4 : decode cX10_carry 4 = .ok (.iload_n 1, 1) := by decide +kernel
set_option maxRecDepth 20000 in
theorem dX10_carry_5 : decode cX10_carry 5 = .ok (.iconst (-1), 1) := by decide +kernel
set_option maxRecDepth 20000 in
theorem dX10_carry_6 : decode cX10_carry 6 = .ok (.iastore, 1) := by decide +kernel
set_option maxRecDepth 20000 in
theorem dX10_carry_7 : decode cX10_carry 7 = .ok (.aload_n 0, 1) := by decide +kernel
set_option maxRecDepth 20000 in
theorem dX10_carry_8 : decode cX10_carry 8 = .ok (.getfield 56, 3) := by decide +kernel
set_option maxRecDepth 20000 in
theorem dX10_carry_11 : decode cX10_carry 11 = .ok (.iload_n 1, 1) := by decide +kernel
set_option maxRecDepth 20000 in
theorem dX10_carry_12 : decode cX10_carry 12 = .ok (.iload_n 2, 1) := by decide +kernel
set_option maxRecDepth 20000 in
theorem dX10_carry_13 : decode cX10_carry 13 = .ok (.iastore, 1) := by decide +kernel
set_option maxRecDepth 20000 in
theorem dX10_carry_14 : decode cX10_carry 14 = .ok (.aload_n 0, 1) := by decide +kernel
set_option maxRecDepth 20000 in
theorem dX10_carry_15 : decode cX10_carry 15 = .ok (.getfield 59, 3) := by decide +kernel
set_option maxRecDepth 20000 in
theorem dX10_carry_18 : decode cX10_carry 18 = .ok (.iload_n 1, 1) := by decide +kernel
set_option maxRecDepth 20000 in
theorem dX10_carry_19 : decode cX10_carry 19 = .ok (.iload_n 3, 1) := by decide +kernel
set_option maxRecDepth 20000 in
theorem dX10_carry_20 : decode cX10_carry 20 = .ok (.iastore, 1) := by decide +kernel
set_option maxRecDepth 20000 in
theorem dX10_carry_21 : decode cX10_carry 21 = .ok (.aload_n 0, 1) := by decide +kernel
set_option maxRecDepth 20000 in
theorem dX10_carry_22 : decode cX10_carry 22 = .ok (.getfield 62, 3) := by decide +kernel
set_option maxRecDepth 20000 in
theorem dX10_carry_25 : decode cX10_carry 25 = .ok (.iload_n 1, 1) := by decide +kernel
set_option maxRecDepth 20000 in
theorem dX10_carry_26 : decode cX10_carry 26 = .ok (.iload 4, 2) := by decide +kernel
set_option maxRecDepth 20000 in
theorem dX10_carry_28 : decode cX10_carry 28 = .ok (.iastore, 1) := by decide +kernel
set_option maxRecDepth 20000 in
theorem dX10_carry_29 : decode cX10_carry 29 = .ok (.return_, 1) := by decide +kernel
set_option maxRecDepth 20000 in
theorem dX10_firstOn_0 : decode cX10_firstOn 0 = .ok (.iconst (-1), 1) := by decide +kernel
set_option maxRecDepth 20000 in
theorem dX10_firstOn_1 : decode cX10_firstOn 1 = .ok (.istore_n 2, 1) := by decide +kernel
set_option maxRecDepth 20000 in
theorem dX10_firstOn_2 : decode cX10_firstOn 2 = .ok (.iconst 0, 1) := by decide +kernel
set_option maxRecDepth 20000 in
theorem dX10_firstOn_3 : decode cX10_firstOn 3 = .ok (.istore_n 3, 1) := by decide +kernel
set_option maxRecDepth 20000 in
theorem dX10_firstOn_4 : decode cX10_firstOn 4 = .ok (.iload_n 3, 1) := by decide +kernel
set_option maxRecDepth 20000 in
theorem dX10_firstOn_5 : decode cX10_firstOn 5 = .ok (.sipush 800, 3) := by decide +kernel
set_option maxRecDepth 20000 in
theorem dX10_firstOn_8 : decode cX10_firstOn 8 = .ok (.if_icmp .ge 49, 3) := by decide +kernel
set_option maxRecDepth 20000 in
theorem dX10_firstOn_11 : decode cX10_firstOn 11 = .ok (.aload_n 0, 1) := by decide +kernel
set_option maxRecDepth 20000 in
theorem dX10_firstOn_12 : decode cX10_firstOn 12 = .ok (.getfield 38, 3) := by decide +kernel
set_option maxRecDepth 20000 in
theorem dX10_firstOn_15 : decode cX10_firstOn 15 = .ok (.iload_n 3, 1) := by decide +kernel
set_option maxRecDepth 20000 in
theorem dX10_firstOn_16 : decode cX10_firstOn 16 = .ok (.iaload, 1) := by decide +kernel
set_option maxRecDepth 20000 in
theorem dX10_firstOn_17 : decode cX10_firstOn 17 = .ok (.ifCond .eq 34, 3) := by decide +kernel
set_option maxRecDepth 20000 in
theorem dX10_firstOn_20 : decode cX10_firstOn 20 = .ok (.aload_n 0, 1) := by decide +kernel
set_option maxRecDepth 20000 in
theorem dX10_firstOn_21 : decode cX10_firstOn 21 = .ok (.getfield 41, 3) := by decide +kernel
set_option maxRecDepth 20000 in
theorem dX10_firstOn_24 : decode cX10_firstOn 24 = .ok (.iload_n 3, 1) := by decide +kernel
set_option maxRecDepth 20000 in
theorem dX10_firstOn_25 : decode cX10_firstOn 25 = .ok (.iaload, 1) := by decide +kernel
set_option maxRecDepth 20000 in
theorem dX10_firstOn_26 : decode cX10_firstOn 26 = .ok (.iload_n 1, 1) := by decide +kernel
set_option maxRecDepth 20000 in
theorem dX10_firstOn_27 : decode cX10_firstOn 27 = .ok (.if_icmp .ne 24, 3) := by decide +kernel
set_option maxRecDepth 20000 in
theorem dX10_firstOn_30 : decode cX10_firstOn 30 = .ok (.iload_n 2, 1) := by decide +kernel
set_option maxRecDepth 20000 in
theorem dX10_firstOn_31 : decode cX10_firstOn 31 = .ok (.ifCond .lt 18, 3) := by decide +kernel
set_option maxRecDepth 20000 in
theorem dX10_firstOn_34 : decode cX10_firstOn 34 = .ok (.aload_n 0, 1) := by decide +kernel
set_option maxRecDepth 20000 in
theorem dX10_firstOn_35 : decode cX10_firstOn 35 = .ok (.getfield 44, 3) := by decide +kernel
set_option maxRecDepth 20000 in
theorem dX10_firstOn_38 : decode cX10_firstOn 38 = .ok (.iload_n 3, 1) := by decide +kernel
set_option maxRecDepth 20000 in
theorem dX10_firstOn_39 : decode cX10_firstOn 39 = .ok (.iaload, 1) := by decide +kernel
set_option maxRecDepth 20000 in
theorem dX10_firstOn_40 : decode cX10_firstOn 40 = .ok (.aload_n 0, 1) := by decide +kernel
set_option maxRecDepth 20000 in
theorem dX10_firstOn_41 : decode cX10_firstOn 41 = .ok (.getfield 44, 3) := by decide +kernel
set_option maxRecDepth 20000 in
theorem dX10_firstOn_44 : decode cX10_firstOn 44 = .ok (.iload_n 2, 1) := by decide +kernel
set_option maxRecDepth 20000 in
theorem dX10_firstOn_45 : decode cX10_firstOn 45 = .ok (.iaload, 1) := by decide +kernel
set_option maxRecDepth 20000 in
theorem dX10_firstOn_46 : decode cX10_firstOn 46 = .ok (.if_icmp .ge 5, 3) := by decide +kernel
set_option maxRecDepth 20000 in
theorem dX10_firstOn_49 : decode cX10_firstOn 49 = .ok (.iload_n 3, 1) := by decide +kernel
set_option maxRecDepth 20000 in
theorem dX10_firstOn_50 : decode cX10_firstOn 50 = .ok (.istore_n 2, 1) := by decide +kernel
set_option maxRecDepth 20000 in
theorem dX10_firstOn_51 : decode cX10_firstOn 51 = .ok (.iinc 3 1, 3) := by decide +kernel
set_option maxRecDepth 20000 in
theorem dX10_firstOn_54 : decode cX10_firstOn 54 = .ok (.goto (-50), 3) := by decide +kernel
set_option maxRecDepth 20000 in
theorem dX10_firstOn_57 : decode cX10_firstOn 57 = .ok (.iload_n 2, 1) := by decide +kernel
set_option maxRecDepth 20000 in
theorem dX10_firstOn_58 : decode cX10_firstOn 58 = .ok (.ireturn, 1) := by decide +kernel
set_option maxRecDepth 20000 in
theorem dX10_settle_0 : decode cX10_settle 0 = .ok (.aload_n 0, 1) := by decide +kernel
set_option maxRecDepth 20000 in
theorem dX10_settle_1 : decode cX10_settle 1 = .ok (.getfield 7, 3) := by decide +kernel
set_option maxRecDepth 20000 in
theorem dX10_settle_4 : decode cX10_settle 4 = .ok (.iload_n 1, 1) := by decide +kernel
set_option maxRecDepth 20000 in
theorem dX10_settle_5 : decode cX10_settle 5 = .ok (.iload_n 2, 1) := by decide +kernel
set_option maxRecDepth 20000 in
theorem dX10_settle_6 : decode cX10_settle 6 = .ok (.iastore, 1) := by decide +kernel
set_option maxRecDepth 20000 in
theorem dX10_settle_7 : decode cX10_settle 7 = .ok (.aload_n 0, 1) := by decide +kernel
set_option maxRecDepth 20000 in
theorem dX10_settle_8 : decode cX10_settle 8 = .ok (.getfield 13, 3) := by decide +kernel
set_option maxRecDepth 20000 in
theorem dX10_settle_11 : decode cX10_settle 11 = .ok (.iload_n 1, 1) := by decide +kernel
set_option maxRecDepth 20000 in
theorem dX10_settle_12 : decode cX10_settle 12 = .ok (.iload_n 3, 1) := by decide +kernel
set_option maxRecDepth 20000 in
theorem dX10_settle_13 : decode cX10_settle 13 = .ok (.iastore, 1) := by decide +kernel
set_option maxRecDepth 20000 in
theorem dX10_settle_14 : decode cX10_settle 14 = .ok (.aload_n 0, 1) := by decide +kernel
set_option maxRecDepth 20000 in
theorem dX10_settle_15 : decode cX10_settle 15 = .ok (.getfield 16, 3) := by decide +kernel
set_option maxRecDepth 20000 in
theorem dX10_settle_18 : decode cX10_settle 18 = .ok (.iload_n 1, 1) := by decide +kernel
set_option maxRecDepth 20000 in
theorem dX10_settle_19 : decode cX10_settle 19 = .ok (.iload 4, 2) := by decide +kernel
set_option maxRecDepth 20000 in
theorem dX10_settle_21 : decode cX10_settle 21 = .ok (.iastore, 1) := by decide +kernel
set_option maxRecDepth 20000 in
theorem dX10_settle_22 : decode cX10_settle 22 = .ok (.aload_n 0, 1) := by decide +kernel
set_option maxRecDepth 20000 in
theorem dX10_settle_23 : decode cX10_settle 23 = .ok (.iload_n 1, 1) := by decide +kernel
set_option maxRecDepth 20000 in
theorem dX10_settle_24 : decode cX10_settle 24 = .ok (.invokevirtual 179, 3) := by decide +kernel
set_option maxRecDepth 20000 in
theorem dX10_settle_27 : decode cX10_settle 27 = .ok (.istore 5, 2) := by decide +kernel
set_option maxRecDepth 20000 in
theorem dX10_settle_29 : decode cX10_settle 29 = .ok (.iload 5, 2) := by decide +kernel
set_option maxRecDepth 20000 in
theorem dX10_settle_31 : decode cX10_settle 31 = .ok (.ifCond .lt 41, 3) := by decide +kernel
set_option maxRecDepth 20000 in
theorem dX10_settle_34 : decode cX10_settle 34 = .ok (.aload_n 0, 1) := by decide +kernel
set_option maxRecDepth 20000 in
theorem dX10_settle_35 : decode cX10_settle 35 = .ok (.iload 5, 2) := by decide +kernel
set_option maxRecDepth 20000 in
theorem dX10_settle_37 : decode cX10_settle 37 = .ok (.iload_n 2, 1) := by decide +kernel
set_option maxRecDepth 20000 in
theorem dX10_settle_38 : decode cX10_settle 38 = .ok (.iload_n 3, 1) := by decide +kernel
set_option maxRecDepth 20000 in
theorem dX10_settle_39 : decode cX10_settle 39 = .ok (.iload 4, 2) := by decide +kernel
set_option maxRecDepth 20000 in
theorem dX10_settle_41 : decode cX10_settle 41 = .ok (.invokevirtual 183, 3) := by decide +kernel
set_option maxRecDepth 20000 in
theorem dX10_settle_44 : decode cX10_settle 44 = .ok (.aload_n 0, 1) := by decide +kernel
set_option maxRecDepth 20000 in
theorem dX10_settle_45 : decode cX10_settle 45 = .ok (.getfield 44, 3) := by decide +kernel
set_option maxRecDepth 20000 in
theorem dX10_settle_48 : decode cX10_settle 48 = .ok (.iload 5, 2) := by decide +kernel
set_option maxRecDepth 20000 in
theorem dX10_settle_50 : decode cX10_settle 50 = .ok (.aload_n 0, 1) := by decide +kernel
set_option maxRecDepth 20000 in
theorem dX10_settle_51 : decode cX10_settle 51 = .ok (.dup, 1) := by decide +kernel
set_option maxRecDepth 20000 in
theorem dX10_settle_52 : decode cX10_settle 52 = .ok (.getfield 156, 3) := by decide +kernel
set_option maxRecDepth 20000 in
theorem dX10_settle_55 : decode cX10_settle 55 = .ok (.iconst 1, 1) := by decide +kernel
set_option maxRecDepth 20000 in
theorem dX10_settle_56 : decode cX10_settle 56 = .ok (.iadd, 1) := by decide +kernel
set_option maxRecDepth 20000 in
theorem dX10_settle_57 : decode cX10_settle 57 = .ok (.dup_x1, 1) := by decide +kernel
set_option maxRecDepth 20000 in
theorem dX10_settle_58 : decode cX10_settle 58 = .ok (.putfield 156, 3) := by decide +kernel
set_option maxRecDepth 20000 in
theorem dX10_settle_61 : decode cX10_settle 61 = .ok (.iastore, 1) := by decide +kernel
set_option maxRecDepth 20000 in
theorem dX10_settle_62 : decode cX10_settle 62 = .ok (.aload_n 0, 1) := by decide +kernel
set_option maxRecDepth 20000 in
theorem dX10_settle_63 : decode cX10_settle 63 = .ok (.iload_n 1, 1) := by decide +kernel
set_option maxRecDepth 20000 in
theorem dX10_settle_64 : decode cX10_settle 64 = .ok (.invokevirtual 179, 3) := by decide +kernel
set_option maxRecDepth 20000 in
theorem dX10_settle_67 : decode cX10_settle 67 = .ok (.istore 5, 2) := by decide +kernel
set_option maxRecDepth 20000 in
theorem dX10_settle_69 : decode cX10_settle 69 = .ok (.goto (-40), 3) := by decide +kernel
set_option maxRecDepth 20000 in
theorem dX10_settle_72 : decode cX10_settle 72 = .ok (.return_, 1) := by decide +kernel
set_option maxRecDepth 20000 in
theorem dX10_takes_0 : decode cX10_takes 0 = .ok (.aload_n 0, 1) := by decide +kernel
set_option maxRecDepth 20000 in
theorem dX10_takes_1 : decode cX10_takes 1 = .ok (.getfield 19, 3) := by decide +kernel
set_option maxRecDepth 20000 in
theorem dX10_takes_4 : decode cX10_takes 4 = .ok (.iload_n 1, 1) := by decide +kernel
set_option maxRecDepth 20000 in
theorem dX10_takes_5 : decode cX10_takes 5 = .ok (.iaload, 1) := by decide +kernel
set_option maxRecDepth 20000 in
theorem dX10_takes_6 : decode cX10_takes 6 = .ok (.iload_n 2, 1) := by decide +kernel
set_option maxRecDepth 20000 in
theorem dX10_takes_7 : decode cX10_takes 7 = .ok (.if_icmp .ne 16, 3) := by decide +kernel
set_option maxRecDepth 20000 in
theorem dX10_takes_10 : decode cX10_takes 10 = .ok (.aload_n 0, 1) := by decide +kernel
set_option maxRecDepth 20000 in
theorem dX10_takes_11 : decode cX10_takes 11 = .ok (.getfield 28, 3) := by decide +kernel
set_option maxRecDepth 20000 in
theorem dX10_takes_14 : decode cX10_takes 14 = .ok (.iload_n 1, 1) := by decide +kernel
set_option maxRecDepth 20000 in
theorem dX10_takes_15 : decode cX10_takes 15 = .ok (.baload, 1) := by decide +kernel
set_option maxRecDepth 20000 in
theorem dX10_takes_16 : decode cX10_takes 16 = .ok (.ifCond .ne 7, 3) := by decide +kernel
set_option maxRecDepth 20000 in
theorem dX10_takes_19 : decode cX10_takes 19 = .ok (.iconst 1, 1) := by decide +kernel
set_option maxRecDepth 20000 in
theorem dX10_takes_20 : decode cX10_takes 20 = .ok (.goto 4, 3) := by decide +kernel
set_option maxRecDepth 20000 in
theorem dX10_takes_23 : decode cX10_takes 23 = .ok (.iconst 0, 1) := by decide +kernel
set_option maxRecDepth 20000 in
theorem dX10_takes_24 : decode cX10_takes 24 = .ok (.istore_n 3, 1) := by decide +kernel
set_option maxRecDepth 20000 in
theorem dX10_takes_25 : decode cX10_takes 25 = .ok (.iload_n 3, 1) := by decide +kernel
set_option maxRecDepth 20000 in
theorem dX10_takes_26 : decode cX10_takes 26 = .ok (.ifCond .eq 10, 3) := by decide +kernel
set_option maxRecDepth 20000 in
theorem dX10_takes_29 : decode cX10_takes 29 = .ok (.aload_n 0, 1) := by decide +kernel
set_option maxRecDepth 20000 in
theorem dX10_takes_30 : decode cX10_takes 30 = .ok (.getfield 28, 3) := by decide +kernel
set_option maxRecDepth 20000 in
theorem dX10_takes_33 : decode cX10_takes 33 = .ok (.iload_n 1, 1) := by decide +kernel
set_option maxRecDepth 20000 in
theorem dX10_takes_34 : decode cX10_takes 34 = .ok (.iconst 1, 1) := by decide +kernel
set_option maxRecDepth 20000 in
theorem dX10_takes_35 : decode cX10_takes 35 = .ok (.bastore, 1) := by decide +kernel
set_option maxRecDepth 20000 in
theorem dX10_takes_36 : decode cX10_takes 36 = .ok (.iload_n 3, 1) := by decide +kernel
set_option maxRecDepth 20000 in
theorem dX10_takes_37 : decode cX10_takes 37 = .ok (.ireturn, 1) := by decide +kernel
set_option maxRecDepth 20000 in
theorem dX10_resolveBy_0 : decode cX10_resolveBy 0 = .ok (.aload_n 0, 1) := by decide +kernel
set_option maxRecDepth 20000 in
theorem dX10_resolveBy_1 : decode cX10_resolveBy 1 = .ok (.iload_n 1, 1) := by decide +kernel
set_option maxRecDepth 20000 in
theorem dX10_resolveBy_2 : decode cX10_resolveBy 2 = .ok (.iload 4, 2) := by decide +kernel
set_option maxRecDepth 20000 in
theorem dX10_resolveBy_4 : decode cX10_resolveBy 4 = .ok (.invokevirtual 187, 3) := by decide +kernel
set_option maxRecDepth 20000 in
theorem dX10_resolveBy_7 : decode cX10_resolveBy 7 = .ok (.istore 5, 2) := by decide +kernel
set_option maxRecDepth 20000 in
theorem dX10_resolveBy_9 : decode cX10_resolveBy 9 = .ok (.iload 5, 2) := by decide +kernel
set_option maxRecDepth 20000 in
theorem dX10_resolveBy_11 : decode cX10_resolveBy 11 = .ok (.ifCond .ne 4, 3) := by decide +kernel
set_option maxRecDepth 20000 in
theorem dX10_resolveBy_14 : decode cX10_resolveBy 14 = .ok (.return_, 1) := by decide +kernel
set_option maxRecDepth 20000 in
theorem dX10_resolveBy_15 : decode cX10_resolveBy 15 = .ok (.iload_n 2, 1) := by decide +kernel
set_option maxRecDepth 20000 in
theorem dX10_resolveBy_16 : decode cX10_resolveBy 16 = .ok (.ifCond .ne 14, 3) := by decide +kernel
set_option maxRecDepth 20000 in
theorem dX10_resolveBy_19 : decode cX10_resolveBy 19 = .ok (.aload_n 0, 1) := by decide +kernel
set_option maxRecDepth 20000 in
theorem dX10_resolveBy_20 : decode cX10_resolveBy 20 = .ok (.iload_n 1, 1) := by decide +kernel
set_option maxRecDepth 20000 in
theorem dX10_resolveBy_21 : decode cX10_resolveBy 21 = .ok (.iconst 1, 1) := by decide +kernel
set_option maxRecDepth 20000 in
theorem dX10_resolveBy_22 : decode cX10_resolveBy 22 = .ok (.iload_n 2, 1) := by decide +kernel
set_option maxRecDepth 20000 in
theorem dX10_resolveBy_23 : decode cX10_resolveBy 23 = .ok (.iload_n 3, 1) := by decide +kernel
set_option maxRecDepth 20000 in
theorem dX10_resolveBy_24 : decode cX10_resolveBy 24 = .ok (.invokevirtual 191, 3) := by decide +kernel
set_option maxRecDepth 20000 in
theorem dX10_resolveBy_27 : decode cX10_resolveBy 27 = .ok (.goto 44, 3) := by decide +kernel
set_option maxRecDepth 20000 in
theorem dX10_resolveBy_30 : decode cX10_resolveBy 30 = .ok (.iload_n 2, 1) := by decide +kernel
set_option maxRecDepth 20000 in
theorem dX10_resolveBy_31 : decode cX10_resolveBy 31 = .ok (.iconst 1, 1) := by decide +kernel
set_option maxRecDepth 20000 in
theorem dX10_resolveBy_32 : decode cX10_resolveBy 32 = .ok (.if_icmp .ne 19, 3) := by decide +kernel
set_option maxRecDepth 20000 in
theorem dX10_resolveBy_35 : decode cX10_resolveBy 35 = .ok (.iload_n 3, 1) := by decide +kernel
set_option maxRecDepth 20000 in
theorem dX10_resolveBy_36 : decode cX10_resolveBy 36 = .ok (.iload_n 1, 1) := by decide +kernel
set_option maxRecDepth 20000 in
theorem dX10_resolveBy_37 : decode cX10_resolveBy 37 = .ok (.if_icmp .ne 14, 3) := by decide +kernel
set_option maxRecDepth 20000 in
theorem dX10_resolveBy_40 : decode cX10_resolveBy 40 = .ok (.aload_n 0, 1) := by decide +kernel
set_option maxRecDepth 20000 in
theorem dX10_resolveBy_41 : decode cX10_resolveBy 41 = .ok (.iload_n 1, 1) := by decide +kernel
set_option maxRecDepth 20000 in
theorem dX10_resolveBy_42 : decode cX10_resolveBy 42 = .ok (.iconst 2, 1) := by decide +kernel
set_option maxRecDepth 20000 in
theorem dX10_resolveBy_43 : decode cX10_resolveBy 43 = .ok (.iconst 0, 1) := by decide +kernel
set_option maxRecDepth 20000 in
theorem dX10_resolveBy_44 : decode cX10_resolveBy 44 = .ok (.iconst (-1), 1) := by decide +kernel
set_option maxRecDepth 20000 in
theorem dX10_resolveBy_45 : decode cX10_resolveBy 45 = .ok (.invokevirtual 191, 3) := by decide +kernel
set_option maxRecDepth 20000 in
theorem dX10_resolveBy_48 : decode cX10_resolveBy 48 = .ok (.goto 23, 3) := by decide +kernel
set_option maxRecDepth 20000 in
theorem dX10_resolveBy_51 : decode cX10_resolveBy 51 = .ok (.aload_n 0, 1) := by decide +kernel
set_option maxRecDepth 20000 in
theorem dX10_resolveBy_52 : decode cX10_resolveBy 52 = .ok (.iconst 5, 1) := by decide +kernel
set_option maxRecDepth 20000 in
theorem dX10_resolveBy_53 : decode cX10_resolveBy 53 = .ok (.iconst (-1), 1) := by decide +kernel
set_option maxRecDepth 20000 in
theorem dX10_resolveBy_54 : decode cX10_resolveBy 54 = .ok (.iload_n 1, 1) := by decide +kernel
set_option maxRecDepth 20000 in
theorem dX10_resolveBy_55 : decode cX10_resolveBy 55 = .ok (.iconst 0, 1) := by decide +kernel
set_option maxRecDepth 20000 in
theorem dX10_resolveBy_56 : decode cX10_resolveBy 56 = .ok (.iconst 0, 1) := by decide +kernel
set_option maxRecDepth 20000 in
theorem dX10_resolveBy_57 : decode cX10_resolveBy 57 = .ok (.invokevirtual 194, 3) := by decide +kernel
set_option maxRecDepth 20000 in
theorem dX10_resolveBy_60 : decode cX10_resolveBy 60 = .ok (.istore 6, 2) := by decide +kernel
set_option maxRecDepth 20000 in
theorem dX10_resolveBy_62 : decode cX10_resolveBy 62 = .ok (.aload_n 0, 1) := by decide +kernel
set_option maxRecDepth 20000 in
theorem dX10_resolveBy_63 : decode cX10_resolveBy 63 = .ok (.iload 6, 2) := by decide +kernel
set_option maxRecDepth 20000 in
theorem dX10_resolveBy_65 : decode cX10_resolveBy 65 = .ok (.iconst 0, 1) := by decide +kernel
set_option maxRecDepth 20000 in
theorem dX10_resolveBy_66 : decode cX10_resolveBy 66 = .ok (.iload_n 2, 1) := by decide +kernel
set_option maxRecDepth 20000 in
theorem dX10_resolveBy_67 : decode cX10_resolveBy 67 = .ok (.iload_n 3, 1) := by decide +kernel
set_option maxRecDepth 20000 in
theorem dX10_resolveBy_68 : decode cX10_resolveBy 68 = .ok (.invokevirtual 183, 3) := by decide +kernel
set_option maxRecDepth 20000 in
theorem dX10_resolveBy_71 : decode cX10_resolveBy 71 = .ok (.return_, 1) := by decide +kernel
set_option maxRecDepth 20000 in
theorem dX10_rejectBy_0 : decode cX10_rejectBy 0 = .ok (.aload_n 0, 1) := by decide +kernel
set_option maxRecDepth 20000 in
theorem dX10_rejectBy_1 : decode cX10_rejectBy 1 = .ok (.iload_n 1, 1) := by decide +kernel
set_option maxRecDepth 20000 in
theorem dX10_rejectBy_2 : decode cX10_rejectBy 2 = .ok (.iload 4, 2) := by decide +kernel
set_option maxRecDepth 20000 in
theorem dX10_rejectBy_4 : decode cX10_rejectBy 4 = .ok (.invokevirtual 187, 3) := by decide +kernel
set_option maxRecDepth 20000 in
theorem dX10_rejectBy_7 : decode cX10_rejectBy 7 = .ok (.istore 5, 2) := by decide +kernel
set_option maxRecDepth 20000 in
theorem dX10_rejectBy_9 : decode cX10_rejectBy 9 = .ok (.iload 5, 2) := by decide +kernel
set_option maxRecDepth 20000 in
theorem dX10_rejectBy_11 : decode cX10_rejectBy 11 = .ok (.ifCond .eq 11, 3) := by decide +kernel
set_option maxRecDepth 20000 in
theorem dX10_rejectBy_14 : decode cX10_rejectBy 14 = .ok (.aload_n 0, 1) := by decide +kernel
set_option maxRecDepth 20000 in
theorem dX10_rejectBy_15 : decode cX10_rejectBy 15 = .ok (.iload_n 1, 1) := by decide +kernel
set_option maxRecDepth 20000 in
theorem dX10_rejectBy_16 : decode cX10_rejectBy 16 = .ok (.iconst 2, 1) := by decide +kernel
set_option maxRecDepth 20000 in
theorem dX10_rejectBy_17 : decode cX10_rejectBy 17 = .ok (.iload_n 2, 1) := by decide +kernel
set_option maxRecDepth 20000 in
theorem dX10_rejectBy_18 : decode cX10_rejectBy 18 = .ok (.iload_n 3, 1) := by decide +kernel
set_option maxRecDepth 20000 in
theorem dX10_rejectBy_19 : decode cX10_rejectBy 19 = .ok (.invokevirtual 191, 3) := by decide +kernel
set_option maxRecDepth 20000 in
theorem dX10_rejectBy_22 : decode cX10_rejectBy 22 = .ok (.return_, 1) := by decide +kernel
set_option maxRecDepth 20000 in
theorem dX10_endBy_0 : decode cX10_endBy 0 = .ok (.iload_n 2, 1) := by decide +kernel
set_option maxRecDepth 20000 in
theorem dX10_endBy_1 : decode cX10_endBy 1 = .ok (.ifCond .eq 16, 3) := by decide +kernel
set_option maxRecDepth 20000 in
theorem dX10_endBy_4 : decode cX10_endBy 4 = .ok (.aload_n 0, 1) := by decide +kernel
set_option maxRecDepth 20000 in
theorem dX10_endBy_5 : decode cX10_endBy 5 = .ok (.iload_n 1, 1) := by decide +kernel
set_option maxRecDepth 20000 in
theorem dX10_endBy_6 : decode cX10_endBy 6 = .ok (.iload_n 3, 1) := by decide +kernel
set_option maxRecDepth 20000 in
theorem dX10_endBy_7 : decode cX10_endBy 7 = .ok (.iload 4, 2) := by decide +kernel
set_option maxRecDepth 20000 in
theorem dX10_endBy_9 : decode cX10_endBy 9 = .ok (.iload 5, 2) := by decide +kernel
set_option maxRecDepth 20000 in
theorem dX10_endBy_11 : decode cX10_endBy 11 = .ok (.invokevirtual 198, 3) := by decide +kernel
set_option maxRecDepth 20000 in
theorem dX10_endBy_14 : decode cX10_endBy 14 = .ok (.goto 13, 3) := by decide +kernel
set_option maxRecDepth 20000 in
theorem dX10_endBy_17 : decode cX10_endBy 17 = .ok (.aload_n 0, 1) := by decide +kernel
set_option maxRecDepth 20000 in
theorem dX10_endBy_18 : decode cX10_endBy 18 = .ok (.iload_n 1, 1) := by decide +kernel
set_option maxRecDepth 20000 in
theorem dX10_endBy_19 : decode cX10_endBy 19 = .ok (.iload_n 3, 1) := by decide +kernel
set_option maxRecDepth 20000 in
theorem dX10_endBy_20 : decode cX10_endBy 20 = .ok (.iload 4, 2) := by decide +kernel
set_option maxRecDepth 20000 in
theorem dX10_endBy_22 : decode cX10_endBy 22 = .ok (.iload 5, 2) := by decide +kernel
set_option maxRecDepth 20000 in
theorem dX10_endBy_24 : decode cX10_endBy 24 = .ok (.invokevirtual 201, 3) := by decide +kernel
set_option maxRecDepth 20000 in
theorem dX10_endBy_27 : decode cX10_endBy 27 = .ok (.return_, 1) := by decide +kernel
set_option maxRecDepth 20000 in
theorem dX10_waitFor_0 : decode cX10_waitFor 0 = .ok (.aload_n 0, 1) := by decide +kernel
set_option maxRecDepth 20000 in
theorem dX10_waitFor_1 : decode cX10_waitFor 1 = .ok (.getfield 32, 3) := by decide +kernel
set_option maxRecDepth 20000 in
theorem dX10_waitFor_4 : decode cX10_waitFor 4 = .ok (.iload_n 1, 1) := by decide +kernel
set_option maxRecDepth 20000 in
theorem dX10_waitFor_5 : decode cX10_waitFor 5 = .ok (.iconst 1, 1) := by decide +kernel
set_option maxRecDepth 20000 in
theorem dX10_waitFor_6 : decode cX10_waitFor 6 = .ok (.bastore, 1) := by decide +kernel
set_option maxRecDepth 20000 in
theorem dX10_waitFor_7 : decode cX10_waitFor 7 = .ok (.aload_n 0, 1) := by decide +kernel
set_option maxRecDepth 20000 in
theorem dX10_waitFor_8 : decode cX10_waitFor 8 = .ok (.iload_n 2, 1) := by decide +kernel
set_option maxRecDepth 20000 in
theorem dX10_waitFor_9 : decode cX10_waitFor 9 = .ok (.iload_n 1, 1) := by decide +kernel
set_option maxRecDepth 20000 in
theorem dX10_waitFor_10 : decode cX10_waitFor 10 = .ok (.iload_n 3, 1) := by decide +kernel
set_option maxRecDepth 20000 in
theorem dX10_waitFor_11 : decode cX10_waitFor 11 = .ok (.iload 4, 2) := by decide +kernel
set_option maxRecDepth 20000 in
theorem dX10_waitFor_13 : decode cX10_waitFor 13 = .ok (.iload 5, 2) := by decide +kernel
set_option maxRecDepth 20000 in
theorem dX10_waitFor_15 : decode cX10_waitFor 15 = .ok (.invokevirtual 194, 3) := by decide +kernel
set_option maxRecDepth 20000 in
theorem dX10_waitFor_18 : decode cX10_waitFor 18 = .ok (.istore 6, 2) := by decide +kernel
set_option maxRecDepth 20000 in
theorem dX10_waitFor_20 : decode cX10_waitFor 20 = .ok (.aload_n 0, 1) := by decide +kernel
set_option maxRecDepth 20000 in
theorem dX10_waitFor_21 : decode cX10_waitFor 21 = .ok (.getfield 7, 3) := by decide +kernel
set_option maxRecDepth 20000 in
theorem dX10_waitFor_24 : decode cX10_waitFor 24 = .ok (.iload_n 1, 1) := by decide +kernel
set_option maxRecDepth 20000 in
theorem dX10_waitFor_25 : decode cX10_waitFor 25 = .ok (.iaload, 1) := by decide +kernel
set_option maxRecDepth 20000 in
theorem dX10_waitFor_26 : decode cX10_waitFor 26 = .ok (.ifCond .eq 27, 3) := by decide +kernel
set_option maxRecDepth 20000 in
theorem dX10_waitFor_29 : decode cX10_waitFor 29 = .ok (.aload_n 0, 1) := by decide +kernel
set_option maxRecDepth 20000 in
theorem dX10_waitFor_30 : decode cX10_waitFor 30 = .ok (.iload 6, 2) := by decide +kernel
set_option maxRecDepth 20000 in
theorem dX10_waitFor_32 : decode cX10_waitFor 32 = .ok (.aload_n 0, 1) := by decide +kernel
set_option maxRecDepth 20000 in
theorem dX10_waitFor_33 : decode cX10_waitFor 33 = .ok (.getfield 7, 3) := by decide +kernel
set_option maxRecDepth 20000 in
theorem dX10_waitFor_36 : decode cX10_waitFor 36 = .ok (.iload_n 1, 1) := by decide +kernel
set_option maxRecDepth 20000 in
theorem dX10_waitFor_37 : decode cX10_waitFor 37 = .ok (.iaload, 1) := by decide +kernel
set_option maxRecDepth 20000 in
theorem dX10_waitFor_38 : decode cX10_waitFor 38 = .ok (.aload_n 0, 1) := by decide +kernel
set_option maxRecDepth 20000 in
theorem dX10_waitFor_39 : decode cX10_waitFor 39 = .ok (.getfield 13, 3) := by decide +kernel
set_option maxRecDepth 20000 in
theorem dX10_waitFor_42 : decode cX10_waitFor 42 = .ok (.iload_n 1, 1) := by decide +kernel
set_option maxRecDepth 20000 in
theorem dX10_waitFor_43 : decode cX10_waitFor 43 = .ok (.iaload, 1) := by decide +kernel
set_option maxRecDepth 20000 in
theorem dX10_waitFor_44 : decode cX10_waitFor 44 = .ok (.aload_n 0, 1) := by decide +kernel
set_option maxRecDepth 20000 in
theorem dX10_waitFor_45 : decode cX10_waitFor 45 = .ok (.getfield 16, 3) := by decide +kernel
set_option maxRecDepth 20000 in
theorem dX10_waitFor_48 : decode cX10_waitFor 48 = .ok (.iload_n 1, 1) := by decide +kernel
set_option maxRecDepth 20000 in
theorem dX10_waitFor_49 : decode cX10_waitFor 49 = .ok (.iaload, 1) := by decide +kernel
set_option maxRecDepth 20000 in
theorem dX10_waitFor_50 : decode cX10_waitFor 50 = .ok (.invokevirtual 183, 3) := by decide +kernel
set_option maxRecDepth 20000 in
theorem dX10_waitFor_53 : decode cX10_waitFor 53 = .ok (.return_, 1) := by decide +kernel
set_option maxRecDepth 20000 in
theorem dX10_resolve_0 : decode cX10_resolve 0 = .ok (.aload_n 0, 1) := by decide +kernel
set_option maxRecDepth 20000 in
theorem dX10_resolve_1 : decode cX10_resolve 1 = .ok (.iload_n 1, 1) := by decide +kernel
set_option maxRecDepth 20000 in
theorem dX10_resolve_2 : decode cX10_resolve 2 = .ok (.invokevirtual 175, 3) := by decide +kernel
set_option maxRecDepth 20000 in
theorem dX10_resolve_5 : decode cX10_resolve 5 = .ok (.ifCond .eq 12, 3) := by decide +kernel
set_option maxRecDepth 20000 in
theorem dX10_resolve_8 : decode cX10_resolve 8 = .ok (.aload_n 0, 1) := by decide +kernel
set_option maxRecDepth 20000 in
theorem dX10_resolve_9 : decode cX10_resolve 9 = .ok (.iload_n 2, 1) := by decide +kernel
set_option maxRecDepth 20000 in
theorem dX10_resolve_10 : decode cX10_resolve 10 = .ok (.iload_n 3, 1) := by decide +kernel
set_option maxRecDepth 20000 in
theorem dX10_resolve_11 : decode cX10_resolve 11 = .ok (.invokevirtual 204, 3) := by decide +kernel
set_option maxRecDepth 20000 in
theorem dX10_resolve_14 : decode cX10_resolve 14 = .ok (.ifCond .ne 5, 3) := by decide +kernel
set_option maxRecDepth 20000 in
theorem dX10_resolve_17 : decode cX10_resolve 17 = .ok (.iconst 0, 1) := by decide +kernel
set_option maxRecDepth 20000 in
theorem dX10_resolve_18 : decode cX10_resolve 18 = .ok (.ireturn, 1) := by decide +kernel
set_option maxRecDepth 20000 in
theorem dX10_resolve_19 : decode cX10_resolve 19 = .ok (.aload_n 0, 1) := by decide +kernel
set_option maxRecDepth 20000 in
theorem dX10_resolve_20 : decode cX10_resolve 20 = .ok (.iload_n 1, 1) := by decide +kernel
set_option maxRecDepth 20000 in
theorem dX10_resolve_21 : decode cX10_resolve 21 = .ok (.iload_n 2, 1) := by decide +kernel
set_option maxRecDepth 20000 in
theorem dX10_resolve_22 : decode cX10_resolve 22 = .ok (.iload_n 3, 1) := by decide +kernel
set_option maxRecDepth 20000 in
theorem dX10_resolve_23 : decode cX10_resolve 23 = .ok (.iconst 0, 1) := by decide +kernel
set_option maxRecDepth 20000 in
theorem dX10_resolve_24 : decode cX10_resolve 24 = .ok (.invokevirtual 201, 3) := by decide +kernel
set_option maxRecDepth 20000 in
theorem dX10_resolve_27 : decode cX10_resolve 27 = .ok (.iconst 1, 1) := by decide +kernel
set_option maxRecDepth 20000 in
theorem dX10_resolve_28 : decode cX10_resolve 28 = .ok (.ireturn, 1) := by decide +kernel
set_option maxRecDepth 20000 in
theorem dX10_reject_0 : decode cX10_reject 0 = .ok (.aload_n 0, 1) := by decide +kernel
set_option maxRecDepth 20000 in
theorem dX10_reject_1 : decode cX10_reject 1 = .ok (.iload_n 1, 1) := by decide +kernel
set_option maxRecDepth 20000 in
theorem dX10_reject_2 : decode cX10_reject 2 = .ok (.invokevirtual 175, 3) := by decide +kernel
set_option maxRecDepth 20000 in
theorem dX10_reject_5 : decode cX10_reject 5 = .ok (.ifCond .eq 12, 3) := by decide +kernel
set_option maxRecDepth 20000 in
theorem dX10_reject_8 : decode cX10_reject 8 = .ok (.aload_n 0, 1) := by decide +kernel
set_option maxRecDepth 20000 in
theorem dX10_reject_9 : decode cX10_reject 9 = .ok (.iload_n 2, 1) := by decide +kernel
set_option maxRecDepth 20000 in
theorem dX10_reject_10 : decode cX10_reject 10 = .ok (.iload_n 3, 1) := by decide +kernel
set_option maxRecDepth 20000 in
theorem dX10_reject_11 : decode cX10_reject 11 = .ok (.invokevirtual 204, 3) := by decide +kernel
set_option maxRecDepth 20000 in
theorem dX10_reject_14 : decode cX10_reject 14 = .ok (.ifCond .ne 5, 3) := by decide +kernel
set_option maxRecDepth 20000 in
theorem dX10_reject_17 : decode cX10_reject 17 = .ok (.iconst 0, 1) := by decide +kernel
set_option maxRecDepth 20000 in
theorem dX10_reject_18 : decode cX10_reject 18 = .ok (.ireturn, 1) := by decide +kernel
set_option maxRecDepth 20000 in
theorem dX10_reject_19 : decode cX10_reject 19 = .ok (.aload_n 0, 1) := by decide +kernel
set_option maxRecDepth 20000 in
theorem dX10_reject_20 : decode cX10_reject 20 = .ok (.iload_n 1, 1) := by decide +kernel
set_option maxRecDepth 20000 in
theorem dX10_reject_21 : decode cX10_reject 21 = .ok (.iload_n 2, 1) := by decide +kernel
set_option maxRecDepth 20000 in
theorem dX10_reject_22 : decode cX10_reject 22 = .ok (.iload_n 3, 1) := by decide +kernel
set_option maxRecDepth 20000 in
theorem dX10_reject_23 : decode cX10_reject 23 = .ok (.iconst 0, 1) := by decide +kernel
set_option maxRecDepth 20000 in
theorem dX10_reject_24 : decode cX10_reject 24 = .ok (.invokevirtual 198, 3) := by decide +kernel
set_option maxRecDepth 20000 in
theorem dX10_reject_27 : decode cX10_reject 27 = .ok (.iconst 1, 1) := by decide +kernel
set_option maxRecDepth 20000 in
theorem dX10_reject_28 : decode cX10_reject 28 = .ok (.ireturn, 1) := by decide +kernel
set_option maxRecDepth 20000 in
theorem dX10_then_0 : decode cX10_then 0 = .ok (.aload_n 0, 1) := by decide +kernel
set_option maxRecDepth 20000 in
theorem dX10_then_1 : decode cX10_then 1 = .ok (.iload_n 1, 1) := by decide +kernel
set_option maxRecDepth 20000 in
theorem dX10_then_2 : decode cX10_then 2 = .ok (.invokevirtual 175, 3) := by decide +kernel
set_option maxRecDepth 20000 in
theorem dX10_then_5 : decode cX10_then 5 = .ok (.ifCond .eq 23, 3) := by decide +kernel
set_option maxRecDepth 20000 in
theorem dX10_then_8 : decode cX10_then 8 = .ok (.iload_n 2, 1) := by decide +kernel
set_option maxRecDepth 20000 in
theorem dX10_then_9 : decode cX10_then 9 = .ok (.iconst (-1), 1) := by decide +kernel
set_option maxRecDepth 20000 in
theorem dX10_then_10 : decode cX10_then 10 = .ok (.bipush 9, 2) := by decide +kernel
set_option maxRecDepth 20000 in
theorem dX10_then_12 : decode cX10_then 12 = .ok (.invokestatic 171, 3) := by decide +kernel
set_option maxRecDepth 20000 in
theorem dX10_then_15 : decode cX10_then 15 = .ok (.ifCond .eq 13, 3) := by decide +kernel
set_option maxRecDepth 20000 in
theorem dX10_then_18 : decode cX10_then 18 = .ok (.iload_n 3, 1) := by decide +kernel
set_option maxRecDepth 20000 in
theorem dX10_then_19 : decode cX10_then 19 = .ok (.iconst (-1), 1) := by decide +kernel
set_option maxRecDepth 20000 in
theorem dX10_then_20 : decode cX10_then 20 = .ok (.bipush 9, 2) := by decide +kernel
set_option maxRecDepth 20000 in
theorem dX10_then_22 : decode cX10_then 22 = .ok (.invokestatic 171, 3) := by decide +kernel
set_option maxRecDepth 20000 in
theorem dX10_then_25 : decode cX10_then 25 = .ok (.ifCond .ne 5, 3) := by decide +kernel
set_option maxRecDepth 20000 in
theorem dX10_then_28 : decode cX10_then 28 = .ok (.iconst (-1), 1) := by decide +kernel
set_option maxRecDepth 20000 in
theorem dX10_then_29 : decode cX10_then 29 = .ok (.ireturn, 1) := by decide +kernel
set_option maxRecDepth 20000 in
theorem dX10_then_30 : decode cX10_then 30 = .ok (.aload_n 0, 1) := by decide +kernel
set_option maxRecDepth 20000 in
theorem dX10_then_31 : decode cX10_then 31 = .ok (.invokevirtual 207, 3) := by decide +kernel
set_option maxRecDepth 20000 in
theorem dX10_then_34 : decode cX10_then 34 = .ok (.istore 4, 2) := by decide +kernel
set_option maxRecDepth 20000 in
theorem dX10_then_36 : decode cX10_then 36 = .ok (.iload 4, 2) := by decide +kernel
set_option maxRecDepth 20000 in
theorem dX10_then_38 : decode cX10_then 38 = .ok (.ifCond .lt 13, 3) := by decide +kernel
set_option maxRecDepth 20000 in
theorem dX10_then_41 : decode cX10_then 41 = .ok (.aload_n 0, 1) := by decide +kernel
set_option maxRecDepth 20000 in
theorem dX10_then_42 : decode cX10_then 42 = .ok (.iload_n 1, 1) := by decide +kernel
set_option maxRecDepth 20000 in
theorem dX10_then_43 : decode cX10_then 43 = .ok (.iconst 1, 1) := by decide +kernel
set_option maxRecDepth 20000 in
theorem dX10_then_44 : decode cX10_then 44 = .ok (.iload_n 2, 1) := by decide +kernel
set_option maxRecDepth 20000 in
theorem dX10_then_45 : decode cX10_then 45 = .ok (.iload_n 3, 1) := by decide +kernel
set_option maxRecDepth 20000 in
theorem dX10_then_46 : decode cX10_then 46 = .ok (.iload 4, 2) := by decide +kernel
set_option maxRecDepth 20000 in
theorem dX10_then_48 : decode cX10_then 48 = .ok (.invokevirtual 211, 3) := by decide +kernel
set_option maxRecDepth 20000 in
theorem dX10_then_51 : decode cX10_then 51 = .ok (.iload 4, 2) := by decide +kernel
set_option maxRecDepth 20000 in
theorem dX10_then_53 : decode cX10_then 53 = .ok (.ireturn, 1) := by decide +kernel
set_option maxRecDepth 20000 in
theorem dX10_thenable_0 : decode cX10_thenable 0 = .ok (.iload_n 1, 1) := by decide +kernel
set_option maxRecDepth 20000 in
theorem dX10_thenable_1 : decode cX10_thenable 1 = .ok (.iconst 0, 1) := by decide +kernel
set_option maxRecDepth 20000 in
theorem dX10_thenable_2 : decode cX10_thenable 2 = .ok (.iconst 3, 1) := by decide +kernel
set_option maxRecDepth 20000 in
theorem dX10_thenable_3 : decode cX10_thenable 3 = .ok (.invokestatic 171, 3) := by decide +kernel
set_option maxRecDepth 20000 in
theorem dX10_thenable_6 : decode cX10_thenable 6 = .ok (.ifCond .eq 33, 3) := by decide +kernel
set_option maxRecDepth 20000 in
theorem dX10_thenable_9 : decode cX10_thenable 9 = .ok (.iload_n 2, 1) := by decide +kernel
set_option maxRecDepth 20000 in
theorem dX10_thenable_10 : decode cX10_thenable 10 = .ok (.iconst 0, 1) := by decide +kernel
set_option maxRecDepth 20000 in
theorem dX10_thenable_11 : decode cX10_thenable 11 = .ok (.iconst 3, 1) := by decide +kernel
set_option maxRecDepth 20000 in
theorem dX10_thenable_12 : decode cX10_thenable 12 = .ok (.invokestatic 171, 3) := by decide +kernel
set_option maxRecDepth 20000 in
theorem dX10_thenable_15 : decode cX10_thenable 15 = .ok (.ifCond .eq 24, 3) := by decide +kernel
set_option maxRecDepth 20000 in
theorem dX10_thenable_18 : decode cX10_thenable 18 = .ok (.aload_n 0, 1) := by decide +kernel
set_option maxRecDepth 20000 in
theorem dX10_thenable_19 : decode cX10_thenable 19 = .ok (.iload_n 3, 1) := by decide +kernel
set_option maxRecDepth 20000 in
theorem dX10_thenable_20 : decode cX10_thenable 20 = .ok (.iload 4, 2) := by decide +kernel
set_option maxRecDepth 20000 in
theorem dX10_thenable_22 : decode cX10_thenable 22 = .ok (.invokevirtual 204, 3) := by decide +kernel
set_option maxRecDepth 20000 in
theorem dX10_thenable_25 : decode cX10_thenable 25 = .ok (.ifCond .eq 14, 3) := by decide +kernel
set_option maxRecDepth 20000 in
theorem dX10_thenable_28 : decode cX10_thenable 28 = .ok (.aload_n 0, 1) := by decide +kernel
set_option maxRecDepth 20000 in
theorem dX10_thenable_29 : decode cX10_thenable 29 = .ok (.iload 5, 2) := by decide +kernel
set_option maxRecDepth 20000 in
theorem dX10_thenable_31 : decode cX10_thenable 31 = .ok (.iload 6, 2) := by decide +kernel
set_option maxRecDepth 20000 in
theorem dX10_thenable_33 : decode cX10_thenable 33 = .ok (.invokevirtual 204, 3) := by decide +kernel
set_option maxRecDepth 20000 in
theorem dX10_thenable_36 : decode cX10_thenable 36 = .ok (.ifCond .ne 5, 3) := by decide +kernel
set_option maxRecDepth 20000 in
theorem dX10_thenable_39 : decode cX10_thenable 39 = .ok (.iconst 0, 1) := by decide +kernel
set_option maxRecDepth 20000 in
theorem dX10_thenable_40 : decode cX10_thenable 40 = .ok (.ireturn, 1) := by decide +kernel
set_option maxRecDepth 20000 in
theorem dX10_thenable_41 : decode cX10_thenable 41 = .ok (.aload_n 0, 1) := by decide +kernel
set_option maxRecDepth 20000 in
theorem dX10_thenable_42 : decode cX10_thenable 42 = .ok (.getfield 65, 3) := by decide +kernel
set_option maxRecDepth 20000 in
theorem dX10_thenable_45 : decode cX10_thenable 45 = .ok (.iload_n 1, 1) := by decide +kernel
set_option maxRecDepth 20000 in
theorem dX10_thenable_46 : decode cX10_thenable 46 = .ok (.iload_n 2, 1) := by decide +kernel
set_option maxRecDepth 20000 in
theorem dX10_thenable_47 : decode cX10_thenable 47 = .ok (.iastore, 1) := by decide +kernel
set_option maxRecDepth 20000 in
theorem dX10_thenable_48 : decode cX10_thenable 48 = .ok (.aload_n 0, 1) := by decide +kernel
set_option maxRecDepth 20000 in
theorem dX10_thenable_49 : decode cX10_thenable 49 = .ok (.getfield 68, 3) := by decide +kernel
set_option maxRecDepth 20000 in
theorem dX10_thenable_52 : decode cX10_thenable 52 = .ok (.iload_n 1, 1) := by decide +kernel
set_option maxRecDepth 20000 in
theorem dX10_thenable_53 : decode cX10_thenable 53 = .ok (.iload_n 3, 1) := by decide +kernel
set_option maxRecDepth 20000 in
theorem dX10_thenable_54 : decode cX10_thenable 54 = .ok (.iastore, 1) := by decide +kernel
set_option maxRecDepth 20000 in
theorem dX10_thenable_55 : decode cX10_thenable 55 = .ok (.aload_n 0, 1) := by decide +kernel
set_option maxRecDepth 20000 in
theorem dX10_thenable_56 : decode cX10_thenable 56 = .ok (.getfield 71, 3) := by decide +kernel
set_option maxRecDepth 20000 in
theorem dX10_thenable_59 : decode cX10_thenable 59 = .ok (.iload_n 1, 1) := by decide +kernel
set_option maxRecDepth 20000 in
theorem dX10_thenable_60 : decode cX10_thenable 60 = .ok (.iload 4, 2) := by decide +kernel
set_option maxRecDepth 20000 in
theorem dX10_thenable_62 : decode cX10_thenable 62 = .ok (.iastore, 1) := by decide +kernel
set_option maxRecDepth 20000 in
theorem dX10_thenable_63 : decode cX10_thenable 63 = .ok (.aload_n 0, 1) := by decide +kernel
set_option maxRecDepth 20000 in
theorem dX10_thenable_64 : decode cX10_thenable 64 = .ok (.getfield 74, 3) := by decide +kernel
set_option maxRecDepth 20000 in
theorem dX10_thenable_67 : decode cX10_thenable 67 = .ok (.iload_n 1, 1) := by decide +kernel
set_option maxRecDepth 20000 in
theorem dX10_thenable_68 : decode cX10_thenable 68 = .ok (.iload 5, 2) := by decide +kernel
set_option maxRecDepth 20000 in
theorem dX10_thenable_70 : decode cX10_thenable 70 = .ok (.iastore, 1) := by decide +kernel
set_option maxRecDepth 20000 in
theorem dX10_thenable_71 : decode cX10_thenable 71 = .ok (.aload_n 0, 1) := by decide +kernel
set_option maxRecDepth 20000 in
theorem dX10_thenable_72 : decode cX10_thenable 72 = .ok (.getfield 77, 3) := by decide +kernel
set_option maxRecDepth 20000 in
theorem dX10_thenable_75 : decode cX10_thenable 75 = .ok (.iload_n 1, 1) := by decide +kernel
set_option maxRecDepth 20000 in
theorem dX10_thenable_76 : decode cX10_thenable 76 = .ok (.iload 6, 2) := by decide +kernel
set_option maxRecDepth 20000 in
theorem dX10_thenable_78 : decode cX10_thenable 78 = .ok (.iastore, 1) := by decide +kernel
set_option maxRecDepth 20000 in
theorem dX10_thenable_79 : decode cX10_thenable 79 = .ok (.iconst 1, 1) := by decide +kernel
set_option maxRecDepth 20000 in
theorem dX10_thenable_80 : decode cX10_thenable 80 = .ok (.ireturn, 1) := by decide +kernel
set_option maxRecDepth 20000 in
theorem dX10_step_0 : decode cX10_step 0 = .ok (.iload_n 1, 1) := by decide +kernel
set_option maxRecDepth 20000 in
theorem dX10_step_1 : decode cX10_step 1 = .ok (.iconst 0, 1) := by decide +kernel
set_option maxRecDepth 20000 in
theorem dX10_step_2 : decode cX10_step 2 = .ok (.bipush 9, 2) := by decide +kernel
set_option maxRecDepth 20000 in
theorem dX10_step_4 : decode cX10_step 4 = .ok (.invokestatic 171, 3) := by decide +kernel
set_option maxRecDepth 20000 in
theorem dX10_step_7 : decode cX10_step 7 = .ok (.ifCond .eq 13, 3) := by decide +kernel
set_option maxRecDepth 20000 in
theorem dX10_step_10 : decode cX10_step 10 = .ok (.iload_n 2, 1) := by decide +kernel
set_option maxRecDepth 20000 in
theorem dX10_step_11 : decode cX10_step 11 = .ok (.iconst 0, 1) := by decide +kernel
set_option maxRecDepth 20000 in
theorem dX10_step_12 : decode cX10_step 12 = .ok (.bipush 14, 2) := by decide +kernel
set_option maxRecDepth 20000 in
theorem dX10_step_14 : decode cX10_step 14 = .ok (.invokestatic 171, 3) := by decide +kernel
set_option maxRecDepth 20000 in
theorem dX10_step_17 : decode cX10_step 17 = .ok (.ifCond .ne 5, 3) := by decide +kernel
set_option maxRecDepth 20000 in
theorem dX10_step_20 : decode cX10_step 20 = .ok (.iconst (-1), 1) := by decide +kernel
set_option maxRecDepth 20000 in
theorem dX10_step_21 : decode cX10_step 21 = .ok (.ireturn, 1) := by decide +kernel
set_option maxRecDepth 20000 in
theorem dX10_step_22 : decode cX10_step 22 = .ok (.iload_n 2, 1) := by decide +kernel
set_option maxRecDepth 20000 in
theorem dX10_step_23 : decode cX10_step 23 = .ok (.iconst 2, 1) := by decide +kernel
set_option maxRecDepth 20000 in
theorem dX10_step_24 : decode cX10_step 24 = .ok (.if_icmp .ne 40, 3) := by decide +kernel
set_option maxRecDepth 20000 in
theorem dX10_step_27 : decode cX10_step 27 = .ok (.iload_n 3, 1) := by decide +kernel
set_option maxRecDepth 20000 in
theorem dX10_step_28 : decode cX10_step 28 = .ok (.ifCond .eq 36, 3) := by decide +kernel
set_option maxRecDepth 20000 in
theorem dX10_step_31 : decode cX10_step 31 = .ok (.iload_n 3, 1) := by decide +kernel
set_option maxRecDepth 20000 in
theorem dX10_step_32 : decode cX10_step 32 = .ok (.iconst 1, 1) := by decide +kernel
set_option maxRecDepth 20000 in
theorem dX10_step_33 : decode cX10_step 33 = .ok (.if_icmp .ne 14, 3) := by decide +kernel
set_option maxRecDepth 20000 in
theorem dX10_step_36 : decode cX10_step 36 = .ok (.iload 4, 2) := by decide +kernel
set_option maxRecDepth 20000 in
theorem dX10_step_38 : decode cX10_step 38 = .ok (.iconst 0, 1) := by decide +kernel
set_option maxRecDepth 20000 in
theorem dX10_step_39 : decode cX10_step 39 = .ok (.bipush 99, 2) := by decide +kernel
set_option maxRecDepth 20000 in
theorem dX10_step_41 : decode cX10_step 41 = .ok (.invokestatic 171, 3) := by decide +kernel
set_option maxRecDepth 20000 in
theorem dX10_step_44 : decode cX10_step 44 = .ok (.ifCond .ne 20, 3) := by decide +kernel
set_option maxRecDepth 20000 in
theorem dX10_step_47 : decode cX10_step 47 = .ok (.iload_n 3, 1) := by decide +kernel
set_option maxRecDepth 20000 in
theorem dX10_step_48 : decode cX10_step 48 = .ok (.iconst 2, 1) := by decide +kernel
set_option maxRecDepth 20000 in
theorem dX10_step_49 : decode cX10_step 49 = .ok (.if_icmp .ne 13, 3) := by decide +kernel
set_option maxRecDepth 20000 in
theorem dX10_step_52 : decode cX10_step 52 = .ok (.iload 4, 2) := by decide +kernel
set_option maxRecDepth 20000 in
theorem dX10_step_54 : decode cX10_step 54 = .ok (.iconst 0, 1) := by decide +kernel
set_option maxRecDepth 20000 in
theorem dX10_step_55 : decode cX10_step 55 = .ok (.iconst 3, 1) := by decide +kernel
set_option maxRecDepth 20000 in
theorem dX10_step_56 : decode cX10_step 56 = .ok (.invokestatic 171, 3) := by decide +kernel
set_option maxRecDepth 20000 in
theorem dX10_step_59 : decode cX10_step 59 = .ok (.ifCond .ne 5, 3) := by decide +kernel
set_option maxRecDepth 20000 in
theorem dX10_step_62 : decode cX10_step 62 = .ok (.iconst (-1), 1) := by decide +kernel
set_option maxRecDepth 20000 in
theorem dX10_step_63 : decode cX10_step 63 = .ok (.ireturn, 1) := by decide +kernel
set_option maxRecDepth 20000 in
theorem dX10_step_64 : decode cX10_step 64 = .ok (.iload_n 2, 1) := by decide +kernel
set_option maxRecDepth 20000 in
theorem dX10_step_65 : decode cX10_step 65 = .ok (.bipush 8, 2) := by decide +kernel
set_option maxRecDepth 20000 in
theorem dX10_step_67 : decode cX10_step 67 = .ok (.if_icmp .eq 15, 3) := by decide +kernel
set_option maxRecDepth 20000 in
theorem dX10_step_70 : decode cX10_step 70 = .ok (.iload_n 2, 1) := by decide +kernel
set_option maxRecDepth 20000 in
theorem dX10_step_71 : decode cX10_step 71 = .ok (.bipush 11, 2) := by decide +kernel
set_option maxRecDepth 20000 in
theorem dX10_step_73 : decode cX10_step 73 = .ok (.if_icmp .eq 9, 3) := by decide +kernel
set_option maxRecDepth 20000 in
theorem dX10_step_76 : decode cX10_step 76 = .ok (.iload_n 2, 1) := by decide +kernel
set_option maxRecDepth 20000 in
theorem dX10_step_77 : decode cX10_step 77 = .ok (.bipush 12, 2) := by decide +kernel
set_option maxRecDepth 20000 in
theorem dX10_step_79 : decode cX10_step 79 = .ok (.if_icmp .ne 8, 3) := by decide +kernel
set_option maxRecDepth 20000 in
theorem dX10_step_82 : decode cX10_step 82 = .ok (.bipush 9, 2) := by decide +kernel
set_option maxRecDepth 20000 in
theorem dX10_step_84 : decode cX10_step 84 = .ok (.goto 38, 3) := by decide +kernel
set_option maxRecDepth 20000 in
theorem dX10_step_87 : decode cX10_step 87 = .ok (.iload_n 2, 1) := by decide +kernel
set_option maxRecDepth 20000 in
theorem dX10_step_88 : decode cX10_step 88 = .ok (.bipush 13, 2) := by decide +kernel
set_option maxRecDepth 20000 in
theorem dX10_step_90 : decode cX10_step 90 = .ok (.if_icmp .eq 9, 3) := by decide +kernel
set_option maxRecDepth 20000 in
theorem dX10_step_93 : decode cX10_step 93 = .ok (.iload_n 2, 1) := by decide +kernel
set_option maxRecDepth 20000 in
theorem dX10_step_94 : decode cX10_step 94 = .ok (.bipush 14, 2) := by decide +kernel
set_option maxRecDepth 20000 in
theorem dX10_step_96 : decode cX10_step 96 = .ok (.if_icmp .ne 8, 3) := by decide +kernel
set_option maxRecDepth 20000 in
theorem dX10_step_99 : decode cX10_step 99 = .ok (.bipush 10, 2) := by decide +kernel
set_option maxRecDepth 20000 in
theorem dX10_step_101 : decode cX10_step 101 = .ok (.goto 21, 3) := by decide +kernel
set_option maxRecDepth 20000 in
theorem dX10_step_104 : decode cX10_step 104 = .ok (.iload_n 2, 1) := by decide +kernel
set_option maxRecDepth 20000 in
theorem dX10_step_105 : decode cX10_step 105 = .ok (.bipush 9, 2) := by decide +kernel
set_option maxRecDepth 20000 in
theorem dX10_step_107 : decode cX10_step 107 = .ok (.if_icmp .eq 9, 3) := by decide +kernel
set_option maxRecDepth 20000 in
theorem dX10_step_110 : decode cX10_step 110 = .ok (.iload_n 2, 1) := by decide +kernel
set_option maxRecDepth 20000 in
theorem dX10_step_111 : decode cX10_step 111 = .ok (.bipush 10, 2) := by decide +kernel
set_option maxRecDepth 20000 in
theorem dX10_step_113 : decode cX10_step 113 = .ok (.if_icmp .ne 8, 3) := by decide +kernel
set_option maxRecDepth 20000 in
theorem dX10_step_116 : decode cX10_step 116 = .ok (.bipush 99, 2) := by decide +kernel
set_option maxRecDepth 20000 in
theorem dX10_step_118 : decode cX10_step 118 = .ok (.goto 4, 3) := by decide +kernel
set_option maxRecDepth 20000 in
theorem dX10_step_121 : decode cX10_step 121 = .ok (.iconst (-1), 1) := by decide +kernel
set_option maxRecDepth 20000 in
theorem dX10_step_122 : decode cX10_step 122 = .ok (.istore 5, 2) := by decide +kernel
set_option maxRecDepth 20000 in
theorem dX10_step_124 : decode cX10_step 124 = .ok (.iload 5, 2) := by decide +kernel
set_option maxRecDepth 20000 in
theorem dX10_step_126 : decode cX10_step 126 = .ok (.ifCond .le 16, 3) := by decide +kernel
set_option maxRecDepth 20000 in
theorem dX10_step_129 : decode cX10_step 129 = .ok (.iload 4, 2) := by decide +kernel
set_option maxRecDepth 20000 in
theorem dX10_step_131 : decode cX10_step 131 = .ok (.iconst 0, 1) := by decide +kernel
set_option maxRecDepth 20000 in
theorem dX10_step_132 : decode cX10_step 132 = .ok (.iload 5, 2) := by decide +kernel
set_option maxRecDepth 20000 in
theorem dX10_step_134 : decode cX10_step 134 = .ok (.invokestatic 171, 3) := by decide +kernel
set_option maxRecDepth 20000 in
theorem dX10_step_137 : decode cX10_step 137 = .ok (.ifCond .ne 5, 3) := by decide +kernel
set_option maxRecDepth 20000 in
theorem dX10_step_140 : decode cX10_step 140 = .ok (.iconst (-1), 1) := by decide +kernel
set_option maxRecDepth 20000 in
theorem dX10_step_141 : decode cX10_step 141 = .ok (.ireturn, 1) := by decide +kernel
set_option maxRecDepth 20000 in
theorem dX10_step_142 : decode cX10_step 142 = .ok (.aload_n 0, 1) := by decide +kernel
set_option maxRecDepth 20000 in
theorem dX10_step_143 : decode cX10_step 143 = .ok (.getfield 80, 3) := by decide +kernel
set_option maxRecDepth 20000 in
theorem dX10_step_146 : decode cX10_step 146 = .ok (.iload_n 1, 1) := by decide +kernel
set_option maxRecDepth 20000 in
theorem dX10_step_147 : decode cX10_step 147 = .ok (.iaload, 1) := by decide +kernel
set_option maxRecDepth 20000 in
theorem dX10_step_148 : decode cX10_step 148 = .ok (.bipush 10, 2) := by decide +kernel
set_option maxRecDepth 20000 in
theorem dX10_step_150 : decode cX10_step 150 = .ok (.if_icmp .ne 6, 3) := by decide +kernel
set_option maxRecDepth 20000 in
theorem dX10_step_153 : decode cX10_step 153 = .ok (.bipush (-2), 2) := by decide +kernel
set_option maxRecDepth 20000 in
theorem dX10_step_155 : decode cX10_step 155 = .ok (.ireturn, 1) := by decide +kernel
set_option maxRecDepth 20000 in
theorem dX10_step_156 : decode cX10_step 156 = .ok (.bipush 10, 2) := by decide +kernel
set_option maxRecDepth 20000 in
theorem dX10_step_158 : decode cX10_step 158 = .ok (.iload_n 1, 1) := by decide +kernel
set_option maxRecDepth 20000 in
theorem dX10_step_159 : decode cX10_step 159 = .ok (.imul, 1) := by decide +kernel
set_option maxRecDepth 20000 in
theorem dX10_step_160 : decode cX10_step 160 = .ok (.aload_n 0, 1) := by decide +kernel
set_option maxRecDepth 20000 in
theorem dX10_step_161 : decode cX10_step 161 = .ok (.getfield 80, 3) := by decide +kernel
set_option maxRecDepth 20000 in
theorem dX10_step_164 : decode cX10_step 164 = .ok (.iload_n 1, 1) := by decide +kernel
set_option maxRecDepth 20000 in
theorem dX10_step_165 : decode cX10_step 165 = .ok (.iaload, 1) := by decide +kernel
set_option maxRecDepth 20000 in
theorem dX10_step_166 : decode cX10_step 166 = .ok (.iadd, 1) := by decide +kernel
set_option maxRecDepth 20000 in
theorem dX10_step_167 : decode cX10_step 167 = .ok (.istore 6, 2) := by decide +kernel
set_option maxRecDepth 20000 in
theorem dX10_step_169 : decode cX10_step 169 = .ok (.aload_n 0, 1) := by decide +kernel
set_option maxRecDepth 20000 in
theorem dX10_step_170 : decode cX10_step 170 = .ok (.getfield 83, 3) := by decide +kernel
set_option maxRecDepth 20000 in
theorem dX10_step_173 : decode cX10_step 173 = .ok (.iload 6, 2) := by decide +kernel
set_option maxRecDepth 20000 in
theorem dX10_step_175 : decode cX10_step 175 = .ok (.iload_n 2, 1) := by decide +kernel
set_option maxRecDepth 20000 in
theorem dX10_step_176 : decode cX10_step 176 = .ok (.iastore, 1) := by decide +kernel
set_option maxRecDepth 20000 in
theorem dX10_step_177 : decode cX10_step 177 = .ok (.aload_n 0, 1) := by decide +kernel
set_option maxRecDepth 20000 in
theorem dX10_step_178 : decode cX10_step 178 = .ok (.getfield 86, 3) := by decide +kernel
set_option maxRecDepth 20000 in
theorem dX10_step_181 : decode cX10_step 181 = .ok (.iload 6, 2) := by decide +kernel
set_option maxRecDepth 20000 in
theorem dX10_step_183 : decode cX10_step 183 = .ok (.iload_n 3, 1) := by decide +kernel
set_option maxRecDepth 20000 in
theorem dX10_step_184 : decode cX10_step 184 = .ok (.iastore, 1) := by decide +kernel
set_option maxRecDepth 20000 in
theorem dX10_step_185 : decode cX10_step 185 = .ok (.aload_n 0, 1) := by decide +kernel
set_option maxRecDepth 20000 in
theorem dX10_step_186 : decode cX10_step 186 = .ok (.getfield 89, 3) := by decide +kernel
set_option maxRecDepth 20000 in
theorem dX10_step_189 : decode cX10_step 189 = .ok (.iload 6, 2) := by decide +kernel
set_option maxRecDepth 20000 in
theorem dX10_step_191 : decode cX10_step 191 = .ok (.iload 4, 2) := by decide +kernel
set_option maxRecDepth 20000 in
theorem dX10_step_193 : decode cX10_step 193 = .ok (.iastore, 1) := by decide +kernel
set_option maxRecDepth 20000 in
theorem dX10_step_194 : decode cX10_step 194 = .ok (.aload_n 0, 1) := by decide +kernel
set_option maxRecDepth 20000 in
theorem dX10_step_195 : decode cX10_step 195 = .ok (.getfield 80, 3) := by decide +kernel
set_option maxRecDepth 20000 in
theorem dX10_step_198 : decode cX10_step 198 = .ok (.iload_n 1, 1) := by decide +kernel
set_option maxRecDepth 20000 in
theorem dX10_step_199 : decode cX10_step 199 = .ok (.dup2, 1) := by decide +kernel
set_option maxRecDepth 20000 in
theorem dX10_step_200 : decode cX10_step 200 = .ok (.iaload, 1) := by decide +kernel
set_option maxRecDepth 20000 in
theorem dX10_step_201 : decode cX10_step 201 = .ok (.iconst 1, 1) := by decide +kernel
set_option maxRecDepth 20000 in
theorem dX10_step_202 : decode cX10_step 202 = .ok (.iadd, 1) := by decide +kernel
set_option maxRecDepth 20000 in
theorem dX10_step_203 : decode cX10_step 203 = .ok (.dup_x2, 1) := by decide +kernel
set_option maxRecDepth 20000 in
theorem dX10_step_204 : decode cX10_step 204 = .ok (.iastore, 1) := by decide +kernel
set_option maxRecDepth 20000 in
theorem dX10_step_205 : decode cX10_step 205 = .ok (.ireturn, 1) := by decide +kernel
set_option maxRecDepth 20000 in
theorem dX10_empty_0 : decode cX10_empty 0 = .ok (.iload_n 1, 1) := by decide +kernel
set_option maxRecDepth 20000 in
theorem dX10_empty_1 : decode cX10_empty 1 = .ok (.iconst 0, 1) := by decide +kernel
set_option maxRecDepth 20000 in
theorem dX10_empty_2 : decode cX10_empty 2 = .ok (.bipush 9, 2) := by decide +kernel
set_option maxRecDepth 20000 in
theorem dX10_empty_4 : decode cX10_empty 4 = .ok (.invokestatic 171, 3) := by decide +kernel
set_option maxRecDepth 20000 in
theorem dX10_empty_7 : decode cX10_empty 7 = .ok (.ifCond .ne 5, 3) := by decide +kernel
set_option maxRecDepth 20000 in
theorem dX10_empty_10 : decode cX10_empty 10 = .ok (.iconst (-1), 1) := by decide +kernel
set_option maxRecDepth 20000 in
theorem dX10_empty_11 : decode cX10_empty 11 = .ok (.ireturn, 1) := by decide +kernel
set_option maxRecDepth 20000 in
theorem dX10_empty_12 : decode cX10_empty 12 = .ok (.aload_n 0, 1) := by decide +kernel
set_option maxRecDepth 20000 in
theorem dX10_empty_13 : decode cX10_empty 13 = .ok (.getfield 80, 3) := by decide +kernel
set_option maxRecDepth 20000 in
theorem dX10_empty_16 : decode cX10_empty 16 = .ok (.iload_n 1, 1) := by decide +kernel
set_option maxRecDepth 20000 in
theorem dX10_empty_17 : decode cX10_empty 17 = .ok (.iaload, 1) := by decide +kernel
set_option maxRecDepth 20000 in
theorem dX10_empty_18 : decode cX10_empty 18 = .ok (.istore_n 2, 1) := by decide +kernel
set_option maxRecDepth 20000 in
theorem dX10_empty_19 : decode cX10_empty 19 = .ok (.aload_n 0, 1) := by decide +kernel
set_option maxRecDepth 20000 in
theorem dX10_empty_20 : decode cX10_empty 20 = .ok (.getfield 80, 3) := by decide +kernel
set_option maxRecDepth 20000 in
theorem dX10_empty_23 : decode cX10_empty 23 = .ok (.iload_n 1, 1) := by decide +kernel
set_option maxRecDepth 20000 in
theorem dX10_empty_24 : decode cX10_empty 24 = .ok (.iconst 0, 1) := by decide +kernel
set_option maxRecDepth 20000 in
theorem dX10_empty_25 : decode cX10_empty 25 = .ok (.iastore, 1) := by decide +kernel
set_option maxRecDepth 20000 in
theorem dX10_empty_26 : decode cX10_empty 26 = .ok (.iload_n 2, 1) := by decide +kernel
set_option maxRecDepth 20000 in
theorem dX10_empty_27 : decode cX10_empty 27 = .ok (.ireturn, 1) := by decide +kernel
set_option maxRecDepth 20000 in
theorem dX10_begin_0 : decode cX10_begin 0 = .ok (.aload_n 0, 1) := by decide +kernel
set_option maxRecDepth 20000 in
theorem dX10_begin_1 : decode cX10_begin 1 = .ok (.dup, 1) := by decide +kernel
set_option maxRecDepth 20000 in
theorem dX10_begin_2 : decode cX10_begin 2 = .ok (.getfield 215, 3) := by decide +kernel
set_option maxRecDepth 20000 in
theorem dX10_begin_5 : decode cX10_begin 5 = .ok (.iconst 1, 1) := by decide +kernel
set_option maxRecDepth 20000 in
theorem dX10_begin_6 : decode cX10_begin 6 = .ok (.iadd, 1) := by decide +kernel
set_option maxRecDepth 20000 in
theorem dX10_begin_7 : decode cX10_begin 7 = .ok (.putfield 215, 3) := by decide +kernel
set_option maxRecDepth 20000 in
theorem dX10_begin_10 : decode cX10_begin 10 = .ok (.aload_n 0, 1) := by decide +kernel
set_option maxRecDepth 20000 in
theorem dX10_begin_11 : decode cX10_begin 11 = .ok (.getfield 134, 3) := by decide +kernel
set_option maxRecDepth 20000 in
theorem dX10_begin_14 : decode cX10_begin 14 = .ok (.aload_n 0, 1) := by decide +kernel
set_option maxRecDepth 20000 in
theorem dX10_begin_15 : decode cX10_begin 15 = .ok (.getfield 215, 3) := by decide +kernel
set_option maxRecDepth 20000 in
theorem dX10_begin_18 : decode cX10_begin 18 = .ok (.iload_n 1, 1) := by decide +kernel
set_option maxRecDepth 20000 in
theorem dX10_begin_19 : decode cX10_begin 19 = .ok (.iastore, 1) := by decide +kernel
set_option maxRecDepth 20000 in
theorem dX10_begin_20 : decode cX10_begin 20 = .ok (.aload_n 0, 1) := by decide +kernel
set_option maxRecDepth 20000 in
theorem dX10_begin_21 : decode cX10_begin 21 = .ok (.getfield 137, 3) := by decide +kernel
set_option maxRecDepth 20000 in
theorem dX10_begin_24 : decode cX10_begin 24 = .ok (.aload_n 0, 1) := by decide +kernel
set_option maxRecDepth 20000 in
theorem dX10_begin_25 : decode cX10_begin 25 = .ok (.getfield 215, 3) := by decide +kernel
set_option maxRecDepth 20000 in
theorem dX10_begin_28 : decode cX10_begin 28 = .ok (.iload_n 2, 1) := by decide +kernel
set_option maxRecDepth 20000 in
theorem dX10_begin_29 : decode cX10_begin 29 = .ok (.iastore, 1) := by decide +kernel
set_option maxRecDepth 20000 in
theorem dX10_begin_30 : decode cX10_begin 30 = .ok (.aload_n 0, 1) := by decide +kernel
set_option maxRecDepth 20000 in
theorem dX10_begin_31 : decode cX10_begin 31 = .ok (.getfield 140, 3) := by decide +kernel
set_option maxRecDepth 20000 in
theorem dX10_begin_34 : decode cX10_begin 34 = .ok (.aload_n 0, 1) := by decide +kernel
set_option maxRecDepth 20000 in
theorem dX10_begin_35 : decode cX10_begin 35 = .ok (.getfield 215, 3) := by decide +kernel
set_option maxRecDepth 20000 in
theorem dX10_begin_38 : decode cX10_begin 38 = .ok (.iload_n 3, 1) := by decide +kernel
set_option maxRecDepth 20000 in
theorem dX10_begin_39 : decode cX10_begin 39 = .ok (.iastore, 1) := by decide +kernel
set_option maxRecDepth 20000 in
theorem dX10_begin_40 : decode cX10_begin 40 = .ok (.aload_n 0, 1) := by decide +kernel
set_option maxRecDepth 20000 in
theorem dX10_begin_41 : decode cX10_begin 41 = .ok (.getfield 143, 3) := by decide +kernel
set_option maxRecDepth 20000 in
theorem dX10_begin_44 : decode cX10_begin 44 = .ok (.aload_n 0, 1) := by decide +kernel
set_option maxRecDepth 20000 in
theorem dX10_begin_45 : decode cX10_begin 45 = .ok (.getfield 215, 3) := by decide +kernel
set_option maxRecDepth 20000 in
theorem dX10_begin_48 : decode cX10_begin 48 = .ok (.iload 4, 2) := by decide +kernel
set_option maxRecDepth 20000 in
theorem dX10_begin_50 : decode cX10_begin 50 = .ok (.iastore, 1) := by decide +kernel
set_option maxRecDepth 20000 in
theorem dX10_begin_51 : decode cX10_begin 51 = .ok (.aload_n 0, 1) := by decide +kernel
set_option maxRecDepth 20000 in
theorem dX10_begin_52 : decode cX10_begin 52 = .ok (.getfield 146, 3) := by decide +kernel
set_option maxRecDepth 20000 in
theorem dX10_begin_55 : decode cX10_begin 55 = .ok (.aload_n 0, 1) := by decide +kernel
set_option maxRecDepth 20000 in
theorem dX10_begin_56 : decode cX10_begin 56 = .ok (.getfield 215, 3) := by decide +kernel
set_option maxRecDepth 20000 in
theorem dX10_begin_59 : decode cX10_begin 59 = .ok (.iload 5, 2) := by decide +kernel
set_option maxRecDepth 20000 in
theorem dX10_begin_61 : decode cX10_begin 61 = .ok (.iastore, 1) := by decide +kernel
set_option maxRecDepth 20000 in
theorem dX10_begin_62 : decode cX10_begin 62 = .ok (.return_, 1) := by decide +kernel
set_option maxRecDepth 20000 in
theorem dX10_put_0 : decode cX10_put 0 = .ok (.aload_n 0, 1) := by decide +kernel
set_option maxRecDepth 20000 in
theorem dX10_put_1 : decode cX10_put 1 = .ok (.getfield 140, 3) := by decide +kernel
set_option maxRecDepth 20000 in
theorem dX10_put_4 : decode cX10_put 4 = .ok (.aload_n 0, 1) := by decide +kernel
set_option maxRecDepth 20000 in
theorem dX10_put_5 : decode cX10_put 5 = .ok (.getfield 215, 3) := by decide +kernel
set_option maxRecDepth 20000 in
theorem dX10_put_8 : decode cX10_put 8 = .ok (.iload_n 1, 1) := by decide +kernel
set_option maxRecDepth 20000 in
theorem dX10_put_9 : decode cX10_put 9 = .ok (.iastore, 1) := by decide +kernel
set_option maxRecDepth 20000 in
theorem dX10_put_10 : decode cX10_put 10 = .ok (.aload_n 0, 1) := by decide +kernel
set_option maxRecDepth 20000 in
theorem dX10_put_11 : decode cX10_put 11 = .ok (.getfield 143, 3) := by decide +kernel
set_option maxRecDepth 20000 in
theorem dX10_put_14 : decode cX10_put 14 = .ok (.aload_n 0, 1) := by decide +kernel
set_option maxRecDepth 20000 in
theorem dX10_put_15 : decode cX10_put 15 = .ok (.getfield 215, 3) := by decide +kernel
set_option maxRecDepth 20000 in
theorem dX10_put_18 : decode cX10_put 18 = .ok (.iload_n 2, 1) := by decide +kernel
set_option maxRecDepth 20000 in
theorem dX10_put_19 : decode cX10_put 19 = .ok (.iastore, 1) := by decide +kernel
set_option maxRecDepth 20000 in
theorem dX10_put_20 : decode cX10_put 20 = .ok (.return_, 1) := by decide +kernel
set_option maxRecDepth 20000 in
theorem dX10_endOf_0 : decode cX10_endOf 0 = .ok (.iconst 0, 1) := by decide +kernel
set_option maxRecDepth 20000 in
theorem dX10_endOf_1 : decode cX10_endOf 1 = .ok (.istore_n 3, 1) := by decide +kernel
set_option maxRecDepth 20000 in
theorem dX10_endOf_2 : decode cX10_endOf 2 = .ok (.iload_n 2, 1) := by decide +kernel
set_option maxRecDepth 20000 in
theorem dX10_endOf_3 : decode cX10_endOf 3 = .ok (.iconst 1, 1) := by decide +kernel
set_option maxRecDepth 20000 in
theorem dX10_endOf_4 : decode cX10_endOf 4 = .ok (.iadd, 1) := by decide +kernel
set_option maxRecDepth 20000 in
theorem dX10_endOf_5 : decode cX10_endOf 5 = .ok (.istore 4, 2) := by decide +kernel
set_option maxRecDepth 20000 in
theorem dX10_endOf_7 : decode cX10_endOf 7 = .ok (.iload 4, 2) := by decide +kernel
set_option maxRecDepth 20000 in
theorem dX10_endOf_9 : decode cX10_endOf 9 = .ok (.aload_n 0, 1) := by decide +kernel
set_option maxRecDepth 20000 in
theorem dX10_endOf_10 : decode cX10_endOf 10 = .ok (.getfield 80, 3) := by decide +kernel
set_option maxRecDepth 20000 in
theorem dX10_endOf_13 : decode cX10_endOf 13 = .ok (.iload_n 1, 1) := by decide +kernel
set_option maxRecDepth 20000 in
theorem dX10_endOf_14 : decode cX10_endOf 14 = .ok (.iaload, 1) := by decide +kernel
set_option maxRecDepth 20000 in
theorem dX10_endOf_15 : decode cX10_endOf 15 = .ok (.if_icmp .ge 63, 3) := by decide +kernel
set_option maxRecDepth 20000 in
theorem dX10_endOf_18 : decode cX10_endOf 18 = .ok (.aload_n 0, 1) := by decide +kernel
set_option maxRecDepth 20000 in
theorem dX10_endOf_19 : decode cX10_endOf 19 = .ok (.getfield 83, 3) := by decide +kernel
set_option maxRecDepth 20000 in
theorem dX10_endOf_22 : decode cX10_endOf 22 = .ok (.bipush 10, 2) := by decide +kernel
set_option maxRecDepth 20000 in
theorem dX10_endOf_24 : decode cX10_endOf 24 = .ok (.iload_n 1, 1) := by decide +kernel
set_option maxRecDepth 20000 in
theorem dX10_endOf_25 : decode cX10_endOf 25 = .ok (.imul, 1) := by decide +kernel
set_option maxRecDepth 20000 in
theorem dX10_endOf_26 : decode cX10_endOf 26 = .ok (.iload 4, 2) := by decide +kernel
set_option maxRecDepth 20000 in
theorem dX10_endOf_28 : decode cX10_endOf 28 = .ok (.iadd, 1) := by decide +kernel
set_option maxRecDepth 20000 in
theorem dX10_endOf_29 : decode cX10_endOf 29 = .ok (.iaload, 1) := by decide +kernel
set_option maxRecDepth 20000 in
theorem dX10_endOf_30 : decode cX10_endOf 30 = .ok (.istore 5, 2) := by decide +kernel
set_option maxRecDepth 20000 in
theorem dX10_endOf_32 : decode cX10_endOf 32 = .ok (.iload 5, 2) := by decide +kernel
set_option maxRecDepth 20000 in
theorem dX10_endOf_34 : decode cX10_endOf 34 = .ok (.bipush 7, 2) := by decide +kernel
set_option maxRecDepth 20000 in
theorem dX10_endOf_36 : decode cX10_endOf 36 = .ok (.if_icmp .ne 10, 3) := by decide +kernel
set_option maxRecDepth 20000 in
theorem dX10_endOf_39 : decode cX10_endOf 39 = .ok (.iload_n 3, 1) := by decide +kernel
set_option maxRecDepth 20000 in
theorem dX10_endOf_40 : decode cX10_endOf 40 = .ok (.ifCond .ne 6, 3) := by decide +kernel
set_option maxRecDepth 20000 in
theorem dX10_endOf_43 : decode cX10_endOf 43 = .ok (.iload 4, 2) := by decide +kernel
set_option maxRecDepth 20000 in
theorem dX10_endOf_45 : decode cX10_endOf 45 = .ok (.ireturn, 1) := by decide +kernel
set_option maxRecDepth 20000 in
theorem dX10_endOf_46 : decode cX10_endOf 46 = .ok (.iload_n 3, 1) := by decide +kernel
set_option maxRecDepth 20000 in
theorem dX10_endOf_47 : decode cX10_endOf 47 = .ok (.iload 5, 2) := by decide +kernel
set_option maxRecDepth 20000 in
theorem dX10_endOf_49 : decode cX10_endOf 49 = .ok (.bipush 6, 2) := by decide +kernel
set_option maxRecDepth 20000 in
theorem dX10_endOf_51 : decode cX10_endOf 51 = .ok (.if_icmp .ne 7, 3) := by decide +kernel
set_option maxRecDepth 20000 in
theorem dX10_endOf_54 : decode cX10_endOf 54 = .ok (.iconst 1, 1) := by decide +kernel
set_option maxRecDepth 20000 in
theorem dX10_endOf_55 : decode cX10_endOf 55 = .ok (.goto 15, 3) := by decide +kernel
set_option maxRecDepth 20000 in
theorem dX10_endOf_58 : decode cX10_endOf 58 = .ok (.iload 5, 2) := by decide +kernel
set_option maxRecDepth 20000 in
theorem dX10_endOf_60 : decode cX10_endOf 60 = .ok (.bipush 7, 2) := by decide +kernel
set_option maxRecDepth 20000 in
theorem dX10_endOf_62 : decode cX10_endOf 62 = .ok (.if_icmp .ne 7, 3) := by decide +kernel
set_option maxRecDepth 20000 in
theorem dX10_endOf_65 : decode cX10_endOf 65 = .ok (.iconst (-1), 1) := by decide +kernel
set_option maxRecDepth 20000 in
theorem dX10_endOf_66 : decode cX10_endOf 66 = .ok (.goto 4, 3) := by decide +kernel
set_option maxRecDepth 20000 in
theorem dX10_endOf_69 : decode cX10_endOf 69 = .ok (.iconst 0, 1) := by decide +kernel
set_option maxRecDepth 20000 in
theorem dX10_endOf_70 : decode cX10_endOf 70 = .ok (.iadd, 1) := by decide +kernel
set_option maxRecDepth 20000 in
theorem dX10_endOf_71 : decode cX10_endOf 71 = .ok (.istore_n 3, 1) := by decide +kernel
set_option maxRecDepth 20000 in
theorem dX10_endOf_72 : decode cX10_endOf 72 = .ok (.iinc 4 1, 3) := by decide +kernel
set_option maxRecDepth 20000 in
theorem dX10_endOf_75 : decode cX10_endOf 75 = .ok (.goto (-68), 3) := by decide +kernel
set_option maxRecDepth 20000 in
theorem dX10_endOf_78 : decode cX10_endOf 78 = .ok (.iconst (-1), 1) := by decide +kernel
set_option maxRecDepth 20000 in
theorem dX10_endOf_79 : decode cX10_endOf 79 = .ok (.ireturn, 1) := by decide +kernel
set_option maxRecDepth 20000 in
theorem dX10_fling_0 : decode cX10_fling 0 = .ok (.aload_n 0, 1) := by decide +kernel
set_option maxRecDepth 20000 in
theorem dX10_fling_1 : decode cX10_fling 1 = .ok (.getfield 134, 3) := by decide +kernel
set_option maxRecDepth 20000 in
theorem dX10_fling_4 : decode cX10_fling 4 = .ok (.aload_n 0, 1) := by decide +kernel
set_option maxRecDepth 20000 in
theorem dX10_fling_5 : decode cX10_fling 5 = .ok (.getfield 215, 3) := by decide +kernel
set_option maxRecDepth 20000 in
theorem dX10_fling_8 : decode cX10_fling 8 = .ok (.iaload, 1) := by decide +kernel
set_option maxRecDepth 20000 in
theorem dX10_fling_9 : decode cX10_fling 9 = .ok (.istore_n 3, 1) := by decide +kernel
set_option maxRecDepth 20000 in
theorem dX10_fling_10 : decode cX10_fling 10 = .ok (.aload_n 0, 1) := by decide +kernel
set_option maxRecDepth 20000 in
theorem dX10_fling_11 : decode cX10_fling 11 = .ok (.getfield 137, 3) := by decide +kernel
set_option maxRecDepth 20000 in
theorem dX10_fling_14 : decode cX10_fling 14 = .ok (.aload_n 0, 1) := by decide +kernel
set_option maxRecDepth 20000 in
theorem dX10_fling_15 : decode cX10_fling 15 = .ok (.getfield 215, 3) := by decide +kernel
set_option maxRecDepth 20000 in
theorem dX10_fling_18 : decode cX10_fling 18 = .ok (.iaload, 1) := by decide +kernel
set_option maxRecDepth 20000 in
theorem dX10_fling_19 : decode cX10_fling 19 = .ok (.iconst 1, 1) := by decide +kernel
set_option maxRecDepth 20000 in
theorem dX10_fling_20 : decode cX10_fling 20 = .ok (.isub, 1) := by decide +kernel
set_option maxRecDepth 20000 in
theorem dX10_fling_21 : decode cX10_fling 21 = .ok (.istore 4, 2) := by decide +kernel
set_option maxRecDepth 20000 in
theorem dX10_fling_23 : decode cX10_fling 23 = .ok (.aload_n 0, 1) := by decide +kernel
set_option maxRecDepth 20000 in
theorem dX10_fling_24 : decode cX10_fling 24 = .ok (.iload_n 1, 1) := by decide +kernel
set_option maxRecDepth 20000 in
theorem dX10_fling_25 : decode cX10_fling 25 = .ok (.iload_n 2, 1) := by decide +kernel
set_option maxRecDepth 20000 in
theorem dX10_fling_26 : decode cX10_fling 26 = .ok (.invokevirtual 218, 3) := by decide +kernel
set_option maxRecDepth 20000 in
theorem dX10_fling_29 : decode cX10_fling 29 = .ok (.iload 4, 2) := by decide +kernel
set_option maxRecDepth 20000 in
theorem dX10_fling_31 : decode cX10_fling 31 = .ok (.iconst 1, 1) := by decide +kernel
set_option maxRecDepth 20000 in
theorem dX10_fling_32 : decode cX10_fling 32 = .ok (.isub, 1) := by decide +kernel
set_option maxRecDepth 20000 in
theorem dX10_fling_33 : decode cX10_fling 33 = .ok (.istore 5, 2) := by decide +kernel
set_option maxRecDepth 20000 in
theorem dX10_fling_35 : decode cX10_fling 35 = .ok (.iload 5, 2) := by decide +kernel
set_option maxRecDepth 20000 in
theorem dX10_fling_37 : decode cX10_fling 37 = .ok (.ifCond .lt 73, 3) := by decide +kernel
set_option maxRecDepth 20000 in
theorem dX10_fling_40 : decode cX10_fling 40 = .ok (.iload 5, 2) := by decide +kernel
set_option maxRecDepth 20000 in
theorem dX10_fling_42 : decode cX10_fling 42 = .ok (.aload_n 0, 1) := by decide +kernel
set_option maxRecDepth 20000 in
theorem dX10_fling_43 : decode cX10_fling 43 = .ok (.getfield 80, 3) := by decide +kernel
set_option maxRecDepth 20000 in
theorem dX10_fling_46 : decode cX10_fling 46 = .ok (.iload_n 3, 1) := by decide +kernel
set_option maxRecDepth 20000 in
theorem dX10_fling_47 : decode cX10_fling 47 = .ok (.iaload, 1) := by decide +kernel
set_option maxRecDepth 20000 in
theorem dX10_fling_48 : decode cX10_fling 48 = .ok (.if_icmp .ge 56, 3) := by decide +kernel
set_option maxRecDepth 20000 in
theorem dX10_fling_51 : decode cX10_fling 51 = .ok (.aload_n 0, 1) := by decide +kernel
set_option maxRecDepth 20000 in
theorem dX10_fling_52 : decode cX10_fling 52 = .ok (.getfield 83, 3) := by decide +kernel
set_option maxRecDepth 20000 in
theorem dX10_fling_55 : decode cX10_fling 55 = .ok (.bipush 10, 2) := by decide +kernel
set_option maxRecDepth 20000 in
theorem dX10_fling_57 : decode cX10_fling 57 = .ok (.iload_n 3, 1) := by decide +kernel
set_option maxRecDepth 20000 in
theorem dX10_fling_58 : decode cX10_fling 58 = .ok (.imul, 1) := by decide +kernel
set_option maxRecDepth 20000 in
theorem dX10_fling_59 : decode cX10_fling 59 = .ok (.iload 5, 2) := by decide +kernel
set_option maxRecDepth 20000 in
theorem dX10_fling_61 : decode cX10_fling 61 = .ok (.iadd, 1) := by decide +kernel
set_option maxRecDepth 20000 in
theorem dX10_fling_62 : decode cX10_fling 62 = .ok (.iaload, 1) := by decide +kernel
set_option maxRecDepth 20000 in
theorem dX10_fling_63 : decode cX10_fling 63 = .ok (.bipush 6, 2) := by decide +kernel
set_option maxRecDepth 20000 in
theorem dX10_fling_65 : decode cX10_fling 65 = .ok (.if_icmp .eq 6, 3) := by decide +kernel
set_option maxRecDepth 20000 in
theorem dX10_fling_68 : decode cX10_fling 68 = .ok (.goto 36, 3) := by decide +kernel
set_option maxRecDepth 20000 in
theorem dX10_fling_71 : decode cX10_fling 71 = .ok (.aload_n 0, 1) := by decide +kernel
set_option maxRecDepth 20000 in
theorem dX10_fling_72 : decode cX10_fling 72 = .ok (.iload_n 3, 1) := by decide +kernel
set_option maxRecDepth 20000 in
theorem dX10_fling_73 : decode cX10_fling 73 = .ok (.iload 5, 2) := by decide +kernel
set_option maxRecDepth 20000 in
theorem dX10_fling_75 : decode cX10_fling 75 = .ok (.invokevirtual 222, 3) := by decide +kernel
set_option maxRecDepth 20000 in
theorem dX10_fling_78 : decode cX10_fling 78 = .ok (.istore 6, 2) := by decide +kernel
set_option maxRecDepth 20000 in
theorem dX10_fling_80 : decode cX10_fling 80 = .ok (.iload 6, 2) := by decide +kernel
set_option maxRecDepth 20000 in
theorem dX10_fling_82 : decode cX10_fling 82 = .ok (.iload 4, 2) := by decide +kernel
set_option maxRecDepth 20000 in
theorem dX10_fling_84 : decode cX10_fling 84 = .ok (.if_icmp .gt 6, 3) := by decide +kernel
set_option maxRecDepth 20000 in
theorem dX10_fling_87 : decode cX10_fling 87 = .ok (.goto 17, 3) := by decide +kernel
set_option maxRecDepth 20000 in
theorem dX10_fling_90 : decode cX10_fling 90 = .ok (.aload_n 0, 1) := by decide +kernel
set_option maxRecDepth 20000 in
theorem dX10_fling_91 : decode cX10_fling 91 = .ok (.getfield 137, 3) := by decide +kernel
set_option maxRecDepth 20000 in
theorem dX10_fling_94 : decode cX10_fling 94 = .ok (.aload_n 0, 1) := by decide +kernel
set_option maxRecDepth 20000 in
theorem dX10_fling_95 : decode cX10_fling 95 = .ok (.getfield 215, 3) := by decide +kernel
set_option maxRecDepth 20000 in
theorem dX10_fling_98 : decode cX10_fling 98 = .ok (.iload 6, 2) := by decide +kernel
set_option maxRecDepth 20000 in
theorem dX10_fling_100 : decode cX10_fling 100 = .ok (.iconst 1, 1) := by decide +kernel
set_option maxRecDepth 20000 in
theorem dX10_fling_101 : decode cX10_fling 101 = .ok (.iadd, 1) := by decide +kernel
set_option maxRecDepth 20000 in
theorem dX10_fling_102 : decode cX10_fling 102 = .ok (.iastore, 1) := by decide +kernel
set_option maxRecDepth 20000 in
theorem dX10_fling_103 : decode cX10_fling 103 = .ok (.return_, 1) := by decide +kernel
set_option maxRecDepth 20000 in
theorem dX10_fling_104 : decode cX10_fling 104 = .ok (.iinc 5 (-1), 3) := by decide +kernel
set_option maxRecDepth 20000 in
theorem dX10_fling_107 : decode cX10_fling 107 = .ok (.goto (-72), 3) := by decide +kernel
set_option maxRecDepth 20000 in
theorem dX10_fling_110 : decode cX10_fling 110 = .ok (.aload_n 0, 1) := by decide +kernel
set_option maxRecDepth 20000 in
theorem dX10_fling_111 : decode cX10_fling 111 = .ok (.iconst 1, 1) := by decide +kernel
set_option maxRecDepth 20000 in
theorem dX10_fling_112 : decode cX10_fling 112 = .ok (.iload_n 1, 1) := by decide +kernel
set_option maxRecDepth 20000 in
theorem dX10_fling_113 : decode cX10_fling 113 = .ok (.iload_n 2, 1) := by decide +kernel
set_option maxRecDepth 20000 in
theorem dX10_fling_114 : decode cX10_fling 114 = .ok (.invokevirtual 226, 3) := by decide +kernel
set_option maxRecDepth 20000 in
theorem dX10_fling_117 : decode cX10_fling 117 = .ok (.return_, 1) := by decide +kernel
set_option maxRecDepth 20000 in
theorem dX10_finish_0 : decode cX10_finish 0 = .ok (.aload_n 0, 1) := by decide +kernel
set_option maxRecDepth 20000 in
theorem dX10_finish_1 : decode cX10_finish 1 = .ok (.getfield 146, 3) := by decide +kernel
set_option maxRecDepth 20000 in
theorem dX10_finish_4 : decode cX10_finish 4 = .ok (.aload_n 0, 1) := by decide +kernel
set_option maxRecDepth 20000 in
theorem dX10_finish_5 : decode cX10_finish 5 = .ok (.getfield 215, 3) := by decide +kernel
set_option maxRecDepth 20000 in
theorem dX10_finish_8 : decode cX10_finish 8 = .ok (.iaload, 1) := by decide +kernel
set_option maxRecDepth 20000 in
theorem dX10_finish_9 : decode cX10_finish 9 = .ok (.istore 4, 2) := by decide +kernel
set_option maxRecDepth 20000 in
theorem dX10_finish_11 : decode cX10_finish 11 = .ok (.aload_n 0, 1) := by decide +kernel
set_option maxRecDepth 20000 in
theorem dX10_finish_12 : decode cX10_finish 12 = .ok (.dup, 1) := by decide +kernel
set_option maxRecDepth 20000 in
theorem dX10_finish_13 : decode cX10_finish 13 = .ok (.getfield 215, 3) := by decide +kernel
set_option maxRecDepth 20000 in
theorem dX10_finish_16 : decode cX10_finish 16 = .ok (.iconst 1, 1) := by decide +kernel
set_option maxRecDepth 20000 in
theorem dX10_finish_17 : decode cX10_finish 17 = .ok (.isub, 1) := by decide +kernel
set_option maxRecDepth 20000 in
theorem dX10_finish_18 : decode cX10_finish 18 = .ok (.putfield 215, 3) := by decide +kernel
set_option maxRecDepth 20000 in
theorem dX10_finish_21 : decode cX10_finish 21 = .ok (.iload 4, 2) := by decide +kernel
set_option maxRecDepth 20000 in
theorem dX10_finish_23 : decode cX10_finish 23 = .ok (.ifCond .lt 14, 3) := by decide +kernel
set_option maxRecDepth 20000 in
theorem dX10_finish_26 : decode cX10_finish 26 = .ok (.aload_n 0, 1) := by decide +kernel
set_option maxRecDepth 20000 in
theorem dX10_finish_27 : decode cX10_finish 27 = .ok (.iload 4, 2) := by decide +kernel
set_option maxRecDepth 20000 in
theorem dX10_finish_29 : decode cX10_finish 29 = .ok (.iload_n 1, 1) := by decide +kernel
set_option maxRecDepth 20000 in
theorem dX10_finish_30 : decode cX10_finish 30 = .ok (.iload_n 2, 1) := by decide +kernel
set_option maxRecDepth 20000 in
theorem dX10_finish_31 : decode cX10_finish 31 = .ok (.iload_n 3, 1) := by decide +kernel
set_option maxRecDepth 20000 in
theorem dX10_finish_32 : decode cX10_finish 32 = .ok (.iconst 0, 1) := by decide +kernel
set_option maxRecDepth 20000 in
theorem dX10_finish_33 : decode cX10_finish 33 = .ok (.invokevirtual 230, 3) := by decide +kernel
set_option maxRecDepth 20000 in
theorem dX10_finish_36 : decode cX10_finish 36 = .ok (.return_, 1) := by decide +kernel
set_option maxRecDepth 20000 in
theorem dX10_finish_37 : decode cX10_finish 37 = .ok (.aload_n 0, 1) := by decide +kernel
set_option maxRecDepth 20000 in
theorem dX10_finish_38 : decode cX10_finish 38 = .ok (.iload_n 1, 1) := by decide +kernel
set_option maxRecDepth 20000 in
theorem dX10_finish_39 : decode cX10_finish 39 = .ok (.putfield 234, 3) := by decide +kernel
set_option maxRecDepth 20000 in
theorem dX10_finish_42 : decode cX10_finish 42 = .ok (.aload_n 0, 1) := by decide +kernel
set_option maxRecDepth 20000 in
theorem dX10_finish_43 : decode cX10_finish 43 = .ok (.iload_n 2, 1) := by decide +kernel
set_option maxRecDepth 20000 in
theorem dX10_finish_44 : decode cX10_finish 44 = .ok (.putfield 238, 3) := by decide +kernel
set_option maxRecDepth 20000 in
theorem dX10_finish_47 : decode cX10_finish 47 = .ok (.aload_n 0, 1) := by decide +kernel
set_option maxRecDepth 20000 in
theorem dX10_finish_48 : decode cX10_finish 48 = .ok (.iload_n 3, 1) := by decide +kernel
set_option maxRecDepth 20000 in
theorem dX10_finish_49 : decode cX10_finish 49 = .ok (.putfield 241, 3) := by decide +kernel
set_option maxRecDepth 20000 in
theorem dX10_finish_52 : decode cX10_finish 52 = .ok (.return_, 1) := by decide +kernel
set_option maxRecDepth 20000 in
theorem dX10_note_0 : decode cX10_note 0 = .ok (.aload_n 0, 1) := by decide +kernel
set_option maxRecDepth 20000 in
theorem dX10_note_1 : decode cX10_note 1 = .ok (.getfield 125, 3) := by decide +kernel
set_option maxRecDepth 20000 in
theorem dX10_note_4 : decode cX10_note 4 = .ok (.aload_n 0, 1) := by decide +kernel
set_option maxRecDepth 20000 in
theorem dX10_note_5 : decode cX10_note 5 = .ok (.getfield 168, 3) := by decide +kernel
set_option maxRecDepth 20000 in
theorem dX10_note_8 : decode cX10_note 8 = .ok (.bipush 60, 2) := by decide +kernel
set_option maxRecDepth 20000 in
theorem dX10_note_10 : decode cX10_note 10 = .ok (.irem, 1) := by decide +kernel
set_option maxRecDepth 20000 in
theorem dX10_note_11 : decode cX10_note 11 = .ok (.iload_n 1, 1) := by decide +kernel
set_option maxRecDepth 20000 in
theorem dX10_note_12 : decode cX10_note 12 = .ok (.iastore, 1) := by decide +kernel
set_option maxRecDepth 20000 in
theorem dX10_note_13 : decode cX10_note 13 = .ok (.aload_n 0, 1) := by decide +kernel
set_option maxRecDepth 20000 in
theorem dX10_note_14 : decode cX10_note 14 = .ok (.getfield 128, 3) := by decide +kernel
set_option maxRecDepth 20000 in
theorem dX10_note_17 : decode cX10_note 17 = .ok (.aload_n 0, 1) := by decide +kernel
set_option maxRecDepth 20000 in
theorem dX10_note_18 : decode cX10_note 18 = .ok (.getfield 168, 3) := by decide +kernel
set_option maxRecDepth 20000 in
theorem dX10_note_21 : decode cX10_note 21 = .ok (.bipush 60, 2) := by decide +kernel
set_option maxRecDepth 20000 in
theorem dX10_note_23 : decode cX10_note 23 = .ok (.irem, 1) := by decide +kernel
set_option maxRecDepth 20000 in
theorem dX10_note_24 : decode cX10_note 24 = .ok (.iload_n 2, 1) := by decide +kernel
set_option maxRecDepth 20000 in
theorem dX10_note_25 : decode cX10_note 25 = .ok (.iastore, 1) := by decide +kernel
set_option maxRecDepth 20000 in
theorem dX10_note_26 : decode cX10_note 26 = .ok (.aload_n 0, 1) := by decide +kernel
set_option maxRecDepth 20000 in
theorem dX10_note_27 : decode cX10_note 27 = .ok (.getfield 131, 3) := by decide +kernel
set_option maxRecDepth 20000 in
theorem dX10_note_30 : decode cX10_note 30 = .ok (.aload_n 0, 1) := by decide +kernel
set_option maxRecDepth 20000 in
theorem dX10_note_31 : decode cX10_note 31 = .ok (.getfield 168, 3) := by decide +kernel
set_option maxRecDepth 20000 in
theorem dX10_note_34 : decode cX10_note 34 = .ok (.bipush 60, 2) := by decide +kernel
set_option maxRecDepth 20000 in
theorem dX10_note_36 : decode cX10_note 36 = .ok (.irem, 1) := by decide +kernel
set_option maxRecDepth 20000 in
theorem dX10_note_37 : decode cX10_note 37 = .ok (.aload_n 0, 1) := by decide +kernel
set_option maxRecDepth 20000 in
theorem dX10_note_38 : decode cX10_note 38 = .ok (.getfield 165, 3) := by decide +kernel
set_option maxRecDepth 20000 in
theorem dX10_note_41 : decode cX10_note 41 = .ok (.iastore, 1) := by decide +kernel
set_option maxRecDepth 20000 in
theorem dX10_note_42 : decode cX10_note 42 = .ok (.aload_n 0, 1) := by decide +kernel
set_option maxRecDepth 20000 in
theorem dX10_note_43 : decode cX10_note 43 = .ok (.dup, 1) := by decide +kernel
set_option maxRecDepth 20000 in
theorem dX10_note_44 : decode cX10_note 44 = .ok (.getfield 168, 3) := by decide +kernel
set_option maxRecDepth 20000 in
theorem dX10_note_47 : decode cX10_note 47 = .ok (.iconst 1, 1) := by decide +kernel
set_option maxRecDepth 20000 in
theorem dX10_note_48 : decode cX10_note 48 = .ok (.iadd, 1) := by decide +kernel
set_option maxRecDepth 20000 in
theorem dX10_note_49 : decode cX10_note 49 = .ok (.putfield 168, 3) := by decide +kernel
set_option maxRecDepth 20000 in
theorem dX10_note_52 : decode cX10_note 52 = .ok (.return_, 1) := by decide +kernel
set_option maxRecDepth 20000 in
theorem dX10_awaits_0 : decode cX10_awaits 0 = .ok (.aload_n 0, 1) := by decide +kernel
set_option maxRecDepth 20000 in
theorem dX10_awaits_1 : decode cX10_awaits 1 = .ok (.getfield 146, 3) := by decide +kernel
set_option maxRecDepth 20000 in
theorem dX10_awaits_4 : decode cX10_awaits 4 = .ok (.aload_n 0, 1) := by decide +kernel
set_option maxRecDepth 20000 in
theorem dX10_awaits_5 : decode cX10_awaits 5 = .ok (.getfield 215, 3) := by decide +kernel
set_option maxRecDepth 20000 in
theorem dX10_awaits_8 : decode cX10_awaits 8 = .ok (.iaload, 1) := by decide +kernel
set_option maxRecDepth 20000 in
theorem dX10_awaits_9 : decode cX10_awaits 9 = .ok (.istore_n 1, 1) := by decide +kernel
set_option maxRecDepth 20000 in
theorem dX10_awaits_10 : decode cX10_awaits 10 = .ok (.aload_n 0, 1) := by decide +kernel
set_option maxRecDepth 20000 in
theorem dX10_awaits_11 : decode cX10_awaits 11 = .ok (.getfield 143, 3) := by decide +kernel
set_option maxRecDepth 20000 in
theorem dX10_awaits_14 : decode cX10_awaits 14 = .ok (.aload_n 0, 1) := by decide +kernel
set_option maxRecDepth 20000 in
theorem dX10_awaits_15 : decode cX10_awaits 15 = .ok (.getfield 215, 3) := by decide +kernel
set_option maxRecDepth 20000 in
theorem dX10_awaits_18 : decode cX10_awaits 18 = .ok (.iaload, 1) := by decide +kernel
set_option maxRecDepth 20000 in
theorem dX10_awaits_19 : decode cX10_awaits 19 = .ok (.istore_n 2, 1) := by decide +kernel
set_option maxRecDepth 20000 in
theorem dX10_awaits_20 : decode cX10_awaits 20 = .ok (.iload_n 1, 1) := by decide +kernel
set_option maxRecDepth 20000 in
theorem dX10_awaits_21 : decode cX10_awaits 21 = .ok (.ifCond .ge 11, 3) := by decide +kernel
set_option maxRecDepth 20000 in
theorem dX10_awaits_24 : decode cX10_awaits 24 = .ok (.aload_n 0, 1) := by decide +kernel
set_option maxRecDepth 20000 in
theorem dX10_awaits_25 : decode cX10_awaits 25 = .ok (.iconst 0, 1) := by decide +kernel
set_option maxRecDepth 20000 in
theorem dX10_awaits_26 : decode cX10_awaits 26 = .ok (.bipush (-2), 2) := by decide +kernel
set_option maxRecDepth 20000 in
theorem dX10_awaits_28 : decode cX10_awaits 28 = .ok (.invokevirtual 244, 3) := by decide +kernel
set_option maxRecDepth 20000 in
theorem dX10_awaits_31 : decode cX10_awaits 31 = .ok (.return_, 1) := by decide +kernel
set_option maxRecDepth 20000 in
theorem dX10_awaits_32 : decode cX10_awaits 32 = .ok (.aload_n 0, 1) := by decide +kernel
set_option maxRecDepth 20000 in
theorem dX10_awaits_33 : decode cX10_awaits 33 = .ok (.getfield 140, 3) := by decide +kernel
set_option maxRecDepth 20000 in
theorem dX10_awaits_36 : decode cX10_awaits 36 = .ok (.aload_n 0, 1) := by decide +kernel
set_option maxRecDepth 20000 in
theorem dX10_awaits_37 : decode cX10_awaits 37 = .ok (.getfield 215, 3) := by decide +kernel
set_option maxRecDepth 20000 in
theorem dX10_awaits_40 : decode cX10_awaits 40 = .ok (.iaload, 1) := by decide +kernel
set_option maxRecDepth 20000 in
theorem dX10_awaits_41 : decode cX10_awaits 41 = .ok (.iconst 1, 1) := by decide +kernel
set_option maxRecDepth 20000 in
theorem dX10_awaits_42 : decode cX10_awaits 42 = .ok (.if_icmp .eq 44, 3) := by decide +kernel
set_option maxRecDepth 20000 in
theorem dX10_awaits_45 : decode cX10_awaits 45 = .ok (.aload_n 0, 1) := by decide +kernel
set_option maxRecDepth 20000 in
theorem dX10_awaits_46 : decode cX10_awaits 46 = .ok (.invokevirtual 207, 3) := by decide +kernel
set_option maxRecDepth 20000 in
theorem dX10_awaits_49 : decode cX10_awaits 49 = .ok (.istore_n 2, 1) := by decide +kernel
set_option maxRecDepth 20000 in
theorem dX10_awaits_50 : decode cX10_awaits 50 = .ok (.iload_n 2, 1) := by decide +kernel
set_option maxRecDepth 20000 in
theorem dX10_awaits_51 : decode cX10_awaits 51 = .ok (.ifCond .ge 11, 3) := by decide +kernel
set_option maxRecDepth 20000 in
theorem dX10_awaits_54 : decode cX10_awaits 54 = .ok (.aload_n 0, 1) := by decide +kernel
set_option maxRecDepth 20000 in
theorem dX10_awaits_55 : decode cX10_awaits 55 = .ok (.iconst 0, 1) := by decide +kernel
set_option maxRecDepth 20000 in
theorem dX10_awaits_56 : decode cX10_awaits 56 = .ok (.bipush (-4), 2) := by decide +kernel
set_option maxRecDepth 20000 in
theorem dX10_awaits_58 : decode cX10_awaits 58 = .ok (.invokevirtual 244, 3) := by decide +kernel
set_option maxRecDepth 20000 in
theorem dX10_awaits_61 : decode cX10_awaits 61 = .ok (.return_, 1) := by decide +kernel
set_option maxRecDepth 20000 in
theorem dX10_awaits_62 : decode cX10_awaits 62 = .ok (.aload_n 0, 1) := by decide +kernel
set_option maxRecDepth 20000 in
theorem dX10_awaits_63 : decode cX10_awaits 63 = .ok (.iload_n 2, 1) := by decide +kernel
set_option maxRecDepth 20000 in
theorem dX10_awaits_64 : decode cX10_awaits 64 = .ok (.aload_n 0, 1) := by decide +kernel
set_option maxRecDepth 20000 in
theorem dX10_awaits_65 : decode cX10_awaits 65 = .ok (.getfield 140, 3) := by decide +kernel
set_option maxRecDepth 20000 in
theorem dX10_awaits_68 : decode cX10_awaits 68 = .ok (.aload_n 0, 1) := by decide +kernel
set_option maxRecDepth 20000 in
theorem dX10_awaits_69 : decode cX10_awaits 69 = .ok (.getfield 215, 3) := by decide +kernel
set_option maxRecDepth 20000 in
theorem dX10_awaits_72 : decode cX10_awaits 72 = .ok (.iaload, 1) := by decide +kernel
set_option maxRecDepth 20000 in
theorem dX10_awaits_73 : decode cX10_awaits 73 = .ok (.aload_n 0, 1) := by decide +kernel
set_option maxRecDepth 20000 in
theorem dX10_awaits_74 : decode cX10_awaits 74 = .ok (.getfield 143, 3) := by decide +kernel
set_option maxRecDepth 20000 in
theorem dX10_awaits_77 : decode cX10_awaits 77 = .ok (.aload_n 0, 1) := by decide +kernel
set_option maxRecDepth 20000 in
theorem dX10_awaits_78 : decode cX10_awaits 78 = .ok (.getfield 215, 3) := by decide +kernel
set_option maxRecDepth 20000 in
theorem dX10_awaits_81 : decode cX10_awaits 81 = .ok (.iaload, 1) := by decide +kernel
set_option maxRecDepth 20000 in
theorem dX10_awaits_82 : decode cX10_awaits 82 = .ok (.iconst 0, 1) := by decide +kernel
set_option maxRecDepth 20000 in
theorem dX10_awaits_83 : decode cX10_awaits 83 = .ok (.invokevirtual 201, 3) := by decide +kernel
set_option maxRecDepth 20000 in
theorem dX10_awaits_86 : decode cX10_awaits 86 = .ok (.aload_n 0, 1) := by decide +kernel
set_option maxRecDepth 20000 in
theorem dX10_awaits_87 : decode cX10_awaits 87 = .ok (.getfield 35, 3) := by decide +kernel
set_option maxRecDepth 20000 in
theorem dX10_awaits_90 : decode cX10_awaits 90 = .ok (.iload_n 1, 1) := by decide +kernel
set_option maxRecDepth 20000 in
theorem dX10_awaits_91 : decode cX10_awaits 91 = .ok (.iconst 1, 1) := by decide +kernel
set_option maxRecDepth 20000 in
theorem dX10_awaits_92 : decode cX10_awaits 92 = .ok (.bastore, 1) := by decide +kernel
set_option maxRecDepth 20000 in
theorem dX10_awaits_93 : decode cX10_awaits 93 = .ok (.aload_n 0, 1) := by decide +kernel
set_option maxRecDepth 20000 in
theorem dX10_awaits_94 : decode cX10_awaits 94 = .ok (.getfield 22, 3) := by decide +kernel
set_option maxRecDepth 20000 in
theorem dX10_awaits_97 : decode cX10_awaits 97 = .ok (.iload_n 1, 1) := by decide +kernel
set_option maxRecDepth 20000 in
theorem dX10_awaits_98 : decode cX10_awaits 98 = .ok (.aload_n 0, 1) := by decide +kernel
set_option maxRecDepth 20000 in
theorem dX10_awaits_99 : decode cX10_awaits 99 = .ok (.getfield 134, 3) := by decide +kernel
set_option maxRecDepth 20000 in
theorem dX10_awaits_102 : decode cX10_awaits 102 = .ok (.aload_n 0, 1) := by decide +kernel
set_option maxRecDepth 20000 in
theorem dX10_awaits_103 : decode cX10_awaits 103 = .ok (.getfield 215, 3) := by decide +kernel
set_option maxRecDepth 20000 in
theorem dX10_awaits_106 : decode cX10_awaits 106 = .ok (.iaload, 1) := by decide +kernel
set_option maxRecDepth 20000 in
theorem dX10_awaits_107 : decode cX10_awaits 107 = .ok (.iastore, 1) := by decide +kernel
set_option maxRecDepth 20000 in
theorem dX10_awaits_108 : decode cX10_awaits 108 = .ok (.aload_n 0, 1) := by decide +kernel
set_option maxRecDepth 20000 in
theorem dX10_awaits_109 : decode cX10_awaits 109 = .ok (.getfield 25, 3) := by decide +kernel
set_option maxRecDepth 20000 in
theorem dX10_awaits_112 : decode cX10_awaits 112 = .ok (.iload_n 1, 1) := by decide +kernel
set_option maxRecDepth 20000 in
theorem dX10_awaits_113 : decode cX10_awaits 113 = .ok (.aload_n 0, 1) := by decide +kernel
set_option maxRecDepth 20000 in
theorem dX10_awaits_114 : decode cX10_awaits 114 = .ok (.getfield 137, 3) := by decide +kernel
set_option maxRecDepth 20000 in
theorem dX10_awaits_117 : decode cX10_awaits 117 = .ok (.aload_n 0, 1) := by decide +kernel
set_option maxRecDepth 20000 in
theorem dX10_awaits_118 : decode cX10_awaits 118 = .ok (.getfield 215, 3) := by decide +kernel
set_option maxRecDepth 20000 in
theorem dX10_awaits_121 : decode cX10_awaits 121 = .ok (.iaload, 1) := by decide +kernel
set_option maxRecDepth 20000 in
theorem dX10_awaits_122 : decode cX10_awaits 122 = .ok (.iastore, 1) := by decide +kernel
set_option maxRecDepth 20000 in
theorem dX10_awaits_123 : decode cX10_awaits 123 = .ok (.aload_n 0, 1) := by decide +kernel
set_option maxRecDepth 20000 in
theorem dX10_awaits_124 : decode cX10_awaits 124 = .ok (.dup, 1) := by decide +kernel
set_option maxRecDepth 20000 in
theorem dX10_awaits_125 : decode cX10_awaits 125 = .ok (.getfield 215, 3) := by decide +kernel
set_option maxRecDepth 20000 in
theorem dX10_awaits_128 : decode cX10_awaits 128 = .ok (.iconst 1, 1) := by decide +kernel
set_option maxRecDepth 20000 in
theorem dX10_awaits_129 : decode cX10_awaits 129 = .ok (.isub, 1) := by decide +kernel
set_option maxRecDepth 20000 in
theorem dX10_awaits_130 : decode cX10_awaits 130 = .ok (.putfield 215, 3) := by decide +kernel
set_option maxRecDepth 20000 in
theorem dX10_awaits_133 : decode cX10_awaits 133 = .ok (.aload_n 0, 1) := by decide +kernel
set_option maxRecDepth 20000 in
theorem dX10_awaits_134 : decode cX10_awaits 134 = .ok (.iload_n 2, 1) := by decide +kernel
set_option maxRecDepth 20000 in
theorem dX10_awaits_135 : decode cX10_awaits 135 = .ok (.iconst 4, 1) := by decide +kernel
set_option maxRecDepth 20000 in
theorem dX10_awaits_136 : decode cX10_awaits 136 = .ok (.iload_n 1, 1) := by decide +kernel
set_option maxRecDepth 20000 in
theorem dX10_awaits_137 : decode cX10_awaits 137 = .ok (.iconst 0, 1) := by decide +kernel
set_option maxRecDepth 20000 in
theorem dX10_awaits_138 : decode cX10_awaits 138 = .ok (.iconst 0, 1) := by decide +kernel
set_option maxRecDepth 20000 in
theorem dX10_awaits_139 : decode cX10_awaits 139 = .ok (.invokevirtual 211, 3) := by decide +kernel
set_option maxRecDepth 20000 in
theorem dX10_awaits_142 : decode cX10_awaits 142 = .ok (.return_, 1) := by decide +kernel
set_option maxRecDepth 20000 in
theorem dX10_make_0 : decode cX10_make 0 = .ok (.aload_n 0, 1) := by decide +kernel
set_option maxRecDepth 20000 in
theorem dX10_make_1 : decode cX10_make 1 = .ok (.invokevirtual 207, 3) := by decide +kernel
set_option maxRecDepth 20000 in
theorem dX10_make_4 : decode cX10_make 4 = .ok (.istore_n 1, 1) := by decide +kernel
set_option maxRecDepth 20000 in
theorem dX10_make_5 : decode cX10_make 5 = .ok (.iload_n 1, 1) := by decide +kernel
set_option maxRecDepth 20000 in
theorem dX10_make_6 : decode cX10_make 6 = .ok (.ifCond .ge 10, 3) := by decide +kernel
set_option maxRecDepth 20000 in
theorem dX10_make_9 : decode cX10_make 9 = .ok (.aload_n 0, 1) := by decide +kernel
set_option maxRecDepth 20000 in
theorem dX10_make_10 : decode cX10_make 10 = .ok (.iconst 0, 1) := by decide +kernel
set_option maxRecDepth 20000 in
theorem dX10_make_11 : decode cX10_make 11 = .ok (.bipush (-4), 2) := by decide +kernel
set_option maxRecDepth 20000 in
theorem dX10_make_13 : decode cX10_make 13 = .ok (.invokevirtual 244, 3) := by decide +kernel
set_option maxRecDepth 20000 in
theorem dX10_make_16 : decode cX10_make 16 = .ok (.iload_n 1, 1) := by decide +kernel
set_option maxRecDepth 20000 in
theorem dX10_make_17 : decode cX10_make 17 = .ok (.ireturn, 1) := by decide +kernel
set_option maxRecDepth 20000 in
theorem dX10_does_0 : decode cX10_does 0 = .ok (.aload_n 0, 1) := by decide +kernel
set_option maxRecDepth 20000 in
theorem dX10_does_1 : decode cX10_does 1 = .ok (.getfield 140, 3) := by decide +kernel
set_option maxRecDepth 20000 in
theorem dX10_does_4 : decode cX10_does 4 = .ok (.aload_n 0, 1) := by decide +kernel
set_option maxRecDepth 20000 in
theorem dX10_does_5 : decode cX10_does 5 = .ok (.getfield 215, 3) := by decide +kernel
set_option maxRecDepth 20000 in
theorem dX10_does_8 : decode cX10_does 8 = .ok (.iaload, 1) := by decide +kernel
set_option maxRecDepth 20000 in
theorem dX10_does_9 : decode cX10_does 9 = .ok (.istore 4, 2) := by decide +kernel
set_option maxRecDepth 20000 in
theorem dX10_does_11 : decode cX10_does 11 = .ok (.aload_n 0, 1) := by decide +kernel
set_option maxRecDepth 20000 in
theorem dX10_does_12 : decode cX10_does 12 = .ok (.getfield 143, 3) := by decide +kernel
set_option maxRecDepth 20000 in
theorem dX10_does_15 : decode cX10_does 15 = .ok (.aload_n 0, 1) := by decide +kernel
set_option maxRecDepth 20000 in
theorem dX10_does_16 : decode cX10_does 16 = .ok (.getfield 215, 3) := by decide +kernel
set_option maxRecDepth 20000 in
theorem dX10_does_19 : decode cX10_does 19 = .ok (.iaload, 1) := by decide +kernel
set_option maxRecDepth 20000 in
theorem dX10_does_20 : decode cX10_does 20 = .ok (.istore 5, 2) := by decide +kernel
set_option maxRecDepth 20000 in
theorem dX10_does_22 : decode cX10_does 22 = .ok (.iload_n 1, 1) := by decide +kernel
set_option maxRecDepth 20000 in
theorem dX10_does_23 : decode cX10_does 23 = .ok (.tableswitch 369 0 14 #[73, 82, 93, 125, 137, 148, 369, 369, 155, 191, 191, 233, 284, 311, 334], 73) := by decide +kernel
set_option maxRecDepth 20000 in
theorem dX10_does_96 : decode cX10_does 96 = .ok (.aload_n 0, 1) := by decide +kernel
set_option maxRecDepth 20000 in
theorem dX10_does_97 : decode cX10_does 97 = .ok (.iconst 0, 1) := by decide +kernel
set_option maxRecDepth 20000 in
theorem dX10_does_98 : decode cX10_does 98 = .ok (.iload_n 3, 1) := by decide +kernel
set_option maxRecDepth 20000 in
theorem dX10_does_99 : decode cX10_does 99 = .ok (.invokevirtual 247, 3) := by decide +kernel
set_option maxRecDepth 20000 in
theorem dX10_does_102 : decode cX10_does 102 = .ok (.goto 290, 3) := by decide +kernel
set_option maxRecDepth 20000 in
theorem dX10_does_105 : decode cX10_does 105 = .ok (.aload_n 0, 1) := by decide +kernel
set_option maxRecDepth 20000 in
theorem dX10_does_106 : decode cX10_does 106 = .ok (.iload 4, 2) := by decide +kernel
set_option maxRecDepth 20000 in
theorem dX10_does_108 : decode cX10_does 108 = .ok (.iload 5, 2) := by decide +kernel
set_option maxRecDepth 20000 in
theorem dX10_does_110 : decode cX10_does 110 = .ok (.invokevirtual 247, 3) := by decide +kernel
set_option maxRecDepth 20000 in
theorem dX10_does_113 : decode cX10_does 113 = .ok (.goto 279, 3) := by decide +kernel
set_option maxRecDepth 20000 in
theorem dX10_does_116 : decode cX10_does 116 = .ok (.iload_n 2, 1) := by decide +kernel
set_option maxRecDepth 20000 in
theorem dX10_does_117 : decode cX10_does 117 = .ok (.iconst 1, 1) := by decide +kernel
set_option maxRecDepth 20000 in
theorem dX10_does_118 : decode cX10_does 118 = .ok (.if_icmp .ne 21, 3) := by decide +kernel
set_option maxRecDepth 20000 in
theorem dX10_does_121 : decode cX10_does 121 = .ok (.aload_n 0, 1) := by decide +kernel
set_option maxRecDepth 20000 in
theorem dX10_does_122 : decode cX10_does 122 = .ok (.iload_n 3, 1) := by decide +kernel
set_option maxRecDepth 20000 in
theorem dX10_does_123 : decode cX10_does 123 = .ok (.invokevirtual 175, 3) := by decide +kernel
set_option maxRecDepth 20000 in
theorem dX10_does_126 : decode cX10_does 126 = .ok (.ifCond .ne 13, 3) := by decide +kernel
set_option maxRecDepth 20000 in
theorem dX10_does_129 : decode cX10_does 129 = .ok (.aload_n 0, 1) := by decide +kernel
set_option maxRecDepth 20000 in
theorem dX10_does_130 : decode cX10_does 130 = .ok (.iconst 0, 1) := by decide +kernel
set_option maxRecDepth 20000 in
theorem dX10_does_131 : decode cX10_does 131 = .ok (.bipush (-3), 2) := by decide +kernel
set_option maxRecDepth 20000 in
theorem dX10_does_133 : decode cX10_does 133 = .ok (.invokevirtual 244, 3) := by decide +kernel
set_option maxRecDepth 20000 in
theorem dX10_does_136 : decode cX10_does 136 = .ok (.goto 256, 3) := by decide +kernel
set_option maxRecDepth 20000 in
theorem dX10_does_139 : decode cX10_does 139 = .ok (.aload_n 0, 1) := by decide +kernel
set_option maxRecDepth 20000 in
theorem dX10_does_140 : decode cX10_does 140 = .ok (.iload_n 2, 1) := by decide +kernel
set_option maxRecDepth 20000 in
theorem dX10_does_141 : decode cX10_does 141 = .ok (.iload_n 3, 1) := by decide +kernel
set_option maxRecDepth 20000 in
theorem dX10_does_142 : decode cX10_does 142 = .ok (.invokevirtual 218, 3) := by decide +kernel
set_option maxRecDepth 20000 in
theorem dX10_does_145 : decode cX10_does 145 = .ok (.goto 247, 3) := by decide +kernel
set_option maxRecDepth 20000 in
theorem dX10_does_148 : decode cX10_does 148 = .ok (.aload_n 0, 1) := by decide +kernel
set_option maxRecDepth 20000 in
theorem dX10_does_149 : decode cX10_does 149 = .ok (.iconst 0, 1) := by decide +kernel
set_option maxRecDepth 20000 in
theorem dX10_does_150 : decode cX10_does 150 = .ok (.iload 4, 2) := by decide +kernel
set_option maxRecDepth 20000 in
theorem dX10_does_152 : decode cX10_does 152 = .ok (.iload 5, 2) := by decide +kernel
set_option maxRecDepth 20000 in
theorem dX10_does_154 : decode cX10_does 154 = .ok (.invokevirtual 226, 3) := by decide +kernel
set_option maxRecDepth 20000 in
theorem dX10_does_157 : decode cX10_does 157 = .ok (.goto 235, 3) := by decide +kernel
set_option maxRecDepth 20000 in
theorem dX10_does_160 : decode cX10_does 160 = .ok (.aload_n 0, 1) := by decide +kernel
set_option maxRecDepth 20000 in
theorem dX10_does_161 : decode cX10_does 161 = .ok (.iload 4, 2) := by decide +kernel
set_option maxRecDepth 20000 in
theorem dX10_does_163 : decode cX10_does 163 = .ok (.iload 5, 2) := by decide +kernel
set_option maxRecDepth 20000 in
theorem dX10_does_165 : decode cX10_does 165 = .ok (.invokevirtual 244, 3) := by decide +kernel
set_option maxRecDepth 20000 in
theorem dX10_does_168 : decode cX10_does 168 = .ok (.goto 224, 3) := by decide +kernel
set_option maxRecDepth 20000 in
theorem dX10_does_171 : decode cX10_does 171 = .ok (.aload_n 0, 1) := by decide +kernel
set_option maxRecDepth 20000 in
theorem dX10_does_172 : decode cX10_does 172 = .ok (.invokevirtual 250, 3) := by decide +kernel
set_option maxRecDepth 20000 in
theorem dX10_does_175 : decode cX10_does 175 = .ok (.goto 217, 3) := by decide +kernel
set_option maxRecDepth 20000 in
theorem dX10_does_178 : decode cX10_does 178 = .ok (.aload_n 0, 1) := by decide +kernel
set_option maxRecDepth 20000 in
theorem dX10_does_179 : decode cX10_does 179 = .ok (.invokevirtual 253, 3) := by decide +kernel
set_option maxRecDepth 20000 in
theorem dX10_does_182 : decode cX10_does 182 = .ok (.istore 6, 2) := by decide +kernel
set_option maxRecDepth 20000 in
theorem dX10_does_184 : decode cX10_does 184 = .ok (.iload 6, 2) := by decide +kernel
set_option maxRecDepth 20000 in
theorem dX10_does_186 : decode cX10_does 186 = .ok (.ifCond .ge 6, 3) := by decide +kernel
set_option maxRecDepth 20000 in
theorem dX10_does_189 : decode cX10_does 189 = .ok (.goto 203, 3) := by decide +kernel
set_option maxRecDepth 20000 in
theorem dX10_does_192 : decode cX10_does 192 = .ok (.aload_n 0, 1) := by decide +kernel
set_option maxRecDepth 20000 in
theorem dX10_does_193 : decode cX10_does 193 = .ok (.iconst 1, 1) := by decide +kernel
set_option maxRecDepth 20000 in
theorem dX10_does_194 : decode cX10_does 194 = .ok (.iload 6, 2) := by decide +kernel
set_option maxRecDepth 20000 in
theorem dX10_does_196 : decode cX10_does 196 = .ok (.invokevirtual 218, 3) := by decide +kernel
set_option maxRecDepth 20000 in
theorem dX10_does_199 : decode cX10_does 199 = .ok (.aload_n 0, 1) := by decide +kernel
set_option maxRecDepth 20000 in
theorem dX10_does_200 : decode cX10_does 200 = .ok (.iload_n 3, 1) := by decide +kernel
set_option maxRecDepth 20000 in
theorem dX10_does_201 : decode cX10_does 201 = .ok (.iconst 0, 1) := by decide +kernel
set_option maxRecDepth 20000 in
theorem dX10_does_202 : decode cX10_does 202 = .ok (.iload 4, 2) := by decide +kernel
set_option maxRecDepth 20000 in
theorem dX10_does_204 : decode cX10_does 204 = .ok (.iload 5, 2) := by decide +kernel
set_option maxRecDepth 20000 in
theorem dX10_does_206 : decode cX10_does 206 = .ok (.iload 6, 2) := by decide +kernel
set_option maxRecDepth 20000 in
theorem dX10_does_208 : decode cX10_does 208 = .ok (.invokevirtual 256, 3) := by decide +kernel
set_option maxRecDepth 20000 in
theorem dX10_does_211 : decode cX10_does 211 = .ok (.goto 181, 3) := by decide +kernel
set_option maxRecDepth 20000 in
theorem dX10_does_214 : decode cX10_does 214 = .ok (.aload_n 0, 1) := by decide +kernel
set_option maxRecDepth 20000 in
theorem dX10_does_215 : decode cX10_does 215 = .ok (.iload_n 3, 1) := by decide +kernel
set_option maxRecDepth 20000 in
theorem dX10_does_216 : decode cX10_does 216 = .ok (.invokevirtual 175, 3) := by decide +kernel
set_option maxRecDepth 20000 in
theorem dX10_does_219 : decode cX10_does 219 = .ok (.ifCond .ne 13, 3) := by decide +kernel
set_option maxRecDepth 20000 in
theorem dX10_does_222 : decode cX10_does 222 = .ok (.aload_n 0, 1) := by decide +kernel
set_option maxRecDepth 20000 in
theorem dX10_does_223 : decode cX10_does 223 = .ok (.iconst 0, 1) := by decide +kernel
set_option maxRecDepth 20000 in
theorem dX10_does_224 : decode cX10_does 224 = .ok (.bipush (-3), 2) := by decide +kernel
set_option maxRecDepth 20000 in
theorem dX10_does_226 : decode cX10_does 226 = .ok (.invokevirtual 244, 3) := by decide +kernel
set_option maxRecDepth 20000 in
theorem dX10_does_229 : decode cX10_does 229 = .ok (.goto 163, 3) := by decide +kernel
set_option maxRecDepth 20000 in
theorem dX10_does_232 : decode cX10_does 232 = .ok (.aload_n 0, 1) := by decide +kernel
set_option maxRecDepth 20000 in
theorem dX10_does_233 : decode cX10_does 233 = .ok (.iload_n 3, 1) := by decide +kernel
set_option maxRecDepth 20000 in
theorem dX10_does_234 : decode cX10_does 234 = .ok (.iload_n 1, 1) := by decide +kernel
set_option maxRecDepth 20000 in
theorem dX10_does_235 : decode cX10_does 235 = .ok (.bipush 10, 2) := by decide +kernel
set_option maxRecDepth 20000 in
theorem dX10_does_237 : decode cX10_does 237 = .ok (.if_icmp .ne 7, 3) := by decide +kernel
set_option maxRecDepth 20000 in
theorem dX10_does_240 : decode cX10_does 240 = .ok (.iconst 1, 1) := by decide +kernel
set_option maxRecDepth 20000 in
theorem dX10_does_241 : decode cX10_does 241 = .ok (.goto 4, 3) := by decide +kernel
set_option maxRecDepth 20000 in
theorem dX10_does_244 : decode cX10_does 244 = .ok (.iconst 0, 1) := by decide +kernel
set_option maxRecDepth 20000 in
theorem dX10_does_245 : decode cX10_does 245 = .ok (.iload 4, 2) := by decide +kernel
set_option maxRecDepth 20000 in
theorem dX10_does_247 : decode cX10_does 247 = .ok (.iload 5, 2) := by decide +kernel
set_option maxRecDepth 20000 in
theorem dX10_does_249 : decode cX10_does 249 = .ok (.iconst 0, 1) := by decide +kernel
set_option maxRecDepth 20000 in
theorem dX10_does_250 : decode cX10_does 250 = .ok (.invokevirtual 230, 3) := by decide +kernel
set_option maxRecDepth 20000 in
theorem dX10_does_253 : decode cX10_does 253 = .ok (.goto 139, 3) := by decide +kernel
set_option maxRecDepth 20000 in
theorem dX10_does_256 : decode cX10_does 256 = .ok (.iload 4, 2) := by decide +kernel
set_option maxRecDepth 20000 in
theorem dX10_does_258 : decode cX10_does 258 = .ok (.iconst 1, 1) := by decide +kernel
set_option maxRecDepth 20000 in
theorem dX10_does_259 : decode cX10_does 259 = .ok (.if_icmp .eq 13, 3) := by decide +kernel
set_option maxRecDepth 20000 in
theorem dX10_does_262 : decode cX10_does 262 = .ok (.aload_n 0, 1) := by decide +kernel
set_option maxRecDepth 20000 in
theorem dX10_does_263 : decode cX10_does 263 = .ok (.iconst 0, 1) := by decide +kernel
set_option maxRecDepth 20000 in
theorem dX10_does_264 : decode cX10_does 264 = .ok (.bipush (-3), 2) := by decide +kernel
set_option maxRecDepth 20000 in
theorem dX10_does_266 : decode cX10_does 266 = .ok (.invokevirtual 244, 3) := by decide +kernel
set_option maxRecDepth 20000 in
theorem dX10_does_269 : decode cX10_does 269 = .ok (.goto 123, 3) := by decide +kernel
set_option maxRecDepth 20000 in
theorem dX10_does_272 : decode cX10_does 272 = .ok (.aload_n 0, 1) := by decide +kernel
set_option maxRecDepth 20000 in
theorem dX10_does_273 : decode cX10_does 273 = .ok (.invokevirtual 253, 3) := by decide +kernel
set_option maxRecDepth 20000 in
theorem dX10_does_276 : decode cX10_does 276 = .ok (.istore 7, 2) := by decide +kernel
set_option maxRecDepth 20000 in
theorem dX10_does_278 : decode cX10_does 278 = .ok (.iload 7, 2) := by decide +kernel
set_option maxRecDepth 20000 in
theorem dX10_does_280 : decode cX10_does 280 = .ok (.ifCond .ge 6, 3) := by decide +kernel
set_option maxRecDepth 20000 in
theorem dX10_does_283 : decode cX10_does 283 = .ok (.goto 109, 3) := by decide +kernel
set_option maxRecDepth 20000 in
theorem dX10_does_286 : decode cX10_does 286 = .ok (.aload_n 0, 1) := by decide +kernel
set_option maxRecDepth 20000 in
theorem dX10_does_287 : decode cX10_does 287 = .ok (.iload 5, 2) := by decide +kernel
set_option maxRecDepth 20000 in
theorem dX10_does_289 : decode cX10_does 289 = .ok (.iconst 1, 1) := by decide +kernel
set_option maxRecDepth 20000 in
theorem dX10_does_290 : decode cX10_does 290 = .ok (.iload_n 3, 1) := by decide +kernel
set_option maxRecDepth 20000 in
theorem dX10_does_291 : decode cX10_does 291 = .ok (.iconst (-1), 1) := by decide +kernel
set_option maxRecDepth 20000 in
theorem dX10_does_292 : decode cX10_does 292 = .ok (.iload 7, 2) := by decide +kernel
set_option maxRecDepth 20000 in
theorem dX10_does_294 : decode cX10_does 294 = .ok (.invokevirtual 211, 3) := by decide +kernel
set_option maxRecDepth 20000 in
theorem dX10_does_297 : decode cX10_does 297 = .ok (.aload_n 0, 1) := by decide +kernel
set_option maxRecDepth 20000 in
theorem dX10_does_298 : decode cX10_does 298 = .ok (.iconst 1, 1) := by decide +kernel
set_option maxRecDepth 20000 in
theorem dX10_does_299 : decode cX10_does 299 = .ok (.iload 7, 2) := by decide +kernel
set_option maxRecDepth 20000 in
theorem dX10_does_301 : decode cX10_does 301 = .ok (.invokevirtual 218, 3) := by decide +kernel
set_option maxRecDepth 20000 in
theorem dX10_does_304 : decode cX10_does 304 = .ok (.goto 88, 3) := by decide +kernel
set_option maxRecDepth 20000 in
theorem dX10_does_307 : decode cX10_does 307 = .ok (.aload_n 0, 1) := by decide +kernel
set_option maxRecDepth 20000 in
theorem dX10_does_308 : decode cX10_does 308 = .ok (.iload_n 3, 1) := by decide +kernel
set_option maxRecDepth 20000 in
theorem dX10_does_309 : decode cX10_does 309 = .ok (.iload 4, 2) := by decide +kernel
set_option maxRecDepth 20000 in
theorem dX10_does_311 : decode cX10_does 311 = .ok (.iload 5, 2) := by decide +kernel
set_option maxRecDepth 20000 in
theorem dX10_does_313 : decode cX10_does 313 = .ok (.iconst 5, 1) := by decide +kernel
set_option maxRecDepth 20000 in
theorem dX10_does_314 : decode cX10_does 314 = .ok (.invokevirtual 259, 3) := by decide +kernel
set_option maxRecDepth 20000 in
theorem dX10_does_317 : decode cX10_does 317 = .ok (.istore 8, 2) := by decide +kernel
set_option maxRecDepth 20000 in
theorem dX10_does_319 : decode cX10_does 319 = .ok (.iload 8, 2) := by decide +kernel
set_option maxRecDepth 20000 in
theorem dX10_does_321 : decode cX10_does 321 = .ok (.ifCond .ne 71, 3) := by decide +kernel
set_option maxRecDepth 20000 in
theorem dX10_does_324 : decode cX10_does 324 = .ok (.aload_n 0, 1) := by decide +kernel
set_option maxRecDepth 20000 in
theorem dX10_does_325 : decode cX10_does 325 = .ok (.iconst 0, 1) := by decide +kernel
set_option maxRecDepth 20000 in
theorem dX10_does_326 : decode cX10_does 326 = .ok (.bipush (-4), 2) := by decide +kernel
set_option maxRecDepth 20000 in
theorem dX10_does_328 : decode cX10_does 328 = .ok (.invokevirtual 244, 3) := by decide +kernel
set_option maxRecDepth 20000 in
theorem dX10_does_331 : decode cX10_does 331 = .ok (.goto 61, 3) := by decide +kernel
set_option maxRecDepth 20000 in
theorem dX10_does_334 : decode cX10_does 334 = .ok (.iload 4, 2) := by decide +kernel
set_option maxRecDepth 20000 in
theorem dX10_does_336 : decode cX10_does 336 = .ok (.ifCond .ne 56, 3) := by decide +kernel
set_option maxRecDepth 20000 in
theorem dX10_does_339 : decode cX10_does 339 = .ok (.iload 5, 2) := by decide +kernel
set_option maxRecDepth 20000 in
theorem dX10_does_341 : decode cX10_does 341 = .ok (.ifCond .ne 51, 3) := by decide +kernel
set_option maxRecDepth 20000 in
theorem dX10_does_344 : decode cX10_does 344 = .ok (.aload_n 0, 1) := by decide +kernel
set_option maxRecDepth 20000 in
theorem dX10_does_345 : decode cX10_does 345 = .ok (.getfield 137, 3) := by decide +kernel
set_option maxRecDepth 20000 in
theorem dX10_does_348 : decode cX10_does 348 = .ok (.aload_n 0, 1) := by decide +kernel
set_option maxRecDepth 20000 in
theorem dX10_does_349 : decode cX10_does 349 = .ok (.getfield 215, 3) := by decide +kernel
set_option maxRecDepth 20000 in
theorem dX10_does_352 : decode cX10_does 352 = .ok (.iload_n 3, 1) := by decide +kernel
set_option maxRecDepth 20000 in
theorem dX10_does_353 : decode cX10_does 353 = .ok (.iastore, 1) := by decide +kernel
set_option maxRecDepth 20000 in
theorem dX10_does_354 : decode cX10_does 354 = .ok (.goto 38, 3) := by decide +kernel
set_option maxRecDepth 20000 in
theorem dX10_does_357 : decode cX10_does 357 = .ok (.iload 4, 2) := by decide +kernel
set_option maxRecDepth 20000 in
theorem dX10_does_359 : decode cX10_does 359 = .ok (.ifCond .ne 33, 3) := by decide +kernel
set_option maxRecDepth 20000 in
theorem dX10_does_362 : decode cX10_does 362 = .ok (.iload 5, 2) := by decide +kernel
set_option maxRecDepth 20000 in
theorem dX10_does_364 : decode cX10_does 364 = .ok (.ifCond .gt 6, 3) := by decide +kernel
set_option maxRecDepth 20000 in
theorem dX10_does_367 : decode cX10_does 367 = .ok (.goto 25, 3) := by decide +kernel
set_option maxRecDepth 20000 in
theorem dX10_does_370 : decode cX10_does 370 = .ok (.aload_n 0, 1) := by decide +kernel
set_option maxRecDepth 20000 in
theorem dX10_does_371 : decode cX10_does 371 = .ok (.iconst 0, 1) := by decide +kernel
set_option maxRecDepth 20000 in
theorem dX10_does_372 : decode cX10_does 372 = .ok (.iload 5, 2) := by decide +kernel
set_option maxRecDepth 20000 in
theorem dX10_does_374 : decode cX10_does 374 = .ok (.iconst 1, 1) := by decide +kernel
set_option maxRecDepth 20000 in
theorem dX10_does_375 : decode cX10_does 375 = .ok (.isub, 1) := by decide +kernel
set_option maxRecDepth 20000 in
theorem dX10_does_376 : decode cX10_does 376 = .ok (.invokevirtual 218, 3) := by decide +kernel
set_option maxRecDepth 20000 in
theorem dX10_does_379 : decode cX10_does 379 = .ok (.aload_n 0, 1) := by decide +kernel
set_option maxRecDepth 20000 in
theorem dX10_does_380 : decode cX10_does 380 = .ok (.getfield 137, 3) := by decide +kernel
set_option maxRecDepth 20000 in
theorem dX10_does_383 : decode cX10_does 383 = .ok (.aload_n 0, 1) := by decide +kernel
set_option maxRecDepth 20000 in
theorem dX10_does_384 : decode cX10_does 384 = .ok (.getfield 215, 3) := by decide +kernel
set_option maxRecDepth 20000 in
theorem dX10_does_387 : decode cX10_does 387 = .ok (.iload_n 3, 1) := by decide +kernel
set_option maxRecDepth 20000 in
theorem dX10_does_388 : decode cX10_does 388 = .ok (.iastore, 1) := by decide +kernel
set_option maxRecDepth 20000 in
theorem dX10_does_389 : decode cX10_does 389 = .ok (.goto 3, 3) := by decide +kernel
set_option maxRecDepth 20000 in
theorem dX10_does_392 : decode cX10_does 392 = .ok (.return_, 1) := by decide +kernel
set_option maxRecDepth 20000 in
theorem dX10_go_0 : decode cX10_go 0 = .ok (.aload_n 0, 1) := by decide +kernel
set_option maxRecDepth 20000 in
theorem dX10_go_1 : decode cX10_go 1 = .ok (.getfield 215, 3) := by decide +kernel
set_option maxRecDepth 20000 in
theorem dX10_go_4 : decode cX10_go 4 = .ok (.ifCond .lt 118, 3) := by decide +kernel
set_option maxRecDepth 20000 in
theorem dX10_go_7 : decode cX10_go 7 = .ok (.aload_n 0, 1) := by decide +kernel
set_option maxRecDepth 20000 in
theorem dX10_go_8 : decode cX10_go 8 = .ok (.getfield 134, 3) := by decide +kernel
set_option maxRecDepth 20000 in
theorem dX10_go_11 : decode cX10_go 11 = .ok (.aload_n 0, 1) := by decide +kernel
set_option maxRecDepth 20000 in
theorem dX10_go_12 : decode cX10_go 12 = .ok (.getfield 215, 3) := by decide +kernel
set_option maxRecDepth 20000 in
theorem dX10_go_15 : decode cX10_go 15 = .ok (.iaload, 1) := by decide +kernel
set_option maxRecDepth 20000 in
theorem dX10_go_16 : decode cX10_go 16 = .ok (.istore_n 1, 1) := by decide +kernel
set_option maxRecDepth 20000 in
theorem dX10_go_17 : decode cX10_go 17 = .ok (.aload_n 0, 1) := by decide +kernel
set_option maxRecDepth 20000 in
theorem dX10_go_18 : decode cX10_go 18 = .ok (.getfield 137, 3) := by decide +kernel
set_option maxRecDepth 20000 in
theorem dX10_go_21 : decode cX10_go 21 = .ok (.aload_n 0, 1) := by decide +kernel
set_option maxRecDepth 20000 in
theorem dX10_go_22 : decode cX10_go 22 = .ok (.getfield 215, 3) := by decide +kernel
set_option maxRecDepth 20000 in
theorem dX10_go_25 : decode cX10_go 25 = .ok (.iaload, 1) := by decide +kernel
set_option maxRecDepth 20000 in
theorem dX10_go_26 : decode cX10_go 26 = .ok (.istore_n 2, 1) := by decide +kernel
set_option maxRecDepth 20000 in
theorem dX10_go_27 : decode cX10_go 27 = .ok (.iload_n 2, 1) := by decide +kernel
set_option maxRecDepth 20000 in
theorem dX10_go_28 : decode cX10_go 28 = .ok (.aload_n 0, 1) := by decide +kernel
set_option maxRecDepth 20000 in
theorem dX10_go_29 : decode cX10_go 29 = .ok (.getfield 80, 3) := by decide +kernel
set_option maxRecDepth 20000 in
theorem dX10_go_32 : decode cX10_go 32 = .ok (.iload_n 1, 1) := by decide +kernel
set_option maxRecDepth 20000 in
theorem dX10_go_33 : decode cX10_go 33 = .ok (.iaload, 1) := by decide +kernel
set_option maxRecDepth 20000 in
theorem dX10_go_34 : decode cX10_go 34 = .ok (.if_icmp .lt 13, 3) := by decide +kernel
set_option maxRecDepth 20000 in
theorem dX10_go_37 : decode cX10_go 37 = .ok (.aload_n 0, 1) := by decide +kernel
set_option maxRecDepth 20000 in
theorem dX10_go_38 : decode cX10_go 38 = .ok (.iconst 0, 1) := by decide +kernel
set_option maxRecDepth 20000 in
theorem dX10_go_39 : decode cX10_go 39 = .ok (.iconst 0, 1) := by decide +kernel
set_option maxRecDepth 20000 in
theorem dX10_go_40 : decode cX10_go 40 = .ok (.iconst 0, 1) := by decide +kernel
set_option maxRecDepth 20000 in
theorem dX10_go_41 : decode cX10_go 41 = .ok (.invokevirtual 226, 3) := by decide +kernel
set_option maxRecDepth 20000 in
theorem dX10_go_44 : decode cX10_go 44 = .ok (.goto (-44), 3) := by decide +kernel
set_option maxRecDepth 20000 in
theorem dX10_go_47 : decode cX10_go 47 = .ok (.aload_n 0, 1) := by decide +kernel
set_option maxRecDepth 20000 in
theorem dX10_go_48 : decode cX10_go 48 = .ok (.getfield 137, 3) := by decide +kernel
set_option maxRecDepth 20000 in
theorem dX10_go_51 : decode cX10_go 51 = .ok (.aload_n 0, 1) := by decide +kernel
set_option maxRecDepth 20000 in
theorem dX10_go_52 : decode cX10_go 52 = .ok (.getfield 215, 3) := by decide +kernel
set_option maxRecDepth 20000 in
theorem dX10_go_55 : decode cX10_go 55 = .ok (.dup2, 1) := by decide +kernel
set_option maxRecDepth 20000 in
theorem dX10_go_56 : decode cX10_go 56 = .ok (.iaload, 1) := by decide +kernel
set_option maxRecDepth 20000 in
theorem dX10_go_57 : decode cX10_go 57 = .ok (.iconst 1, 1) := by decide +kernel
set_option maxRecDepth 20000 in
theorem dX10_go_58 : decode cX10_go 58 = .ok (.iadd, 1) := by decide +kernel
set_option maxRecDepth 20000 in
theorem dX10_go_59 : decode cX10_go 59 = .ok (.iastore, 1) := by decide +kernel
set_option maxRecDepth 20000 in
theorem dX10_go_60 : decode cX10_go 60 = .ok (.aload_n 0, 1) := by decide +kernel
set_option maxRecDepth 20000 in
theorem dX10_go_61 : decode cX10_go 61 = .ok (.dup, 1) := by decide +kernel
set_option maxRecDepth 20000 in
theorem dX10_go_62 : decode cX10_go 62 = .ok (.getfield 263, 3) := by decide +kernel
set_option maxRecDepth 20000 in
theorem dX10_go_65 : decode cX10_go 65 = .ok (.iconst 1, 1) := by decide +kernel
set_option maxRecDepth 20000 in
theorem dX10_go_66 : decode cX10_go 66 = .ok (.iadd, 1) := by decide +kernel
set_option maxRecDepth 20000 in
theorem dX10_go_67 : decode cX10_go 67 = .ok (.putfield 263, 3) := by decide +kernel
set_option maxRecDepth 20000 in
theorem dX10_go_70 : decode cX10_go 70 = .ok (.bipush 10, 2) := by decide +kernel
set_option maxRecDepth 20000 in
theorem dX10_go_72 : decode cX10_go 72 = .ok (.iload_n 1, 1) := by decide +kernel
set_option maxRecDepth 20000 in
theorem dX10_go_73 : decode cX10_go 73 = .ok (.imul, 1) := by decide +kernel
set_option maxRecDepth 20000 in
theorem dX10_go_74 : decode cX10_go 74 = .ok (.iload_n 2, 1) := by decide +kernel
set_option maxRecDepth 20000 in
theorem dX10_go_75 : decode cX10_go 75 = .ok (.iadd, 1) := by decide +kernel
set_option maxRecDepth 20000 in
theorem dX10_go_76 : decode cX10_go 76 = .ok (.istore_n 3, 1) := by decide +kernel
set_option maxRecDepth 20000 in
theorem dX10_go_77 : decode cX10_go 77 = .ok (.aload_n 0, 1) := by decide +kernel
set_option maxRecDepth 20000 in
theorem dX10_go_78 : decode cX10_go 78 = .ok (.getfield 263, 3) := by decide +kernel
set_option maxRecDepth 20000 in
theorem dX10_go_81 : decode cX10_go 81 = .ok (.sipush 200, 3) := by decide +kernel
set_option maxRecDepth 20000 in
theorem dX10_go_84 : decode cX10_go 84 = .ok (.if_icmp .le 13, 3) := by decide +kernel
set_option maxRecDepth 20000 in
theorem dX10_go_87 : decode cX10_go 87 = .ok (.aload_n 0, 1) := by decide +kernel
set_option maxRecDepth 20000 in
theorem dX10_go_88 : decode cX10_go 88 = .ok (.iconst 0, 1) := by decide +kernel
set_option maxRecDepth 20000 in
theorem dX10_go_89 : decode cX10_go 89 = .ok (.bipush (-4), 2) := by decide +kernel
set_option maxRecDepth 20000 in
theorem dX10_go_91 : decode cX10_go 91 = .ok (.invokevirtual 244, 3) := by decide +kernel
set_option maxRecDepth 20000 in
theorem dX10_go_94 : decode cX10_go 94 = .ok (.goto 25, 3) := by decide +kernel
set_option maxRecDepth 20000 in
theorem dX10_go_97 : decode cX10_go 97 = .ok (.aload_n 0, 1) := by decide +kernel
set_option maxRecDepth 20000 in
theorem dX10_go_98 : decode cX10_go 98 = .ok (.aload_n 0, 1) := by decide +kernel
set_option maxRecDepth 20000 in
theorem dX10_go_99 : decode cX10_go 99 = .ok (.getfield 83, 3) := by decide +kernel
set_option maxRecDepth 20000 in
theorem dX10_go_102 : decode cX10_go 102 = .ok (.iload_n 3, 1) := by decide +kernel
set_option maxRecDepth 20000 in
theorem dX10_go_103 : decode cX10_go 103 = .ok (.iaload, 1) := by decide +kernel
set_option maxRecDepth 20000 in
theorem dX10_go_104 : decode cX10_go 104 = .ok (.aload_n 0, 1) := by decide +kernel
set_option maxRecDepth 20000 in
theorem dX10_go_105 : decode cX10_go 105 = .ok (.getfield 86, 3) := by decide +kernel
set_option maxRecDepth 20000 in
theorem dX10_go_108 : decode cX10_go 108 = .ok (.iload_n 3, 1) := by decide +kernel
set_option maxRecDepth 20000 in
theorem dX10_go_109 : decode cX10_go 109 = .ok (.iaload, 1) := by decide +kernel
set_option maxRecDepth 20000 in
theorem dX10_go_110 : decode cX10_go 110 = .ok (.aload_n 0, 1) := by decide +kernel
set_option maxRecDepth 20000 in
theorem dX10_go_111 : decode cX10_go 111 = .ok (.getfield 89, 3) := by decide +kernel
set_option maxRecDepth 20000 in
theorem dX10_go_114 : decode cX10_go 114 = .ok (.iload_n 3, 1) := by decide +kernel
set_option maxRecDepth 20000 in
theorem dX10_go_115 : decode cX10_go 115 = .ok (.iaload, 1) := by decide +kernel
set_option maxRecDepth 20000 in
theorem dX10_go_116 : decode cX10_go 116 = .ok (.invokevirtual 266, 3) := by decide +kernel
set_option maxRecDepth 20000 in
theorem dX10_go_119 : decode cX10_go 119 = .ok (.goto (-119), 3) := by decide +kernel
set_option maxRecDepth 20000 in
theorem dX10_go_122 : decode cX10_go 122 = .ok (.return_, 1) := by decide +kernel
set_option maxRecDepth 20000 in
theorem dX10_start_0 : decode cX10_start 0 = .ok (.iload_n 1, 1) := by decide +kernel
set_option maxRecDepth 20000 in
theorem dX10_start_1 : decode cX10_start 1 = .ok (.iconst 0, 1) := by decide +kernel
set_option maxRecDepth 20000 in
theorem dX10_start_2 : decode cX10_start 2 = .ok (.bipush 9, 2) := by decide +kernel
set_option maxRecDepth 20000 in
theorem dX10_start_4 : decode cX10_start 4 = .ok (.invokestatic 171, 3) := by decide +kernel
set_option maxRecDepth 20000 in
theorem dX10_start_7 : decode cX10_start 7 = .ok (.ifCond .eq 12, 3) := by decide +kernel
set_option maxRecDepth 20000 in
theorem dX10_start_10 : decode cX10_start 10 = .ok (.aload_n 0, 1) := by decide +kernel
set_option maxRecDepth 20000 in
theorem dX10_start_11 : decode cX10_start 11 = .ok (.iload_n 2, 1) := by decide +kernel
set_option maxRecDepth 20000 in
theorem dX10_start_12 : decode cX10_start 12 = .ok (.iload_n 3, 1) := by decide +kernel
set_option maxRecDepth 20000 in
theorem dX10_start_13 : decode cX10_start 13 = .ok (.invokevirtual 204, 3) := by decide +kernel
set_option maxRecDepth 20000 in
theorem dX10_start_16 : decode cX10_start 16 = .ok (.ifCond .ne 5, 3) := by decide +kernel
set_option maxRecDepth 20000 in
theorem dX10_start_19 : decode cX10_start 19 = .ok (.iconst (-1), 1) := by decide +kernel
set_option maxRecDepth 20000 in
theorem dX10_start_20 : decode cX10_start 20 = .ok (.ireturn, 1) := by decide +kernel
set_option maxRecDepth 20000 in
theorem dX10_start_21 : decode cX10_start 21 = .ok (.aload_n 0, 1) := by decide +kernel
set_option maxRecDepth 20000 in
theorem dX10_start_22 : decode cX10_start 22 = .ok (.invokevirtual 207, 3) := by decide +kernel
set_option maxRecDepth 20000 in
theorem dX10_start_25 : decode cX10_start 25 = .ok (.istore 4, 2) := by decide +kernel
set_option maxRecDepth 20000 in
theorem dX10_start_27 : decode cX10_start 27 = .ok (.iload 4, 2) := by decide +kernel
set_option maxRecDepth 20000 in
theorem dX10_start_29 : decode cX10_start 29 = .ok (.ifCond .ge 6, 3) := by decide +kernel
set_option maxRecDepth 20000 in
theorem dX10_start_32 : decode cX10_start 32 = .ok (.iload 4, 2) := by decide +kernel
set_option maxRecDepth 20000 in
theorem dX10_start_34 : decode cX10_start 34 = .ok (.ireturn, 1) := by decide +kernel
set_option maxRecDepth 20000 in
theorem dX10_start_35 : decode cX10_start 35 = .ok (.aload_n 0, 1) := by decide +kernel
set_option maxRecDepth 20000 in
theorem dX10_start_36 : decode cX10_start 36 = .ok (.iconst 0, 1) := by decide +kernel
set_option maxRecDepth 20000 in
theorem dX10_start_37 : decode cX10_start 37 = .ok (.putfield 263, 3) := by decide +kernel
set_option maxRecDepth 20000 in
theorem dX10_start_40 : decode cX10_start 40 = .ok (.aload_n 0, 1) := by decide +kernel
set_option maxRecDepth 20000 in
theorem dX10_start_41 : decode cX10_start 41 = .ok (.iconst (-1), 1) := by decide +kernel
set_option maxRecDepth 20000 in
theorem dX10_start_42 : decode cX10_start 42 = .ok (.putfield 215, 3) := by decide +kernel
set_option maxRecDepth 20000 in
theorem dX10_start_45 : decode cX10_start 45 = .ok (.aload_n 0, 1) := by decide +kernel
set_option maxRecDepth 20000 in
theorem dX10_start_46 : decode cX10_start 46 = .ok (.iload_n 1, 1) := by decide +kernel
set_option maxRecDepth 20000 in
theorem dX10_start_47 : decode cX10_start 47 = .ok (.iconst 0, 1) := by decide +kernel
set_option maxRecDepth 20000 in
theorem dX10_start_48 : decode cX10_start 48 = .ok (.iload_n 2, 1) := by decide +kernel
set_option maxRecDepth 20000 in
theorem dX10_start_49 : decode cX10_start 49 = .ok (.iload_n 3, 1) := by decide +kernel
set_option maxRecDepth 20000 in
theorem dX10_start_50 : decode cX10_start 50 = .ok (.iload 4, 2) := by decide +kernel
set_option maxRecDepth 20000 in
theorem dX10_start_52 : decode cX10_start 52 = .ok (.invokevirtual 256, 3) := by decide +kernel
set_option maxRecDepth 20000 in
theorem dX10_start_55 : decode cX10_start 55 = .ok (.aload_n 0, 1) := by decide +kernel
set_option maxRecDepth 20000 in
theorem dX10_start_56 : decode cX10_start 56 = .ok (.invokevirtual 270, 3) := by decide +kernel
set_option maxRecDepth 20000 in
theorem dX10_start_59 : decode cX10_start 59 = .ok (.iload 4, 2) := by decide +kernel
set_option maxRecDepth 20000 in
theorem dX10_start_61 : decode cX10_start 61 = .ok (.ireturn, 1) := by decide +kernel
set_option maxRecDepth 20000 in
theorem dX10_task_0 : decode cX10_task 0 = .ok (.iconst 0, 1) := by decide +kernel
set_option maxRecDepth 20000 in
theorem dX10_task_1 : decode cX10_task 1 = .ok (.istore 5, 2) := by decide +kernel
set_option maxRecDepth 20000 in
theorem dX10_task_3 : decode cX10_task 3 = .ok (.iload 5, 2) := by decide +kernel
set_option maxRecDepth 20000 in
theorem dX10_task_5 : decode cX10_task 5 = .ok (.bipush 32, 2) := by decide +kernel
set_option maxRecDepth 20000 in
theorem dX10_task_7 : decode cX10_task 7 = .ok (.if_icmp .ge 19, 3) := by decide +kernel
set_option maxRecDepth 20000 in
theorem dX10_task_10 : decode cX10_task 10 = .ok (.aload_n 0, 1) := by decide +kernel
set_option maxRecDepth 20000 in
theorem dX10_task_11 : decode cX10_task 11 = .ok (.getfield 110, 3) := by decide +kernel
set_option maxRecDepth 20000 in
theorem dX10_task_14 : decode cX10_task 14 = .ok (.iload 5, 2) := by decide +kernel
set_option maxRecDepth 20000 in
theorem dX10_task_16 : decode cX10_task 16 = .ok (.iaload, 1) := by decide +kernel
set_option maxRecDepth 20000 in
theorem dX10_task_17 : decode cX10_task 17 = .ok (.ifCond .lt 9, 3) := by decide +kernel
set_option maxRecDepth 20000 in
theorem dX10_task_20 : decode cX10_task 20 = .ok (.iinc 5 1, 3) := by decide +kernel
set_option maxRecDepth 20000 in
theorem dX10_task_23 : decode cX10_task 23 = .ok (.goto (-20), 3) := by decide +kernel
set_option maxRecDepth 20000 in
theorem dX10_task_26 : decode cX10_task 26 = .ok (.iload 5, 2) := by decide +kernel
set_option maxRecDepth 20000 in
theorem dX10_task_28 : decode cX10_task 28 = .ok (.bipush 32, 2) := by decide +kernel
set_option maxRecDepth 20000 in
theorem dX10_task_30 : decode cX10_task 30 = .ok (.if_icmp .ne 5, 3) := by decide +kernel
set_option maxRecDepth 20000 in
theorem dX10_task_33 : decode cX10_task 33 = .ok (.iconst 0, 1) := by decide +kernel
set_option maxRecDepth 20000 in
theorem dX10_task_34 : decode cX10_task 34 = .ok (.ireturn, 1) := by decide +kernel
set_option maxRecDepth 20000 in
theorem dX10_task_35 : decode cX10_task 35 = .ok (.aload_n 0, 1) := by decide +kernel
set_option maxRecDepth 20000 in
theorem dX10_task_36 : decode cX10_task 36 = .ok (.getfield 110, 3) := by decide +kernel
set_option maxRecDepth 20000 in
theorem dX10_task_39 : decode cX10_task 39 = .ok (.iload 5, 2) := by decide +kernel
set_option maxRecDepth 20000 in
theorem dX10_task_41 : decode cX10_task 41 = .ok (.aload_n 0, 1) := by decide +kernel
set_option maxRecDepth 20000 in
theorem dX10_task_42 : decode cX10_task 42 = .ok (.getfield 162, 3) := by decide +kernel
set_option maxRecDepth 20000 in
theorem dX10_task_45 : decode cX10_task 45 = .ok (.iload 4, 2) := by decide +kernel
set_option maxRecDepth 20000 in
theorem dX10_task_47 : decode cX10_task 47 = .ok (.iadd, 1) := by decide +kernel
set_option maxRecDepth 20000 in
theorem dX10_task_48 : decode cX10_task 48 = .ok (.iastore, 1) := by decide +kernel
set_option maxRecDepth 20000 in
theorem dX10_task_49 : decode cX10_task 49 = .ok (.aload_n 0, 1) := by decide +kernel
set_option maxRecDepth 20000 in
theorem dX10_task_50 : decode cX10_task 50 = .ok (.getfield 113, 3) := by decide +kernel
set_option maxRecDepth 20000 in
theorem dX10_task_53 : decode cX10_task 53 = .ok (.iload 5, 2) := by decide +kernel
set_option maxRecDepth 20000 in
theorem dX10_task_55 : decode cX10_task 55 = .ok (.aload_n 0, 1) := by decide +kernel
set_option maxRecDepth 20000 in
theorem dX10_task_56 : decode cX10_task 56 = .ok (.dup, 1) := by decide +kernel
set_option maxRecDepth 20000 in
theorem dX10_task_57 : decode cX10_task 57 = .ok (.getfield 156, 3) := by decide +kernel
set_option maxRecDepth 20000 in
theorem dX10_task_60 : decode cX10_task 60 = .ok (.iconst 1, 1) := by decide +kernel
set_option maxRecDepth 20000 in
theorem dX10_task_61 : decode cX10_task 61 = .ok (.iadd, 1) := by decide +kernel
set_option maxRecDepth 20000 in
theorem dX10_task_62 : decode cX10_task 62 = .ok (.dup_x1, 1) := by decide +kernel
set_option maxRecDepth 20000 in
theorem dX10_task_63 : decode cX10_task 63 = .ok (.putfield 156, 3) := by decide +kernel
set_option maxRecDepth 20000 in
theorem dX10_task_66 : decode cX10_task 66 = .ok (.iastore, 1) := by decide +kernel
set_option maxRecDepth 20000 in
theorem dX10_task_67 : decode cX10_task 67 = .ok (.aload_n 0, 1) := by decide +kernel
set_option maxRecDepth 20000 in
theorem dX10_task_68 : decode cX10_task 68 = .ok (.getfield 116, 3) := by decide +kernel
set_option maxRecDepth 20000 in
theorem dX10_task_71 : decode cX10_task 71 = .ok (.iload 5, 2) := by decide +kernel
set_option maxRecDepth 20000 in
theorem dX10_task_73 : decode cX10_task 73 = .ok (.iload_n 1, 1) := by decide +kernel
set_option maxRecDepth 20000 in
theorem dX10_task_74 : decode cX10_task 74 = .ok (.iastore, 1) := by decide +kernel
set_option maxRecDepth 20000 in
theorem dX10_task_75 : decode cX10_task 75 = .ok (.aload_n 0, 1) := by decide +kernel
set_option maxRecDepth 20000 in
theorem dX10_task_76 : decode cX10_task 76 = .ok (.getfield 119, 3) := by decide +kernel
set_option maxRecDepth 20000 in
theorem dX10_task_79 : decode cX10_task 79 = .ok (.iload 5, 2) := by decide +kernel
set_option maxRecDepth 20000 in
theorem dX10_task_81 : decode cX10_task 81 = .ok (.iload_n 2, 1) := by decide +kernel
set_option maxRecDepth 20000 in
theorem dX10_task_82 : decode cX10_task 82 = .ok (.iastore, 1) := by decide +kernel
set_option maxRecDepth 20000 in
theorem dX10_task_83 : decode cX10_task 83 = .ok (.aload_n 0, 1) := by decide +kernel
set_option maxRecDepth 20000 in
theorem dX10_task_84 : decode cX10_task 84 = .ok (.getfield 122, 3) := by decide +kernel
set_option maxRecDepth 20000 in
theorem dX10_task_87 : decode cX10_task 87 = .ok (.iload 5, 2) := by decide +kernel
set_option maxRecDepth 20000 in
theorem dX10_task_89 : decode cX10_task 89 = .ok (.iload_n 3, 1) := by decide +kernel
set_option maxRecDepth 20000 in
theorem dX10_task_90 : decode cX10_task 90 = .ok (.iastore, 1) := by decide +kernel
set_option maxRecDepth 20000 in
theorem dX10_task_91 : decode cX10_task 91 = .ok (.iconst 1, 1) := by decide +kernel
set_option maxRecDepth 20000 in
theorem dX10_task_92 : decode cX10_task 92 = .ok (.ireturn, 1) := by decide +kernel
set_option maxRecDepth 20000 in
theorem dX10_later_0 : decode cX10_later 0 = .ok (.iload_n 1, 1) := by decide +kernel
set_option maxRecDepth 20000 in
theorem dX10_later_1 : decode cX10_later 1 = .ok (.iconst 0, 1) := by decide +kernel
set_option maxRecDepth 20000 in
theorem dX10_later_2 : decode cX10_later 2 = .ok (.bipush 9, 2) := by decide +kernel
set_option maxRecDepth 20000 in
theorem dX10_later_4 : decode cX10_later 4 = .ok (.invokestatic 171, 3) := by decide +kernel
set_option maxRecDepth 20000 in
theorem dX10_later_7 : decode cX10_later 7 = .ok (.ifCond .eq 24, 3) := by decide +kernel
set_option maxRecDepth 20000 in
theorem dX10_later_10 : decode cX10_later 10 = .ok (.aload_n 0, 1) := by decide +kernel
set_option maxRecDepth 20000 in
theorem dX10_later_11 : decode cX10_later 11 = .ok (.iload_n 2, 1) := by decide +kernel
set_option maxRecDepth 20000 in
theorem dX10_later_12 : decode cX10_later 12 = .ok (.iload_n 3, 1) := by decide +kernel
set_option maxRecDepth 20000 in
theorem dX10_later_13 : decode cX10_later 13 = .ok (.invokevirtual 204, 3) := by decide +kernel
set_option maxRecDepth 20000 in
theorem dX10_later_16 : decode cX10_later 16 = .ok (.ifCond .eq 15, 3) := by decide +kernel
set_option maxRecDepth 20000 in
theorem dX10_later_19 : decode cX10_later 19 = .ok (.iload 4, 2) := by decide +kernel
set_option maxRecDepth 20000 in
theorem dX10_later_21 : decode cX10_later 21 = .ok (.iconst 0, 1) := by decide +kernel
set_option maxRecDepth 20000 in
theorem dX10_later_22 : decode cX10_later 22 = .ok (.sipush 1000, 3) := by decide +kernel
set_option maxRecDepth 20000 in
theorem dX10_later_25 : decode cX10_later 25 = .ok (.invokestatic 171, 3) := by decide +kernel
set_option maxRecDepth 20000 in
theorem dX10_later_28 : decode cX10_later 28 = .ok (.ifCond .ne 5, 3) := by decide +kernel
set_option maxRecDepth 20000 in
theorem dX10_later_31 : decode cX10_later 31 = .ok (.iconst (-1), 1) := by decide +kernel
set_option maxRecDepth 20000 in
theorem dX10_later_32 : decode cX10_later 32 = .ok (.ireturn, 1) := by decide +kernel
set_option maxRecDepth 20000 in
theorem dX10_later_33 : decode cX10_later 33 = .ok (.aload_n 0, 1) := by decide +kernel
set_option maxRecDepth 20000 in
theorem dX10_later_34 : decode cX10_later 34 = .ok (.iload_n 1, 1) := by decide +kernel
set_option maxRecDepth 20000 in
theorem dX10_later_35 : decode cX10_later 35 = .ok (.iload_n 2, 1) := by decide +kernel
set_option maxRecDepth 20000 in
theorem dX10_later_36 : decode cX10_later 36 = .ok (.iload_n 3, 1) := by decide +kernel
set_option maxRecDepth 20000 in
theorem dX10_later_37 : decode cX10_later 37 = .ok (.iload 4, 2) := by decide +kernel
set_option maxRecDepth 20000 in
theorem dX10_later_39 : decode cX10_later 39 = .ok (.invokevirtual 259, 3) := by decide +kernel
set_option maxRecDepth 20000 in
theorem dX10_later_42 : decode cX10_later 42 = .ok (.istore 5, 2) := by decide +kernel
set_option maxRecDepth 20000 in
theorem dX10_later_44 : decode cX10_later 44 = .ok (.iload 5, 2) := by decide +kernel
set_option maxRecDepth 20000 in
theorem dX10_later_46 : decode cX10_later 46 = .ok (.ifCond .eq 11, 3) := by decide +kernel
set_option maxRecDepth 20000 in
theorem dX10_later_49 : decode cX10_later 49 = .ok (.aload_n 0, 1) := by decide +kernel
set_option maxRecDepth 20000 in
theorem dX10_later_50 : decode cX10_later 50 = .ok (.iconst 3, 1) := by decide +kernel
set_option maxRecDepth 20000 in
theorem dX10_later_51 : decode cX10_later 51 = .ok (.invokevirtual 273, 3) := by decide +kernel
set_option maxRecDepth 20000 in
theorem dX10_later_54 : decode cX10_later 54 = .ok (.goto 5, 3) := by decide +kernel
set_option maxRecDepth 20000 in
theorem dX10_later_57 : decode cX10_later 57 = .ok (.bipush (-2), 2) := by decide +kernel
set_option maxRecDepth 20000 in
theorem dX10_later_59 : decode cX10_later 59 = .ok (.ireturn, 1) := by decide +kernel
set_option maxRecDepth 20000 in
theorem dX10_item_0 : decode cX10_item 0 = .ok (.aload_n 0, 1) := by decide +kernel
set_option maxRecDepth 20000 in
theorem dX10_item_1 : decode cX10_item 1 = .ok (.iload_n 1, 1) := by decide +kernel
set_option maxRecDepth 20000 in
theorem dX10_item_2 : decode cX10_item 2 = .ok (.iload_n 2, 1) := by decide +kernel
set_option maxRecDepth 20000 in
theorem dX10_item_3 : decode cX10_item 3 = .ok (.invokevirtual 204, 3) := by decide +kernel
set_option maxRecDepth 20000 in
theorem dX10_item_6 : decode cX10_item 6 = .ok (.ifCond .ne 5, 3) := by decide +kernel
set_option maxRecDepth 20000 in
theorem dX10_item_9 : decode cX10_item 9 = .ok (.iconst (-1), 1) := by decide +kernel
set_option maxRecDepth 20000 in
theorem dX10_item_10 : decode cX10_item 10 = .ok (.ireturn, 1) := by decide +kernel
set_option maxRecDepth 20000 in
theorem dX10_item_11 : decode cX10_item 11 = .ok (.aload_n 0, 1) := by decide +kernel
set_option maxRecDepth 20000 in
theorem dX10_item_12 : decode cX10_item 12 = .ok (.getfield 159, 3) := by decide +kernel
set_option maxRecDepth 20000 in
theorem dX10_item_15 : decode cX10_item 15 = .ok (.iconst 5, 1) := by decide +kernel
set_option maxRecDepth 20000 in
theorem dX10_item_16 : decode cX10_item 16 = .ok (.if_icmp .ne 6, 3) := by decide +kernel
set_option maxRecDepth 20000 in
theorem dX10_item_19 : decode cX10_item 19 = .ok (.bipush (-2), 2) := by decide +kernel
set_option maxRecDepth 20000 in
theorem dX10_item_21 : decode cX10_item 21 = .ok (.ireturn, 1) := by decide +kernel
set_option maxRecDepth 20000 in
theorem dX10_item_22 : decode cX10_item 22 = .ok (.aload_n 0, 1) := by decide +kernel
set_option maxRecDepth 20000 in
theorem dX10_item_23 : decode cX10_item 23 = .ok (.getfield 104, 3) := by decide +kernel
set_option maxRecDepth 20000 in
theorem dX10_item_26 : decode cX10_item 26 = .ok (.aload_n 0, 1) := by decide +kernel
set_option maxRecDepth 20000 in
theorem dX10_item_27 : decode cX10_item 27 = .ok (.getfield 159, 3) := by decide +kernel
set_option maxRecDepth 20000 in
theorem dX10_item_30 : decode cX10_item 30 = .ok (.iload_n 1, 1) := by decide +kernel
set_option maxRecDepth 20000 in
theorem dX10_item_31 : decode cX10_item 31 = .ok (.iastore, 1) := by decide +kernel
set_option maxRecDepth 20000 in
theorem dX10_item_32 : decode cX10_item 32 = .ok (.aload_n 0, 1) := by decide +kernel
set_option maxRecDepth 20000 in
theorem dX10_item_33 : decode cX10_item 33 = .ok (.getfield 107, 3) := by decide +kernel
set_option maxRecDepth 20000 in
theorem dX10_item_36 : decode cX10_item 36 = .ok (.aload_n 0, 1) := by decide +kernel
set_option maxRecDepth 20000 in
theorem dX10_item_37 : decode cX10_item 37 = .ok (.getfield 159, 3) := by decide +kernel
set_option maxRecDepth 20000 in
theorem dX10_item_40 : decode cX10_item 40 = .ok (.iload_n 2, 1) := by decide +kernel
set_option maxRecDepth 20000 in
theorem dX10_item_41 : decode cX10_item 41 = .ok (.iastore, 1) := by decide +kernel
set_option maxRecDepth 20000 in
theorem dX10_item_42 : decode cX10_item 42 = .ok (.aload_n 0, 1) := by decide +kernel
set_option maxRecDepth 20000 in
theorem dX10_item_43 : decode cX10_item 43 = .ok (.dup, 1) := by decide +kernel
set_option maxRecDepth 20000 in
theorem dX10_item_44 : decode cX10_item 44 = .ok (.getfield 159, 3) := by decide +kernel
set_option maxRecDepth 20000 in
theorem dX10_item_47 : decode cX10_item 47 = .ok (.iconst 1, 1) := by decide +kernel
set_option maxRecDepth 20000 in
theorem dX10_item_48 : decode cX10_item 48 = .ok (.iadd, 1) := by decide +kernel
set_option maxRecDepth 20000 in
theorem dX10_item_49 : decode cX10_item 49 = .ok (.dup_x1, 1) := by decide +kernel
set_option maxRecDepth 20000 in
theorem dX10_item_50 : decode cX10_item 50 = .ok (.putfield 159, 3) := by decide +kernel
set_option maxRecDepth 20000 in
theorem dX10_item_53 : decode cX10_item 53 = .ok (.ireturn, 1) := by decide +kernel
set_option maxRecDepth 20000 in
theorem dX10_group_0 : decode cX10_group 0 = .ok (.iload_n 1, 1) := by decide +kernel
set_option maxRecDepth 20000 in
theorem dX10_group_1 : decode cX10_group 1 = .ok (.iconst 0, 1) := by decide +kernel
set_option maxRecDepth 20000 in
theorem dX10_group_2 : decode cX10_group 2 = .ok (.iconst 3, 1) := by decide +kernel
set_option maxRecDepth 20000 in
theorem dX10_group_3 : decode cX10_group 3 = .ok (.invokestatic 171, 3) := by decide +kernel
set_option maxRecDepth 20000 in
theorem dX10_group_6 : decode cX10_group 6 = .ok (.ifCond .ne 5, 3) := by decide +kernel
set_option maxRecDepth 20000 in
theorem dX10_group_9 : decode cX10_group 9 = .ok (.iconst (-1), 1) := by decide +kernel
set_option maxRecDepth 20000 in
theorem dX10_group_10 : decode cX10_group 10 = .ok (.ireturn, 1) := by decide +kernel
set_option maxRecDepth 20000 in
theorem dX10_group_11 : decode cX10_group 11 = .ok (.iconst 1, 1) := by decide +kernel
set_option maxRecDepth 20000 in
theorem dX10_group_12 : decode cX10_group 12 = .ok (.istore_n 2, 1) := by decide +kernel
set_option maxRecDepth 20000 in
theorem dX10_group_13 : decode cX10_group 13 = .ok (.iconst 0, 1) := by decide +kernel
set_option maxRecDepth 20000 in
theorem dX10_group_14 : decode cX10_group 14 = .ok (.istore_n 3, 1) := by decide +kernel
set_option maxRecDepth 20000 in
theorem dX10_group_15 : decode cX10_group 15 = .ok (.iload_n 3, 1) := by decide +kernel
set_option maxRecDepth 20000 in
theorem dX10_group_16 : decode cX10_group 16 = .ok (.aload_n 0, 1) := by decide +kernel
set_option maxRecDepth 20000 in
theorem dX10_group_17 : decode cX10_group 17 = .ok (.getfield 159, 3) := by decide +kernel
set_option maxRecDepth 20000 in
theorem dX10_group_20 : decode cX10_group 20 = .ok (.if_icmp .ge 22, 3) := by decide +kernel
set_option maxRecDepth 20000 in
theorem dX10_group_23 : decode cX10_group 23 = .ok (.aload_n 0, 1) := by decide +kernel
set_option maxRecDepth 20000 in
theorem dX10_group_24 : decode cX10_group 24 = .ok (.getfield 104, 3) := by decide +kernel
set_option maxRecDepth 20000 in
theorem dX10_group_27 : decode cX10_group 27 = .ok (.iload_n 3, 1) := by decide +kernel
set_option maxRecDepth 20000 in
theorem dX10_group_28 : decode cX10_group 28 = .ok (.iaload, 1) := by decide +kernel
set_option maxRecDepth 20000 in
theorem dX10_group_29 : decode cX10_group 29 = .ok (.iconst 1, 1) := by decide +kernel
set_option maxRecDepth 20000 in
theorem dX10_group_30 : decode cX10_group 30 = .ok (.if_icmp .eq 6, 3) := by decide +kernel
set_option maxRecDepth 20000 in
theorem dX10_group_33 : decode cX10_group 33 = .ok (.iinc 2 1, 3) := by decide +kernel
set_option maxRecDepth 20000 in
theorem dX10_group_36 : decode cX10_group 36 = .ok (.iinc 3 1, 3) := by decide +kernel
set_option maxRecDepth 20000 in
theorem dX10_group_39 : decode cX10_group 39 = .ok (.goto (-24), 3) := by decide +kernel
set_option maxRecDepth 20000 in
theorem dX10_group_42 : decode cX10_group 42 = .ok (.aload_n 0, 1) := by decide +kernel
set_option maxRecDepth 20000 in
theorem dX10_group_43 : decode cX10_group 43 = .ok (.getfield 152, 3) := by decide +kernel
set_option maxRecDepth 20000 in
theorem dX10_group_46 : decode cX10_group 46 = .ok (.iload_n 2, 1) := by decide +kernel
set_option maxRecDepth 20000 in
theorem dX10_group_47 : decode cX10_group 47 = .ok (.iadd, 1) := by decide +kernel
set_option maxRecDepth 20000 in
theorem dX10_group_48 : decode cX10_group 48 = .ok (.bipush 100, 2) := by decide +kernel
set_option maxRecDepth 20000 in
theorem dX10_group_50 : decode cX10_group 50 = .ok (.if_icmp .le 6, 3) := by decide +kernel
set_option maxRecDepth 20000 in
theorem dX10_group_53 : decode cX10_group 53 = .ok (.bipush (-2), 2) := by decide +kernel
set_option maxRecDepth 20000 in
theorem dX10_group_55 : decode cX10_group 55 = .ok (.ireturn, 1) := by decide +kernel
set_option maxRecDepth 20000 in
theorem dX10_group_56 : decode cX10_group 56 = .ok (.aload_n 0, 1) := by decide +kernel
set_option maxRecDepth 20000 in
theorem dX10_group_57 : decode cX10_group 57 = .ok (.invokevirtual 207, 3) := by decide +kernel
set_option maxRecDepth 20000 in
theorem dX10_group_60 : decode cX10_group 60 = .ok (.istore_n 3, 1) := by decide +kernel
set_option maxRecDepth 20000 in
theorem dX10_group_61 : decode cX10_group 61 = .ok (.aload_n 0, 1) := by decide +kernel
set_option maxRecDepth 20000 in
theorem dX10_group_62 : decode cX10_group 62 = .ok (.getfield 92, 3) := by decide +kernel
set_option maxRecDepth 20000 in
theorem dX10_group_65 : decode cX10_group 65 = .ok (.iload_n 3, 1) := by decide +kernel
set_option maxRecDepth 20000 in
theorem dX10_group_66 : decode cX10_group 66 = .ok (.iload_n 1, 1) := by decide +kernel
set_option maxRecDepth 20000 in
theorem dX10_group_67 : decode cX10_group 67 = .ok (.iastore, 1) := by decide +kernel
set_option maxRecDepth 20000 in
theorem dX10_group_68 : decode cX10_group 68 = .ok (.aload_n 0, 1) := by decide +kernel
set_option maxRecDepth 20000 in
theorem dX10_group_69 : decode cX10_group 69 = .ok (.getfield 95, 3) := by decide +kernel
set_option maxRecDepth 20000 in
theorem dX10_group_72 : decode cX10_group 72 = .ok (.iload_n 3, 1) := by decide +kernel
set_option maxRecDepth 20000 in
theorem dX10_group_73 : decode cX10_group 73 = .ok (.aload_n 0, 1) := by decide +kernel
set_option maxRecDepth 20000 in
theorem dX10_group_74 : decode cX10_group 74 = .ok (.getfield 159, 3) := by decide +kernel
set_option maxRecDepth 20000 in
theorem dX10_group_77 : decode cX10_group 77 = .ok (.iastore, 1) := by decide +kernel
set_option maxRecDepth 20000 in
theorem dX10_group_78 : decode cX10_group 78 = .ok (.aload_n 0, 1) := by decide +kernel
set_option maxRecDepth 20000 in
theorem dX10_group_79 : decode cX10_group 79 = .ok (.getfield 98, 3) := by decide +kernel
set_option maxRecDepth 20000 in
theorem dX10_group_82 : decode cX10_group 82 = .ok (.iload_n 3, 1) := by decide +kernel
set_option maxRecDepth 20000 in
theorem dX10_group_83 : decode cX10_group 83 = .ok (.iconst 0, 1) := by decide +kernel
set_option maxRecDepth 20000 in
theorem dX10_group_84 : decode cX10_group 84 = .ok (.iastore, 1) := by decide +kernel
set_option maxRecDepth 20000 in
theorem dX10_group_85 : decode cX10_group 85 = .ok (.aload_n 0, 1) := by decide +kernel
set_option maxRecDepth 20000 in
theorem dX10_group_86 : decode cX10_group 86 = .ok (.getfield 101, 3) := by decide +kernel
set_option maxRecDepth 20000 in
theorem dX10_group_89 : decode cX10_group 89 = .ok (.iload_n 3, 1) := by decide +kernel
set_option maxRecDepth 20000 in
theorem dX10_group_90 : decode cX10_group 90 = .ok (.iconst 0, 1) := by decide +kernel
set_option maxRecDepth 20000 in
theorem dX10_group_91 : decode cX10_group 91 = .ok (.iastore, 1) := by decide +kernel
set_option maxRecDepth 20000 in
theorem dX10_group_92 : decode cX10_group 92 = .ok (.iconst 0, 1) := by decide +kernel
set_option maxRecDepth 20000 in
theorem dX10_group_93 : decode cX10_group 93 = .ok (.istore 4, 2) := by decide +kernel
set_option maxRecDepth 20000 in
theorem dX10_group_95 : decode cX10_group 95 = .ok (.iload 4, 2) := by decide +kernel
set_option maxRecDepth 20000 in
theorem dX10_group_97 : decode cX10_group 97 = .ok (.aload_n 0, 1) := by decide +kernel
set_option maxRecDepth 20000 in
theorem dX10_group_98 : decode cX10_group 98 = .ok (.getfield 159, 3) := by decide +kernel
set_option maxRecDepth 20000 in
theorem dX10_group_101 : decode cX10_group 101 = .ok (.if_icmp .ge 67, 3) := by decide +kernel
set_option maxRecDepth 20000 in
theorem dX10_group_104 : decode cX10_group 104 = .ok (.aload_n 0, 1) := by decide +kernel
set_option maxRecDepth 20000 in
theorem dX10_group_105 : decode cX10_group 105 = .ok (.getfield 107, 3) := by decide +kernel
set_option maxRecDepth 20000 in
theorem dX10_group_108 : decode cX10_group 108 = .ok (.iload 4, 2) := by decide +kernel
set_option maxRecDepth 20000 in
theorem dX10_group_110 : decode cX10_group 110 = .ok (.iaload, 1) := by decide +kernel
set_option maxRecDepth 20000 in
theorem dX10_group_111 : decode cX10_group 111 = .ok (.istore 5, 2) := by decide +kernel
set_option maxRecDepth 20000 in
theorem dX10_group_113 : decode cX10_group 113 = .ok (.aload_n 0, 1) := by decide +kernel
set_option maxRecDepth 20000 in
theorem dX10_group_114 : decode cX10_group 114 = .ok (.getfield 104, 3) := by decide +kernel
set_option maxRecDepth 20000 in
theorem dX10_group_117 : decode cX10_group 117 = .ok (.iload 4, 2) := by decide +kernel
set_option maxRecDepth 20000 in
theorem dX10_group_119 : decode cX10_group 119 = .ok (.iaload, 1) := by decide +kernel
set_option maxRecDepth 20000 in
theorem dX10_group_120 : decode cX10_group 120 = .ok (.iconst 1, 1) := by decide +kernel
set_option maxRecDepth 20000 in
theorem dX10_group_121 : decode cX10_group 121 = .ok (.if_icmp .eq 30, 3) := by decide +kernel
set_option maxRecDepth 20000 in
theorem dX10_group_124 : decode cX10_group 124 = .ok (.aload_n 0, 1) := by decide +kernel
set_option maxRecDepth 20000 in
theorem dX10_group_125 : decode cX10_group 125 = .ok (.invokevirtual 207, 3) := by decide +kernel
set_option maxRecDepth 20000 in
theorem dX10_group_128 : decode cX10_group 128 = .ok (.istore 5, 2) := by decide +kernel
set_option maxRecDepth 20000 in
theorem dX10_group_130 : decode cX10_group 130 = .ok (.aload_n 0, 1) := by decide +kernel
set_option maxRecDepth 20000 in
theorem dX10_group_131 : decode cX10_group 131 = .ok (.iload 5, 2) := by decide +kernel
set_option maxRecDepth 20000 in
theorem dX10_group_133 : decode cX10_group 133 = .ok (.aload_n 0, 1) := by decide +kernel
set_option maxRecDepth 20000 in
theorem dX10_group_134 : decode cX10_group 134 = .ok (.getfield 104, 3) := by decide +kernel
set_option maxRecDepth 20000 in
theorem dX10_group_137 : decode cX10_group 137 = .ok (.iload 4, 2) := by decide +kernel
set_option maxRecDepth 20000 in
theorem dX10_group_139 : decode cX10_group 139 = .ok (.iaload, 1) := by decide +kernel
set_option maxRecDepth 20000 in
theorem dX10_group_140 : decode cX10_group 140 = .ok (.aload_n 0, 1) := by decide +kernel
set_option maxRecDepth 20000 in
theorem dX10_group_141 : decode cX10_group 141 = .ok (.getfield 107, 3) := by decide +kernel
set_option maxRecDepth 20000 in
theorem dX10_group_144 : decode cX10_group 144 = .ok (.iload 4, 2) := by decide +kernel
set_option maxRecDepth 20000 in
theorem dX10_group_146 : decode cX10_group 146 = .ok (.iaload, 1) := by decide +kernel
set_option maxRecDepth 20000 in
theorem dX10_group_147 : decode cX10_group 147 = .ok (.iconst 0, 1) := by decide +kernel
set_option maxRecDepth 20000 in
theorem dX10_group_148 : decode cX10_group 148 = .ok (.invokevirtual 201, 3) := by decide +kernel
set_option maxRecDepth 20000 in
theorem dX10_group_151 : decode cX10_group 151 = .ok (.aload_n 0, 1) := by decide +kernel
set_option maxRecDepth 20000 in
theorem dX10_group_152 : decode cX10_group 152 = .ok (.iload 5, 2) := by decide +kernel
set_option maxRecDepth 20000 in
theorem dX10_group_154 : decode cX10_group 154 = .ok (.iconst 3, 1) := by decide +kernel
set_option maxRecDepth 20000 in
theorem dX10_group_155 : decode cX10_group 155 = .ok (.iload_n 3, 1) := by decide +kernel
set_option maxRecDepth 20000 in
theorem dX10_group_156 : decode cX10_group 156 = .ok (.iload 4, 2) := by decide +kernel
set_option maxRecDepth 20000 in
theorem dX10_group_158 : decode cX10_group 158 = .ok (.iconst 0, 1) := by decide +kernel
set_option maxRecDepth 20000 in
theorem dX10_group_159 : decode cX10_group 159 = .ok (.invokevirtual 211, 3) := by decide +kernel
set_option maxRecDepth 20000 in
theorem dX10_group_162 : decode cX10_group 162 = .ok (.iinc 4 1, 3) := by decide +kernel
set_option maxRecDepth 20000 in
theorem dX10_group_165 : decode cX10_group 165 = .ok (.goto (-70), 3) := by decide +kernel
set_option maxRecDepth 20000 in
theorem dX10_group_168 : decode cX10_group 168 = .ok (.aload_n 0, 1) := by decide +kernel
set_option maxRecDepth 20000 in
theorem dX10_group_169 : decode cX10_group 169 = .ok (.getfield 159, 3) := by decide +kernel
set_option maxRecDepth 20000 in
theorem dX10_group_172 : decode cX10_group 172 = .ok (.ifCond .ne 17, 3) := by decide +kernel
set_option maxRecDepth 20000 in
theorem dX10_group_175 : decode cX10_group 175 = .ok (.iload_n 1, 1) := by decide +kernel
set_option maxRecDepth 20000 in
theorem dX10_group_176 : decode cX10_group 176 = .ok (.iconst 3, 1) := by decide +kernel
set_option maxRecDepth 20000 in
theorem dX10_group_177 : decode cX10_group 177 = .ok (.if_icmp .ne 12, 3) := by decide +kernel
set_option maxRecDepth 20000 in
theorem dX10_group_180 : decode cX10_group 180 = .ok (.aload_n 0, 1) := by decide +kernel
set_option maxRecDepth 20000 in
theorem dX10_group_181 : decode cX10_group 181 = .ok (.iload_n 3, 1) := by decide +kernel
set_option maxRecDepth 20000 in
theorem dX10_group_182 : decode cX10_group 182 = .ok (.iconst 0, 1) := by decide +kernel
set_option maxRecDepth 20000 in
theorem dX10_group_183 : decode cX10_group 183 = .ok (.bipush (-5), 2) := by decide +kernel
set_option maxRecDepth 20000 in
theorem dX10_group_185 : decode cX10_group 185 = .ok (.iconst 0, 1) := by decide +kernel
set_option maxRecDepth 20000 in
theorem dX10_group_186 : decode cX10_group 186 = .ok (.invokevirtual 198, 3) := by decide +kernel
set_option maxRecDepth 20000 in
theorem dX10_group_189 : decode cX10_group 189 = .ok (.aload_n 0, 1) := by decide +kernel
set_option maxRecDepth 20000 in
theorem dX10_group_190 : decode cX10_group 190 = .ok (.getfield 159, 3) := by decide +kernel
set_option maxRecDepth 20000 in
theorem dX10_group_193 : decode cX10_group 193 = .ok (.ifCond .ne 17, 3) := by decide +kernel
set_option maxRecDepth 20000 in
theorem dX10_group_196 : decode cX10_group 196 = .ok (.iload_n 1, 1) := by decide +kernel
set_option maxRecDepth 20000 in
theorem dX10_group_197 : decode cX10_group 197 = .ok (.iconst 2, 1) := by decide +kernel
set_option maxRecDepth 20000 in
theorem dX10_group_198 : decode cX10_group 198 = .ok (.irem, 1) := by decide +kernel
set_option maxRecDepth 20000 in
theorem dX10_group_199 : decode cX10_group 199 = .ok (.ifCond .ne 11, 3) := by decide +kernel
set_option maxRecDepth 20000 in
theorem dX10_group_202 : decode cX10_group 202 = .ok (.aload_n 0, 1) := by decide +kernel
set_option maxRecDepth 20000 in
theorem dX10_group_203 : decode cX10_group 203 = .ok (.iload_n 3, 1) := by decide +kernel
set_option maxRecDepth 20000 in
theorem dX10_group_204 : decode cX10_group 204 = .ok (.iconst 0, 1) := by decide +kernel
set_option maxRecDepth 20000 in
theorem dX10_group_205 : decode cX10_group 205 = .ok (.iconst 0, 1) := by decide +kernel
set_option maxRecDepth 20000 in
theorem dX10_group_206 : decode cX10_group 206 = .ok (.iconst 0, 1) := by decide +kernel
set_option maxRecDepth 20000 in
theorem dX10_group_207 : decode cX10_group 207 = .ok (.invokevirtual 201, 3) := by decide +kernel
set_option maxRecDepth 20000 in
theorem dX10_group_210 : decode cX10_group 210 = .ok (.aload_n 0, 1) := by decide +kernel
set_option maxRecDepth 20000 in
theorem dX10_group_211 : decode cX10_group 211 = .ok (.iconst 0, 1) := by decide +kernel
set_option maxRecDepth 20000 in
theorem dX10_group_212 : decode cX10_group 212 = .ok (.putfield 159, 3) := by decide +kernel
set_option maxRecDepth 20000 in
theorem dX10_group_215 : decode cX10_group 215 = .ok (.iload_n 3, 1) := by decide +kernel
set_option maxRecDepth 20000 in
theorem dX10_group_216 : decode cX10_group 216 = .ok (.ireturn, 1) := by decide +kernel
set_option maxRecDepth 20000 in
theorem dX10_placed_0 : decode cX10_placed 0 = .ok (.iload_n 3, 1) := by decide +kernel
set_option maxRecDepth 20000 in
theorem dX10_placed_1 : decode cX10_placed 1 = .ok (.iconst 1, 1) := by decide +kernel
set_option maxRecDepth 20000 in
theorem dX10_placed_2 : decode cX10_placed 2 = .ok (.if_icmp .ne 7, 3) := by decide +kernel
set_option maxRecDepth 20000 in
theorem dX10_placed_5 : decode cX10_placed 5 = .ok (.iconst 1, 1) := by decide +kernel
set_option maxRecDepth 20000 in
theorem dX10_placed_6 : decode cX10_placed 6 = .ok (.goto 4, 3) := by decide +kernel
set_option maxRecDepth 20000 in
theorem dX10_placed_9 : decode cX10_placed 9 = .ok (.iconst 0, 1) := by decide +kernel
set_option maxRecDepth 20000 in
theorem dX10_placed_10 : decode cX10_placed 10 = .ok (.istore 6, 2) := by decide +kernel
set_option maxRecDepth 20000 in
theorem dX10_placed_12 : decode cX10_placed 12 = .ok (.aload_n 0, 1) := by decide +kernel
set_option maxRecDepth 20000 in
theorem dX10_placed_13 : decode cX10_placed 13 = .ok (.getfield 92, 3) := by decide +kernel
set_option maxRecDepth 20000 in
theorem dX10_placed_16 : decode cX10_placed 16 = .ok (.iload_n 1, 1) := by decide +kernel
set_option maxRecDepth 20000 in
theorem dX10_placed_17 : decode cX10_placed 17 = .ok (.iaload, 1) := by decide +kernel
set_option maxRecDepth 20000 in
theorem dX10_placed_18 : decode cX10_placed 18 = .ok (.istore 7, 2) := by decide +kernel
set_option maxRecDepth 20000 in
theorem dX10_placed_20 : decode cX10_placed 20 = .ok (.iload 7, 2) := by decide +kernel
set_option maxRecDepth 20000 in
theorem dX10_placed_22 : decode cX10_placed 22 = .ok (.iconst 1, 1) := by decide +kernel
set_option maxRecDepth 20000 in
theorem dX10_placed_23 : decode cX10_placed 23 = .ok (.if_icmp .eq 24, 3) := by decide +kernel
set_option maxRecDepth 20000 in
theorem dX10_placed_26 : decode cX10_placed 26 = .ok (.iload 7, 2) := by decide +kernel
set_option maxRecDepth 20000 in
theorem dX10_placed_28 : decode cX10_placed 28 = .ok (.ifCond .ne 8, 3) := by decide +kernel
set_option maxRecDepth 20000 in
theorem dX10_placed_31 : decode cX10_placed 31 = .ok (.iload 6, 2) := by decide +kernel
set_option maxRecDepth 20000 in
theorem dX10_placed_33 : decode cX10_placed 33 = .ok (.ifCond .eq 14, 3) := by decide +kernel
set_option maxRecDepth 20000 in
theorem dX10_placed_36 : decode cX10_placed 36 = .ok (.iload 7, 2) := by decide +kernel
set_option maxRecDepth 20000 in
theorem dX10_placed_38 : decode cX10_placed 38 = .ok (.iconst 3, 1) := by decide +kernel
set_option maxRecDepth 20000 in
theorem dX10_placed_39 : decode cX10_placed 39 = .ok (.if_icmp .ne 29, 3) := by decide +kernel
set_option maxRecDepth 20000 in
theorem dX10_placed_42 : decode cX10_placed 42 = .ok (.iload 6, 2) := by decide +kernel
set_option maxRecDepth 20000 in
theorem dX10_placed_44 : decode cX10_placed 44 = .ok (.ifCond .eq 24, 3) := by decide +kernel
set_option maxRecDepth 20000 in
theorem dX10_placed_47 : decode cX10_placed 47 = .ok (.aload_n 0, 1) := by decide +kernel
set_option maxRecDepth 20000 in
theorem dX10_placed_48 : decode cX10_placed 48 = .ok (.iload_n 1, 1) := by decide +kernel
set_option maxRecDepth 20000 in
theorem dX10_placed_49 : decode cX10_placed 49 = .ok (.iload 6, 2) := by decide +kernel
set_option maxRecDepth 20000 in
theorem dX10_placed_51 : decode cX10_placed 51 = .ok (.ifCond .ne 7, 3) := by decide +kernel
set_option maxRecDepth 20000 in
theorem dX10_placed_54 : decode cX10_placed 54 = .ok (.iconst 1, 1) := by decide +kernel
set_option maxRecDepth 20000 in
theorem dX10_placed_55 : decode cX10_placed 55 = .ok (.goto 4, 3) := by decide +kernel
set_option maxRecDepth 20000 in
theorem dX10_placed_58 : decode cX10_placed 58 = .ok (.iconst 0, 1) := by decide +kernel
set_option maxRecDepth 20000 in
theorem dX10_placed_59 : decode cX10_placed 59 = .ok (.iload 4, 2) := by decide +kernel
set_option maxRecDepth 20000 in
theorem dX10_placed_61 : decode cX10_placed 61 = .ok (.iload 5, 2) := by decide +kernel
set_option maxRecDepth 20000 in
theorem dX10_placed_63 : decode cX10_placed 63 = .ok (.iconst 0, 1) := by decide +kernel
set_option maxRecDepth 20000 in
theorem dX10_placed_64 : decode cX10_placed 64 = .ok (.invokevirtual 230, 3) := by decide +kernel
set_option maxRecDepth 20000 in
theorem dX10_placed_67 : decode cX10_placed 67 = .ok (.return_, 1) := by decide +kernel
set_option maxRecDepth 20000 in
theorem dX10_placed_68 : decode cX10_placed 68 = .ok (.aload_n 0, 1) := by decide +kernel
set_option maxRecDepth 20000 in
theorem dX10_placed_69 : decode cX10_placed 69 = .ok (.getfield 98, 3) := by decide +kernel
set_option maxRecDepth 20000 in
theorem dX10_placed_72 : decode cX10_placed 72 = .ok (.iload_n 1, 1) := by decide +kernel
set_option maxRecDepth 20000 in
theorem dX10_placed_73 : decode cX10_placed 73 = .ok (.dup2, 1) := by decide +kernel
set_option maxRecDepth 20000 in
theorem dX10_placed_74 : decode cX10_placed 74 = .ok (.iaload, 1) := by decide +kernel
set_option maxRecDepth 20000 in
theorem dX10_placed_75 : decode cX10_placed 75 = .ok (.iconst 1, 1) := by decide +kernel
set_option maxRecDepth 20000 in
theorem dX10_placed_76 : decode cX10_placed 76 = .ok (.iadd, 1) := by decide +kernel
set_option maxRecDepth 20000 in
theorem dX10_placed_77 : decode cX10_placed 77 = .ok (.iastore, 1) := by decide +kernel
set_option maxRecDepth 20000 in
theorem dX10_placed_78 : decode cX10_placed 78 = .ok (.iload 7, 2) := by decide +kernel
set_option maxRecDepth 20000 in
theorem dX10_placed_80 : decode cX10_placed 80 = .ok (.ifCond .ne 18, 3) := by decide +kernel
set_option maxRecDepth 20000 in
theorem dX10_placed_83 : decode cX10_placed 83 = .ok (.aload_n 0, 1) := by decide +kernel
set_option maxRecDepth 20000 in
theorem dX10_placed_84 : decode cX10_placed 84 = .ok (.getfield 101, 3) := by decide +kernel
set_option maxRecDepth 20000 in
theorem dX10_placed_87 : decode cX10_placed 87 = .ok (.iload_n 1, 1) := by decide +kernel
set_option maxRecDepth 20000 in
theorem dX10_placed_88 : decode cX10_placed 88 = .ok (.dup2, 1) := by decide +kernel
set_option maxRecDepth 20000 in
theorem dX10_placed_89 : decode cX10_placed 89 = .ok (.iaload, 1) := by decide +kernel
set_option maxRecDepth 20000 in
theorem dX10_placed_90 : decode cX10_placed 90 = .ok (.iload 5, 2) := by decide +kernel
set_option maxRecDepth 20000 in
theorem dX10_placed_92 : decode cX10_placed 92 = .ok (.iload_n 2, 1) := by decide +kernel
set_option maxRecDepth 20000 in
theorem dX10_placed_93 : decode cX10_placed 93 = .ok (.iconst 1, 1) := by decide +kernel
set_option maxRecDepth 20000 in
theorem dX10_placed_94 : decode cX10_placed 94 = .ok (.iadd, 1) := by decide +kernel
set_option maxRecDepth 20000 in
theorem dX10_placed_95 : decode cX10_placed 95 = .ok (.imul, 1) := by decide +kernel
set_option maxRecDepth 20000 in
theorem dX10_placed_96 : decode cX10_placed 96 = .ok (.iadd, 1) := by decide +kernel
set_option maxRecDepth 20000 in
theorem dX10_placed_97 : decode cX10_placed 97 = .ok (.iastore, 1) := by decide +kernel
set_option maxRecDepth 20000 in
theorem dX10_placed_98 : decode cX10_placed 98 = .ok (.iload 7, 2) := by decide +kernel
set_option maxRecDepth 20000 in
theorem dX10_placed_100 : decode cX10_placed 100 = .ok (.iconst 2, 1) := by decide +kernel
set_option maxRecDepth 20000 in
theorem dX10_placed_101 : decode cX10_placed 101 = .ok (.if_icmp .ne 20, 3) := by decide +kernel
set_option maxRecDepth 20000 in
theorem dX10_placed_104 : decode cX10_placed 104 = .ok (.iload 6, 2) := by decide +kernel
set_option maxRecDepth 20000 in
theorem dX10_placed_106 : decode cX10_placed 106 = .ok (.ifCond .eq 15, 3) := by decide +kernel
set_option maxRecDepth 20000 in
theorem dX10_placed_109 : decode cX10_placed 109 = .ok (.aload_n 0, 1) := by decide +kernel
set_option maxRecDepth 20000 in
theorem dX10_placed_110 : decode cX10_placed 110 = .ok (.getfield 101, 3) := by decide +kernel
set_option maxRecDepth 20000 in
theorem dX10_placed_113 : decode cX10_placed 113 = .ok (.iload_n 1, 1) := by decide +kernel
set_option maxRecDepth 20000 in
theorem dX10_placed_114 : decode cX10_placed 114 = .ok (.dup2, 1) := by decide +kernel
set_option maxRecDepth 20000 in
theorem dX10_placed_115 : decode cX10_placed 115 = .ok (.iaload, 1) := by decide +kernel
set_option maxRecDepth 20000 in
theorem dX10_placed_116 : decode cX10_placed 116 = .ok (.iload_n 2, 1) := by decide +kernel
set_option maxRecDepth 20000 in
theorem dX10_placed_117 : decode cX10_placed 117 = .ok (.iconst 1, 1) := by decide +kernel
set_option maxRecDepth 20000 in
theorem dX10_placed_118 : decode cX10_placed 118 = .ok (.iadd, 1) := by decide +kernel
set_option maxRecDepth 20000 in
theorem dX10_placed_119 : decode cX10_placed 119 = .ok (.iadd, 1) := by decide +kernel
set_option maxRecDepth 20000 in
theorem dX10_placed_120 : decode cX10_placed 120 = .ok (.iastore, 1) := by decide +kernel
set_option maxRecDepth 20000 in
theorem dX10_placed_121 : decode cX10_placed 121 = .ok (.aload_n 0, 1) := by decide +kernel
set_option maxRecDepth 20000 in
theorem dX10_placed_122 : decode cX10_placed 122 = .ok (.getfield 98, 3) := by decide +kernel
set_option maxRecDepth 20000 in
theorem dX10_placed_125 : decode cX10_placed 125 = .ok (.iload_n 1, 1) := by decide +kernel
set_option maxRecDepth 20000 in
theorem dX10_placed_126 : decode cX10_placed 126 = .ok (.iaload, 1) := by decide +kernel
set_option maxRecDepth 20000 in
theorem dX10_placed_127 : decode cX10_placed 127 = .ok (.aload_n 0, 1) := by decide +kernel
set_option maxRecDepth 20000 in
theorem dX10_placed_128 : decode cX10_placed 128 = .ok (.getfield 95, 3) := by decide +kernel
set_option maxRecDepth 20000 in
theorem dX10_placed_131 : decode cX10_placed 131 = .ok (.iload_n 1, 1) := by decide +kernel
set_option maxRecDepth 20000 in
theorem dX10_placed_132 : decode cX10_placed 132 = .ok (.iaload, 1) := by decide +kernel
set_option maxRecDepth 20000 in
theorem dX10_placed_133 : decode cX10_placed 133 = .ok (.if_icmp .ge 4, 3) := by decide +kernel
set_option maxRecDepth 20000 in
theorem dX10_placed_136 : decode cX10_placed 136 = .ok (.return_, 1) := by decide +kernel
set_option maxRecDepth 20000 in
theorem dX10_placed_137 : decode cX10_placed 137 = .ok (.iload 7, 2) := by decide +kernel
set_option maxRecDepth 20000 in
theorem dX10_placed_139 : decode cX10_placed 139 = .ok (.iconst 3, 1) := by decide +kernel
set_option maxRecDepth 20000 in
theorem dX10_placed_140 : decode cX10_placed 140 = .ok (.if_icmp .ne 15, 3) := by decide +kernel
set_option maxRecDepth 20000 in
theorem dX10_placed_143 : decode cX10_placed 143 = .ok (.aload_n 0, 1) := by decide +kernel
set_option maxRecDepth 20000 in
theorem dX10_placed_144 : decode cX10_placed 144 = .ok (.iload_n 1, 1) := by decide +kernel
set_option maxRecDepth 20000 in
theorem dX10_placed_145 : decode cX10_placed 145 = .ok (.iconst 0, 1) := by decide +kernel
set_option maxRecDepth 20000 in
theorem dX10_placed_146 : decode cX10_placed 146 = .ok (.bipush (-5), 2) := by decide +kernel
set_option maxRecDepth 20000 in
theorem dX10_placed_148 : decode cX10_placed 148 = .ok (.iconst 0, 1) := by decide +kernel
set_option maxRecDepth 20000 in
theorem dX10_placed_149 : decode cX10_placed 149 = .ok (.invokevirtual 198, 3) := by decide +kernel
set_option maxRecDepth 20000 in
theorem dX10_placed_152 : decode cX10_placed 152 = .ok (.goto 16, 3) := by decide +kernel
set_option maxRecDepth 20000 in
theorem dX10_placed_155 : decode cX10_placed 155 = .ok (.aload_n 0, 1) := by decide +kernel
set_option maxRecDepth 20000 in
theorem dX10_placed_156 : decode cX10_placed 156 = .ok (.iload_n 1, 1) := by decide +kernel
set_option maxRecDepth 20000 in
theorem dX10_placed_157 : decode cX10_placed 157 = .ok (.iconst 0, 1) := by decide +kernel
set_option maxRecDepth 20000 in
theorem dX10_placed_158 : decode cX10_placed 158 = .ok (.aload_n 0, 1) := by decide +kernel
set_option maxRecDepth 20000 in
theorem dX10_placed_159 : decode cX10_placed 159 = .ok (.getfield 101, 3) := by decide +kernel
set_option maxRecDepth 20000 in
theorem dX10_placed_162 : decode cX10_placed 162 = .ok (.iload_n 1, 1) := by decide +kernel
set_option maxRecDepth 20000 in
theorem dX10_placed_163 : decode cX10_placed 163 = .ok (.iaload, 1) := by decide +kernel
set_option maxRecDepth 20000 in
theorem dX10_placed_164 : decode cX10_placed 164 = .ok (.iconst 0, 1) := by decide +kernel
set_option maxRecDepth 20000 in
theorem dX10_placed_165 : decode cX10_placed 165 = .ok (.invokevirtual 201, 3) := by decide +kernel
set_option maxRecDepth 20000 in
theorem dX10_placed_168 : decode cX10_placed 168 = .ok (.return_, 1) := by decide +kernel
set_option maxRecDepth 20000 in
theorem dX10_adopt_0 : decode cX10_adopt 0 = .ok (.aload_n 0, 1) := by decide +kernel
set_option maxRecDepth 20000 in
theorem dX10_adopt_1 : decode cX10_adopt 1 = .ok (.getfield 19, 3) := by decide +kernel
set_option maxRecDepth 20000 in
theorem dX10_adopt_4 : decode cX10_adopt 4 = .ok (.iload_n 1, 1) := by decide +kernel
set_option maxRecDepth 20000 in
theorem dX10_adopt_5 : decode cX10_adopt 5 = .ok (.dup2, 1) := by decide +kernel
set_option maxRecDepth 20000 in
theorem dX10_adopt_6 : decode cX10_adopt 6 = .ok (.iaload, 1) := by decide +kernel
set_option maxRecDepth 20000 in
theorem dX10_adopt_7 : decode cX10_adopt 7 = .ok (.iconst 1, 1) := by decide +kernel
set_option maxRecDepth 20000 in
theorem dX10_adopt_8 : decode cX10_adopt 8 = .ok (.iadd, 1) := by decide +kernel
set_option maxRecDepth 20000 in
theorem dX10_adopt_9 : decode cX10_adopt 9 = .ok (.dup_x2, 1) := by decide +kernel
set_option maxRecDepth 20000 in
theorem dX10_adopt_10 : decode cX10_adopt 10 = .ok (.iastore, 1) := by decide +kernel
set_option maxRecDepth 20000 in
theorem dX10_adopt_11 : decode cX10_adopt 11 = .ok (.istore 4, 2) := by decide +kernel
set_option maxRecDepth 20000 in
theorem dX10_adopt_13 : decode cX10_adopt 13 = .ok (.aload_n 0, 1) := by decide +kernel
set_option maxRecDepth 20000 in
theorem dX10_adopt_14 : decode cX10_adopt 14 = .ok (.getfield 28, 3) := by decide +kernel
set_option maxRecDepth 20000 in
theorem dX10_adopt_17 : decode cX10_adopt 17 = .ok (.iload_n 1, 1) := by decide +kernel
set_option maxRecDepth 20000 in
theorem dX10_adopt_18 : decode cX10_adopt 18 = .ok (.iconst 0, 1) := by decide +kernel
set_option maxRecDepth 20000 in
theorem dX10_adopt_19 : decode cX10_adopt 19 = .ok (.bastore, 1) := by decide +kernel
set_option maxRecDepth 20000 in
theorem dX10_adopt_20 : decode cX10_adopt 20 = .ok (.iload_n 2, 1) := by decide +kernel
set_option maxRecDepth 20000 in
theorem dX10_adopt_21 : decode cX10_adopt 21 = .ok (.iconst 1, 1) := by decide +kernel
set_option maxRecDepth 20000 in
theorem dX10_adopt_22 : decode cX10_adopt 22 = .ok (.if_icmp .ne 14, 3) := by decide +kernel
set_option maxRecDepth 20000 in
theorem dX10_adopt_25 : decode cX10_adopt 25 = .ok (.aload_n 0, 1) := by decide +kernel
set_option maxRecDepth 20000 in
theorem dX10_adopt_26 : decode cX10_adopt 26 = .ok (.iload_n 3, 1) := by decide +kernel
set_option maxRecDepth 20000 in
theorem dX10_adopt_27 : decode cX10_adopt 27 = .ok (.iconst 2, 1) := by decide +kernel
set_option maxRecDepth 20000 in
theorem dX10_adopt_28 : decode cX10_adopt 28 = .ok (.iload_n 1, 1) := by decide +kernel
set_option maxRecDepth 20000 in
theorem dX10_adopt_29 : decode cX10_adopt 29 = .ok (.iload 4, 2) := by decide +kernel
set_option maxRecDepth 20000 in
theorem dX10_adopt_31 : decode cX10_adopt 31 = .ok (.iconst 0, 1) := by decide +kernel
set_option maxRecDepth 20000 in
theorem dX10_adopt_32 : decode cX10_adopt 32 = .ok (.invokevirtual 211, 3) := by decide +kernel
set_option maxRecDepth 20000 in
theorem dX10_adopt_35 : decode cX10_adopt 35 = .ok (.return_, 1) := by decide +kernel
set_option maxRecDepth 20000 in
theorem dX10_adopt_36 : decode cX10_adopt 36 = .ok (.aload_n 0, 1) := by decide +kernel
set_option maxRecDepth 20000 in
theorem dX10_adopt_37 : decode cX10_adopt 37 = .ok (.getfield 65, 3) := by decide +kernel
set_option maxRecDepth 20000 in
theorem dX10_adopt_40 : decode cX10_adopt 40 = .ok (.iload_n 3, 1) := by decide +kernel
set_option maxRecDepth 20000 in
theorem dX10_adopt_41 : decode cX10_adopt 41 = .ok (.iaload, 1) := by decide +kernel
set_option maxRecDepth 20000 in
theorem dX10_adopt_42 : decode cX10_adopt 42 = .ok (.ifCond .eq 13, 3) := by decide +kernel
set_option maxRecDepth 20000 in
theorem dX10_adopt_45 : decode cX10_adopt 45 = .ok (.aload_n 0, 1) := by decide +kernel
set_option maxRecDepth 20000 in
theorem dX10_adopt_46 : decode cX10_adopt 46 = .ok (.getfield 65, 3) := by decide +kernel
set_option maxRecDepth 20000 in
theorem dX10_adopt_49 : decode cX10_adopt 49 = .ok (.iload_n 3, 1) := by decide +kernel
set_option maxRecDepth 20000 in
theorem dX10_adopt_50 : decode cX10_adopt 50 = .ok (.iaload, 1) := by decide +kernel
set_option maxRecDepth 20000 in
theorem dX10_adopt_51 : decode cX10_adopt 51 = .ok (.iconst 2, 1) := by decide +kernel
set_option maxRecDepth 20000 in
theorem dX10_adopt_52 : decode cX10_adopt 52 = .ok (.if_icmp .ne 22, 3) := by decide +kernel
set_option maxRecDepth 20000 in
theorem dX10_adopt_55 : decode cX10_adopt 55 = .ok (.aload_n 0, 1) := by decide +kernel
set_option maxRecDepth 20000 in
theorem dX10_adopt_56 : decode cX10_adopt 56 = .ok (.iload_n 1, 1) := by decide +kernel
set_option maxRecDepth 20000 in
theorem dX10_adopt_57 : decode cX10_adopt 57 = .ok (.aload_n 0, 1) := by decide +kernel
set_option maxRecDepth 20000 in
theorem dX10_adopt_58 : decode cX10_adopt 58 = .ok (.getfield 68, 3) := by decide +kernel
set_option maxRecDepth 20000 in
theorem dX10_adopt_61 : decode cX10_adopt 61 = .ok (.iload_n 3, 1) := by decide +kernel
set_option maxRecDepth 20000 in
theorem dX10_adopt_62 : decode cX10_adopt 62 = .ok (.iaload, 1) := by decide +kernel
set_option maxRecDepth 20000 in
theorem dX10_adopt_63 : decode cX10_adopt 63 = .ok (.aload_n 0, 1) := by decide +kernel
set_option maxRecDepth 20000 in
theorem dX10_adopt_64 : decode cX10_adopt 64 = .ok (.getfield 71, 3) := by decide +kernel
set_option maxRecDepth 20000 in
theorem dX10_adopt_67 : decode cX10_adopt 67 = .ok (.iload_n 3, 1) := by decide +kernel
set_option maxRecDepth 20000 in
theorem dX10_adopt_68 : decode cX10_adopt 68 = .ok (.iaload, 1) := by decide +kernel
set_option maxRecDepth 20000 in
theorem dX10_adopt_69 : decode cX10_adopt 69 = .ok (.iload 4, 2) := by decide +kernel
set_option maxRecDepth 20000 in
theorem dX10_adopt_71 : decode cX10_adopt 71 = .ok (.invokevirtual 201, 3) := by decide +kernel
set_option maxRecDepth 20000 in
theorem dX10_adopt_74 : decode cX10_adopt 74 = .ok (.aload_n 0, 1) := by decide +kernel
set_option maxRecDepth 20000 in
theorem dX10_adopt_75 : decode cX10_adopt 75 = .ok (.getfield 65, 3) := by decide +kernel
set_option maxRecDepth 20000 in
theorem dX10_adopt_78 : decode cX10_adopt 78 = .ok (.iload_n 3, 1) := by decide +kernel
set_option maxRecDepth 20000 in
theorem dX10_adopt_79 : decode cX10_adopt 79 = .ok (.iaload, 1) := by decide +kernel
set_option maxRecDepth 20000 in
theorem dX10_adopt_80 : decode cX10_adopt 80 = .ok (.iconst 1, 1) := by decide +kernel
set_option maxRecDepth 20000 in
theorem dX10_adopt_81 : decode cX10_adopt 81 = .ok (.if_icmp .ne 22, 3) := by decide +kernel
set_option maxRecDepth 20000 in
theorem dX10_adopt_84 : decode cX10_adopt 84 = .ok (.aload_n 0, 1) := by decide +kernel
set_option maxRecDepth 20000 in
theorem dX10_adopt_85 : decode cX10_adopt 85 = .ok (.iload_n 1, 1) := by decide +kernel
set_option maxRecDepth 20000 in
theorem dX10_adopt_86 : decode cX10_adopt 86 = .ok (.aload_n 0, 1) := by decide +kernel
set_option maxRecDepth 20000 in
theorem dX10_adopt_87 : decode cX10_adopt 87 = .ok (.getfield 68, 3) := by decide +kernel
set_option maxRecDepth 20000 in
theorem dX10_adopt_90 : decode cX10_adopt 90 = .ok (.iload_n 3, 1) := by decide +kernel
set_option maxRecDepth 20000 in
theorem dX10_adopt_91 : decode cX10_adopt 91 = .ok (.iaload, 1) := by decide +kernel
set_option maxRecDepth 20000 in
theorem dX10_adopt_92 : decode cX10_adopt 92 = .ok (.aload_n 0, 1) := by decide +kernel
set_option maxRecDepth 20000 in
theorem dX10_adopt_93 : decode cX10_adopt 93 = .ok (.getfield 71, 3) := by decide +kernel
set_option maxRecDepth 20000 in
theorem dX10_adopt_96 : decode cX10_adopt 96 = .ok (.iload_n 3, 1) := by decide +kernel
set_option maxRecDepth 20000 in
theorem dX10_adopt_97 : decode cX10_adopt 97 = .ok (.iaload, 1) := by decide +kernel
set_option maxRecDepth 20000 in
theorem dX10_adopt_98 : decode cX10_adopt 98 = .ok (.iload 4, 2) := by decide +kernel
set_option maxRecDepth 20000 in
theorem dX10_adopt_100 : decode cX10_adopt 100 = .ok (.invokevirtual 198, 3) := by decide +kernel
set_option maxRecDepth 20000 in
theorem dX10_adopt_103 : decode cX10_adopt 103 = .ok (.aload_n 0, 1) := by decide +kernel
set_option maxRecDepth 20000 in
theorem dX10_adopt_104 : decode cX10_adopt 104 = .ok (.getfield 65, 3) := by decide +kernel
set_option maxRecDepth 20000 in
theorem dX10_adopt_107 : decode cX10_adopt 107 = .ok (.iload_n 3, 1) := by decide +kernel
set_option maxRecDepth 20000 in
theorem dX10_adopt_108 : decode cX10_adopt 108 = .ok (.iaload, 1) := by decide +kernel
set_option maxRecDepth 20000 in
theorem dX10_adopt_109 : decode cX10_adopt 109 = .ok (.iconst 2, 1) := by decide +kernel
set_option maxRecDepth 20000 in
theorem dX10_adopt_110 : decode cX10_adopt 110 = .ok (.if_icmp .ne 22, 3) := by decide +kernel
set_option maxRecDepth 20000 in
theorem dX10_adopt_113 : decode cX10_adopt 113 = .ok (.aload_n 0, 1) := by decide +kernel
set_option maxRecDepth 20000 in
theorem dX10_adopt_114 : decode cX10_adopt 114 = .ok (.iload_n 1, 1) := by decide +kernel
set_option maxRecDepth 20000 in
theorem dX10_adopt_115 : decode cX10_adopt 115 = .ok (.aload_n 0, 1) := by decide +kernel
set_option maxRecDepth 20000 in
theorem dX10_adopt_116 : decode cX10_adopt 116 = .ok (.getfield 74, 3) := by decide +kernel
set_option maxRecDepth 20000 in
theorem dX10_adopt_119 : decode cX10_adopt 119 = .ok (.iload_n 3, 1) := by decide +kernel
set_option maxRecDepth 20000 in
theorem dX10_adopt_120 : decode cX10_adopt 120 = .ok (.iaload, 1) := by decide +kernel
set_option maxRecDepth 20000 in
theorem dX10_adopt_121 : decode cX10_adopt 121 = .ok (.aload_n 0, 1) := by decide +kernel
set_option maxRecDepth 20000 in
theorem dX10_adopt_122 : decode cX10_adopt 122 = .ok (.getfield 77, 3) := by decide +kernel
set_option maxRecDepth 20000 in
theorem dX10_adopt_125 : decode cX10_adopt 125 = .ok (.iload_n 3, 1) := by decide +kernel
set_option maxRecDepth 20000 in
theorem dX10_adopt_126 : decode cX10_adopt 126 = .ok (.iaload, 1) := by decide +kernel
set_option maxRecDepth 20000 in
theorem dX10_adopt_127 : decode cX10_adopt 127 = .ok (.iload 4, 2) := by decide +kernel
set_option maxRecDepth 20000 in
theorem dX10_adopt_129 : decode cX10_adopt 129 = .ok (.invokevirtual 198, 3) := by decide +kernel
set_option maxRecDepth 20000 in
theorem dX10_adopt_132 : decode cX10_adopt 132 = .ok (.return_, 1) := by decide +kernel
set_option maxRecDepth 20000 in
theorem dX10_done_0 : decode cX10_done 0 = .ok (.aload_n 0, 1) := by decide +kernel
set_option maxRecDepth 20000 in
theorem dX10_done_1 : decode cX10_done 1 = .ok (.iload_n 1, 1) := by decide +kernel
set_option maxRecDepth 20000 in
theorem dX10_done_2 : decode cX10_done 2 = .ok (.iconst 0, 1) := by decide +kernel
set_option maxRecDepth 20000 in
theorem dX10_done_3 : decode cX10_done 3 = .ok (.iload_n 2, 1) := by decide +kernel
set_option maxRecDepth 20000 in
theorem dX10_done_4 : decode cX10_done 4 = .ok (.iload_n 3, 1) := by decide +kernel
set_option maxRecDepth 20000 in
theorem dX10_done_5 : decode cX10_done 5 = .ok (.iconst (-1), 1) := by decide +kernel
set_option maxRecDepth 20000 in
theorem dX10_done_6 : decode cX10_done 6 = .ok (.invokevirtual 256, 3) := by decide +kernel
set_option maxRecDepth 20000 in
theorem dX10_done_9 : decode cX10_done 9 = .ok (.aload_n 0, 1) := by decide +kernel
set_option maxRecDepth 20000 in
theorem dX10_done_10 : decode cX10_done 10 = .ok (.invokevirtual 270, 3) := by decide +kernel
set_option maxRecDepth 20000 in
theorem dX10_done_13 : decode cX10_done 13 = .ok (.return_, 1) := by decide +kernel
set_option maxRecDepth 20000 in
theorem dX10_job_0 : decode cX10_job 0 = .ok (.aload_n 0, 1) := by decide +kernel
set_option maxRecDepth 20000 in
theorem dX10_job_1 : decode cX10_job 1 = .ok (.getfield 47, 3) := by decide +kernel
set_option maxRecDepth 20000 in
theorem dX10_job_4 : decode cX10_job 4 = .ok (.iload_n 1, 1) := by decide +kernel
set_option maxRecDepth 20000 in
theorem dX10_job_5 : decode cX10_job 5 = .ok (.iaload, 1) := by decide +kernel
set_option maxRecDepth 20000 in
theorem dX10_job_6 : decode cX10_job 6 = .ok (.istore_n 2, 1) := by decide +kernel
set_option maxRecDepth 20000 in
theorem dX10_job_7 : decode cX10_job 7 = .ok (.aload_n 0, 1) := by decide +kernel
set_option maxRecDepth 20000 in
theorem dX10_job_8 : decode cX10_job 8 = .ok (.getfield 50, 3) := by decide +kernel
set_option maxRecDepth 20000 in
theorem dX10_job_11 : decode cX10_job 11 = .ok (.iload_n 1, 1) := by decide +kernel
set_option maxRecDepth 20000 in
theorem dX10_job_12 : decode cX10_job 12 = .ok (.iaload, 1) := by decide +kernel
set_option maxRecDepth 20000 in
theorem dX10_job_13 : decode cX10_job 13 = .ok (.istore_n 3, 1) := by decide +kernel
set_option maxRecDepth 20000 in
theorem dX10_job_14 : decode cX10_job 14 = .ok (.aload_n 0, 1) := by decide +kernel
set_option maxRecDepth 20000 in
theorem dX10_job_15 : decode cX10_job 15 = .ok (.getfield 59, 3) := by decide +kernel
set_option maxRecDepth 20000 in
theorem dX10_job_18 : decode cX10_job 18 = .ok (.iload_n 1, 1) := by decide +kernel
set_option maxRecDepth 20000 in
theorem dX10_job_19 : decode cX10_job 19 = .ok (.iaload, 1) := by decide +kernel
set_option maxRecDepth 20000 in
theorem dX10_job_20 : decode cX10_job 20 = .ok (.istore 4, 2) := by decide +kernel
set_option maxRecDepth 20000 in
theorem dX10_job_22 : decode cX10_job 22 = .ok (.aload_n 0, 1) := by decide +kernel
set_option maxRecDepth 20000 in
theorem dX10_job_23 : decode cX10_job 23 = .ok (.getfield 62, 3) := by decide +kernel
set_option maxRecDepth 20000 in
theorem dX10_job_26 : decode cX10_job 26 = .ok (.iload_n 1, 1) := by decide +kernel
set_option maxRecDepth 20000 in
theorem dX10_job_27 : decode cX10_job 27 = .ok (.iaload, 1) := by decide +kernel
set_option maxRecDepth 20000 in
theorem dX10_job_28 : decode cX10_job 28 = .ok (.istore 5, 2) := by decide +kernel
set_option maxRecDepth 20000 in
theorem dX10_job_30 : decode cX10_job 30 = .ok (.aload_n 0, 1) := by decide +kernel
set_option maxRecDepth 20000 in
theorem dX10_job_31 : decode cX10_job 31 = .ok (.getfield 56, 3) := by decide +kernel
set_option maxRecDepth 20000 in
theorem dX10_job_34 : decode cX10_job 34 = .ok (.iload_n 1, 1) := by decide +kernel
set_option maxRecDepth 20000 in
theorem dX10_job_35 : decode cX10_job 35 = .ok (.iaload, 1) := by decide +kernel
set_option maxRecDepth 20000 in
theorem dX10_job_36 : decode cX10_job 36 = .ok (.iconst 2, 1) := by decide +kernel
set_option maxRecDepth 20000 in
theorem dX10_job_37 : decode cX10_job 37 = .ok (.if_icmp .ne 7, 3) := by decide +kernel
set_option maxRecDepth 20000 in
theorem dX10_job_40 : decode cX10_job 40 = .ok (.iconst 1, 1) := by decide +kernel
set_option maxRecDepth 20000 in
theorem dX10_job_41 : decode cX10_job 41 = .ok (.goto 4, 3) := by decide +kernel
set_option maxRecDepth 20000 in
theorem dX10_job_44 : decode cX10_job 44 = .ok (.iconst 0, 1) := by decide +kernel
set_option maxRecDepth 20000 in
theorem dX10_job_45 : decode cX10_job 45 = .ok (.istore 6, 2) := by decide +kernel
set_option maxRecDepth 20000 in
theorem dX10_job_47 : decode cX10_job 47 = .ok (.aload_n 0, 1) := by decide +kernel
set_option maxRecDepth 20000 in
theorem dX10_job_48 : decode cX10_job 48 = .ok (.getfield 38, 3) := by decide +kernel
set_option maxRecDepth 20000 in
theorem dX10_job_51 : decode cX10_job 51 = .ok (.iload_n 1, 1) := by decide +kernel
set_option maxRecDepth 20000 in
theorem dX10_job_52 : decode cX10_job 52 = .ok (.iaload, 1) := by decide +kernel
set_option maxRecDepth 20000 in
theorem dX10_job_53 : decode cX10_job 53 = .ok (.istore 7, 2) := by decide +kernel
set_option maxRecDepth 20000 in
theorem dX10_job_55 : decode cX10_job 55 = .ok (.aload_n 0, 1) := by decide +kernel
set_option maxRecDepth 20000 in
theorem dX10_job_56 : decode cX10_job 56 = .ok (.getfield 38, 3) := by decide +kernel
set_option maxRecDepth 20000 in
theorem dX10_job_59 : decode cX10_job 59 = .ok (.iload_n 1, 1) := by decide +kernel
set_option maxRecDepth 20000 in
theorem dX10_job_60 : decode cX10_job 60 = .ok (.iconst 0, 1) := by decide +kernel
set_option maxRecDepth 20000 in
theorem dX10_job_61 : decode cX10_job 61 = .ok (.iastore, 1) := by decide +kernel
set_option maxRecDepth 20000 in
theorem dX10_job_62 : decode cX10_job 62 = .ok (.iload 7, 2) := by decide +kernel
set_option maxRecDepth 20000 in
theorem dX10_job_64 : decode cX10_job 64 = .ok (.tableswitch 126 2 5 #[44, 59, 78, 32], 32) := by decide +kernel
set_option maxRecDepth 20000 in
theorem dX10_job_96 : decode cX10_job 96 = .ok (.aload_n 0, 1) := by decide +kernel
set_option maxRecDepth 20000 in
theorem dX10_job_97 : decode cX10_job 97 = .ok (.iload_n 2, 1) := by decide +kernel
set_option maxRecDepth 20000 in
theorem dX10_job_98 : decode cX10_job 98 = .ok (.iload 4, 2) := by decide +kernel
set_option maxRecDepth 20000 in
theorem dX10_job_100 : decode cX10_job 100 = .ok (.iload 5, 2) := by decide +kernel
set_option maxRecDepth 20000 in
theorem dX10_job_102 : decode cX10_job 102 = .ok (.invokevirtual 276, 3) := by decide +kernel
set_option maxRecDepth 20000 in
theorem dX10_job_105 : decode cX10_job 105 = .ok (.goto 155, 3) := by decide +kernel
set_option maxRecDepth 20000 in
theorem dX10_job_108 : decode cX10_job 108 = .ok (.aload_n 0, 1) := by decide +kernel
set_option maxRecDepth 20000 in
theorem dX10_job_109 : decode cX10_job 109 = .ok (.iload_n 2, 1) := by decide +kernel
set_option maxRecDepth 20000 in
theorem dX10_job_110 : decode cX10_job 110 = .ok (.iload 6, 2) := by decide +kernel
set_option maxRecDepth 20000 in
theorem dX10_job_112 : decode cX10_job 112 = .ok (.iload 4, 2) := by decide +kernel
set_option maxRecDepth 20000 in
theorem dX10_job_114 : decode cX10_job 114 = .ok (.iload 5, 2) := by decide +kernel
set_option maxRecDepth 20000 in
theorem dX10_job_116 : decode cX10_job 116 = .ok (.iload_n 3, 1) := by decide +kernel
set_option maxRecDepth 20000 in
theorem dX10_job_117 : decode cX10_job 117 = .ok (.invokevirtual 230, 3) := by decide +kernel
set_option maxRecDepth 20000 in
theorem dX10_job_120 : decode cX10_job 120 = .ok (.goto 140, 3) := by decide +kernel
set_option maxRecDepth 20000 in
theorem dX10_job_123 : decode cX10_job 123 = .ok (.aload_n 0, 1) := by decide +kernel
set_option maxRecDepth 20000 in
theorem dX10_job_124 : decode cX10_job 124 = .ok (.iload_n 2, 1) := by decide +kernel
set_option maxRecDepth 20000 in
theorem dX10_job_125 : decode cX10_job 125 = .ok (.iload_n 3, 1) := by decide +kernel
set_option maxRecDepth 20000 in
theorem dX10_job_126 : decode cX10_job 126 = .ok (.aload_n 0, 1) := by decide +kernel
set_option maxRecDepth 20000 in
theorem dX10_job_127 : decode cX10_job 127 = .ok (.getfield 56, 3) := by decide +kernel
set_option maxRecDepth 20000 in
theorem dX10_job_130 : decode cX10_job 130 = .ok (.iload_n 1, 1) := by decide +kernel
set_option maxRecDepth 20000 in
theorem dX10_job_131 : decode cX10_job 131 = .ok (.iaload, 1) := by decide +kernel
set_option maxRecDepth 20000 in
theorem dX10_job_132 : decode cX10_job 132 = .ok (.iload 4, 2) := by decide +kernel
set_option maxRecDepth 20000 in
theorem dX10_job_134 : decode cX10_job 134 = .ok (.iload 5, 2) := by decide +kernel
set_option maxRecDepth 20000 in
theorem dX10_job_136 : decode cX10_job 136 = .ok (.invokevirtual 279, 3) := by decide +kernel
set_option maxRecDepth 20000 in
theorem dX10_job_139 : decode cX10_job 139 = .ok (.goto 121, 3) := by decide +kernel
set_option maxRecDepth 20000 in
theorem dX10_job_142 : decode cX10_job 142 = .ok (.aload_n 0, 1) := by decide +kernel
set_option maxRecDepth 20000 in
theorem dX10_job_143 : decode cX10_job 143 = .ok (.getfield 35, 3) := by decide +kernel
set_option maxRecDepth 20000 in
theorem dX10_job_146 : decode cX10_job 146 = .ok (.iload_n 2, 1) := by decide +kernel
set_option maxRecDepth 20000 in
theorem dX10_job_147 : decode cX10_job 147 = .ok (.iconst 0, 1) := by decide +kernel
set_option maxRecDepth 20000 in
theorem dX10_job_148 : decode cX10_job 148 = .ok (.bastore, 1) := by decide +kernel
set_option maxRecDepth 20000 in
theorem dX10_job_149 : decode cX10_job 149 = .ok (.aload_n 0, 1) := by decide +kernel
set_option maxRecDepth 20000 in
theorem dX10_job_150 : decode cX10_job 150 = .ok (.aload_n 0, 1) := by decide +kernel
set_option maxRecDepth 20000 in
theorem dX10_job_151 : decode cX10_job 151 = .ok (.getfield 22, 3) := by decide +kernel
set_option maxRecDepth 20000 in
theorem dX10_job_154 : decode cX10_job 154 = .ok (.iload_n 2, 1) := by decide +kernel
set_option maxRecDepth 20000 in
theorem dX10_job_155 : decode cX10_job 155 = .ok (.iaload, 1) := by decide +kernel
set_option maxRecDepth 20000 in
theorem dX10_job_156 : decode cX10_job 156 = .ok (.aload_n 0, 1) := by decide +kernel
set_option maxRecDepth 20000 in
theorem dX10_job_157 : decode cX10_job 157 = .ok (.getfield 25, 3) := by decide +kernel
set_option maxRecDepth 20000 in
theorem dX10_job_160 : decode cX10_job 160 = .ok (.iload_n 2, 1) := by decide +kernel
set_option maxRecDepth 20000 in
theorem dX10_job_161 : decode cX10_job 161 = .ok (.iaload, 1) := by decide +kernel
set_option maxRecDepth 20000 in
theorem dX10_job_162 : decode cX10_job 162 = .ok (.iload 4, 2) := by decide +kernel
set_option maxRecDepth 20000 in
theorem dX10_job_164 : decode cX10_job 164 = .ok (.iload 5, 2) := by decide +kernel
set_option maxRecDepth 20000 in
theorem dX10_job_166 : decode cX10_job 166 = .ok (.iload_n 2, 1) := by decide +kernel
set_option maxRecDepth 20000 in
theorem dX10_job_167 : decode cX10_job 167 = .ok (.invokevirtual 256, 3) := by decide +kernel
set_option maxRecDepth 20000 in
theorem dX10_job_170 : decode cX10_job 170 = .ok (.iload 6, 2) := by decide +kernel
set_option maxRecDepth 20000 in
theorem dX10_job_172 : decode cX10_job 172 = .ok (.ifCond .eq 11, 3) := by decide +kernel
set_option maxRecDepth 20000 in
theorem dX10_job_175 : decode cX10_job 175 = .ok (.aload_n 0, 1) := by decide +kernel
set_option maxRecDepth 20000 in
theorem dX10_job_176 : decode cX10_job 176 = .ok (.iload 4, 2) := by decide +kernel
set_option maxRecDepth 20000 in
theorem dX10_job_178 : decode cX10_job 178 = .ok (.iload 5, 2) := by decide +kernel
set_option maxRecDepth 20000 in
theorem dX10_job_180 : decode cX10_job 180 = .ok (.invokevirtual 244, 3) := by decide +kernel
set_option maxRecDepth 20000 in
theorem dX10_job_183 : decode cX10_job 183 = .ok (.aload_n 0, 1) := by decide +kernel
set_option maxRecDepth 20000 in
theorem dX10_job_184 : decode cX10_job 184 = .ok (.invokevirtual 270, 3) := by decide +kernel
set_option maxRecDepth 20000 in
theorem dX10_job_187 : decode cX10_job 187 = .ok (.goto 73, 3) := by decide +kernel
set_option maxRecDepth 20000 in
theorem dX10_job_190 : decode cX10_job 190 = .ok (.iload 6, 2) := by decide +kernel
set_option maxRecDepth 20000 in
theorem dX10_job_192 : decode cX10_job 192 = .ok (.ifCond .eq 7, 3) := by decide +kernel
set_option maxRecDepth 20000 in
theorem dX10_job_195 : decode cX10_job 195 = .ok (.iload_n 3, 1) := by decide +kernel
set_option maxRecDepth 20000 in
theorem dX10_job_196 : decode cX10_job 196 = .ok (.goto 4, 3) := by decide +kernel
set_option maxRecDepth 20000 in
theorem dX10_job_199 : decode cX10_job 199 = .ok (.iload_n 2, 1) := by decide +kernel
set_option maxRecDepth 20000 in
theorem dX10_job_200 : decode cX10_job 200 = .ok (.istore 8, 2) := by decide +kernel
set_option maxRecDepth 20000 in
theorem dX10_job_202 : decode cX10_job 202 = .ok (.aload_n 0, 1) := by decide +kernel
set_option maxRecDepth 20000 in
theorem dX10_job_203 : decode cX10_job 203 = .ok (.getfield 53, 3) := by decide +kernel
set_option maxRecDepth 20000 in
theorem dX10_job_206 : decode cX10_job 206 = .ok (.iload_n 1, 1) := by decide +kernel
set_option maxRecDepth 20000 in
theorem dX10_job_207 : decode cX10_job 207 = .ok (.iaload, 1) := by decide +kernel
set_option maxRecDepth 20000 in
theorem dX10_job_208 : decode cX10_job 208 = .ok (.istore 9, 2) := by decide +kernel
set_option maxRecDepth 20000 in
theorem dX10_job_210 : decode cX10_job 210 = .ok (.iload 8, 2) := by decide +kernel
set_option maxRecDepth 20000 in
theorem dX10_job_212 : decode cX10_job 212 = .ok (.ifCond .ge 19, 3) := by decide +kernel
set_option maxRecDepth 20000 in
theorem dX10_job_215 : decode cX10_job 215 = .ok (.aload_n 0, 1) := by decide +kernel
set_option maxRecDepth 20000 in
theorem dX10_job_216 : decode cX10_job 216 = .ok (.iload 9, 2) := by decide +kernel
set_option maxRecDepth 20000 in
theorem dX10_job_218 : decode cX10_job 218 = .ok (.iload 6, 2) := by decide +kernel
set_option maxRecDepth 20000 in
theorem dX10_job_220 : decode cX10_job 220 = .ok (.iload 4, 2) := by decide +kernel
set_option maxRecDepth 20000 in
theorem dX10_job_222 : decode cX10_job 222 = .ok (.iload 5, 2) := by decide +kernel
set_option maxRecDepth 20000 in
theorem dX10_job_224 : decode cX10_job 224 = .ok (.iconst 0, 1) := by decide +kernel
set_option maxRecDepth 20000 in
theorem dX10_job_225 : decode cX10_job 225 = .ok (.invokevirtual 230, 3) := by decide +kernel
set_option maxRecDepth 20000 in
theorem dX10_job_228 : decode cX10_job 228 = .ok (.goto 32, 3) := by decide +kernel
set_option maxRecDepth 20000 in
theorem dX10_job_231 : decode cX10_job 231 = .ok (.aload_n 0, 1) := by decide +kernel
set_option maxRecDepth 20000 in
theorem dX10_job_232 : decode cX10_job 232 = .ok (.iload 8, 2) := by decide +kernel
set_option maxRecDepth 20000 in
theorem dX10_job_234 : decode cX10_job 234 = .ok (.iload 4, 2) := by decide +kernel
set_option maxRecDepth 20000 in
theorem dX10_job_236 : decode cX10_job 236 = .ok (.iload 5, 2) := by decide +kernel
set_option maxRecDepth 20000 in
theorem dX10_job_238 : decode cX10_job 238 = .ok (.invokevirtual 282, 3) := by decide +kernel
set_option maxRecDepth 20000 in
theorem dX10_job_241 : decode cX10_job 241 = .ok (.aload_n 0, 1) := by decide +kernel
set_option maxRecDepth 20000 in
theorem dX10_job_242 : decode cX10_job 242 = .ok (.iload 9, 2) := by decide +kernel
set_option maxRecDepth 20000 in
theorem dX10_job_244 : decode cX10_job 244 = .ok (.aload_n 0, 1) := by decide +kernel
set_option maxRecDepth 20000 in
theorem dX10_job_245 : decode cX10_job 245 = .ok (.getfield 234, 3) := by decide +kernel
set_option maxRecDepth 20000 in
theorem dX10_job_248 : decode cX10_job 248 = .ok (.aload_n 0, 1) := by decide +kernel
set_option maxRecDepth 20000 in
theorem dX10_job_249 : decode cX10_job 249 = .ok (.getfield 238, 3) := by decide +kernel
set_option maxRecDepth 20000 in
theorem dX10_job_252 : decode cX10_job 252 = .ok (.aload_n 0, 1) := by decide +kernel
set_option maxRecDepth 20000 in
theorem dX10_job_253 : decode cX10_job 253 = .ok (.getfield 241, 3) := by decide +kernel
set_option maxRecDepth 20000 in
theorem dX10_job_256 : decode cX10_job 256 = .ok (.iconst 0, 1) := by decide +kernel
set_option maxRecDepth 20000 in
theorem dX10_job_257 : decode cX10_job 257 = .ok (.invokevirtual 230, 3) := by decide +kernel
set_option maxRecDepth 20000 in
theorem dX10_job_260 : decode cX10_job 260 = .ok (.return_, 1) := by decide +kernel
set_option maxRecDepth 20000 in
theorem dX10_turn_0 : decode cX10_turn 0 = .ok (.aload_n 0, 1) := by decide +kernel
set_option maxRecDepth 20000 in
theorem dX10_turn_1 : decode cX10_turn 1 = .ok (.iconst 0, 1) := by decide +kernel
set_option maxRecDepth 20000 in
theorem dX10_turn_2 : decode cX10_turn 2 = .ok (.putfield 263, 3) := by decide +kernel
set_option maxRecDepth 20000 in
theorem dX10_turn_5 : decode cX10_turn 5 = .ok (.aload_n 0, 1) := by decide +kernel
set_option maxRecDepth 20000 in
theorem dX10_turn_6 : decode cX10_turn 6 = .ok (.iconst (-1), 1) := by decide +kernel
set_option maxRecDepth 20000 in
theorem dX10_turn_7 : decode cX10_turn 7 = .ok (.putfield 215, 3) := by decide +kernel
set_option maxRecDepth 20000 in
theorem dX10_turn_10 : decode cX10_turn 10 = .ok (.aload_n 0, 1) := by decide +kernel
set_option maxRecDepth 20000 in
theorem dX10_turn_11 : decode cX10_turn 11 = .ok (.iconst (-1), 1) := by decide +kernel
set_option maxRecDepth 20000 in
theorem dX10_turn_12 : decode cX10_turn 12 = .ok (.invokevirtual 179, 3) := by decide +kernel
set_option maxRecDepth 20000 in
theorem dX10_turn_15 : decode cX10_turn 15 = .ok (.istore_n 1, 1) := by decide +kernel
set_option maxRecDepth 20000 in
theorem dX10_turn_16 : decode cX10_turn 16 = .ok (.iload_n 1, 1) := by decide +kernel
set_option maxRecDepth 20000 in
theorem dX10_turn_17 : decode cX10_turn 17 = .ok (.ifCond .lt 20, 3) := by decide +kernel
set_option maxRecDepth 20000 in
theorem dX10_turn_20 : decode cX10_turn 20 = .ok (.aload_n 0, 1) := by decide +kernel
set_option maxRecDepth 20000 in
theorem dX10_turn_21 : decode cX10_turn 21 = .ok (.dup, 1) := by decide +kernel
set_option maxRecDepth 20000 in
theorem dX10_turn_22 : decode cX10_turn 22 = .ok (.getfield 165, 3) := by decide +kernel
set_option maxRecDepth 20000 in
theorem dX10_turn_25 : decode cX10_turn 25 = .ok (.iconst 1, 1) := by decide +kernel
set_option maxRecDepth 20000 in
theorem dX10_turn_26 : decode cX10_turn 26 = .ok (.iadd, 1) := by decide +kernel
set_option maxRecDepth 20000 in
theorem dX10_turn_27 : decode cX10_turn 27 = .ok (.putfield 165, 3) := by decide +kernel
set_option maxRecDepth 20000 in
theorem dX10_turn_30 : decode cX10_turn 30 = .ok (.aload_n 0, 1) := by decide +kernel
set_option maxRecDepth 20000 in
theorem dX10_turn_31 : decode cX10_turn 31 = .ok (.iload_n 1, 1) := by decide +kernel
set_option maxRecDepth 20000 in
theorem dX10_turn_32 : decode cX10_turn 32 = .ok (.invokevirtual 285, 3) := by decide +kernel
set_option maxRecDepth 20000 in
theorem dX10_turn_35 : decode cX10_turn 35 = .ok (.iconst 1, 1) := by decide +kernel
set_option maxRecDepth 20000 in
theorem dX10_turn_36 : decode cX10_turn 36 = .ok (.ireturn, 1) := by decide +kernel
set_option maxRecDepth 20000 in
theorem dX10_turn_37 : decode cX10_turn 37 = .ok (.iconst (-1), 1) := by decide +kernel
set_option maxRecDepth 20000 in
theorem dX10_turn_38 : decode cX10_turn 38 = .ok (.istore_n 2, 1) := by decide +kernel
set_option maxRecDepth 20000 in
theorem dX10_turn_39 : decode cX10_turn 39 = .ok (.iconst 0, 1) := by decide +kernel
set_option maxRecDepth 20000 in
theorem dX10_turn_40 : decode cX10_turn 40 = .ok (.istore_n 3, 1) := by decide +kernel
set_option maxRecDepth 20000 in
theorem dX10_turn_41 : decode cX10_turn 41 = .ok (.iload_n 3, 1) := by decide +kernel
set_option maxRecDepth 20000 in
theorem dX10_turn_42 : decode cX10_turn 42 = .ok (.bipush 32, 2) := by decide +kernel
set_option maxRecDepth 20000 in
theorem dX10_turn_44 : decode cX10_turn 44 = .ok (.if_icmp .ge 72, 3) := by decide +kernel
set_option maxRecDepth 20000 in
theorem dX10_turn_47 : decode cX10_turn 47 = .ok (.aload_n 0, 1) := by decide +kernel
set_option maxRecDepth 20000 in
theorem dX10_turn_48 : decode cX10_turn 48 = .ok (.getfield 110, 3) := by decide +kernel
set_option maxRecDepth 20000 in
theorem dX10_turn_51 : decode cX10_turn 51 = .ok (.iload_n 3, 1) := by decide +kernel
set_option maxRecDepth 20000 in
theorem dX10_turn_52 : decode cX10_turn 52 = .ok (.iaload, 1) := by decide +kernel
set_option maxRecDepth 20000 in
theorem dX10_turn_53 : decode cX10_turn 53 = .ok (.ifCond .ge 6, 3) := by decide +kernel
set_option maxRecDepth 20000 in
theorem dX10_turn_56 : decode cX10_turn 56 = .ok (.goto 54, 3) := by decide +kernel
set_option maxRecDepth 20000 in
theorem dX10_turn_59 : decode cX10_turn 59 = .ok (.iload_n 2, 1) := by decide +kernel
set_option maxRecDepth 20000 in
theorem dX10_turn_60 : decode cX10_turn 60 = .ok (.ifCond .lt 48, 3) := by decide +kernel
set_option maxRecDepth 20000 in
theorem dX10_turn_63 : decode cX10_turn 63 = .ok (.aload_n 0, 1) := by decide +kernel
set_option maxRecDepth 20000 in
theorem dX10_turn_64 : decode cX10_turn 64 = .ok (.getfield 110, 3) := by decide +kernel
set_option maxRecDepth 20000 in
theorem dX10_turn_67 : decode cX10_turn 67 = .ok (.iload_n 3, 1) := by decide +kernel
set_option maxRecDepth 20000 in
theorem dX10_turn_68 : decode cX10_turn 68 = .ok (.iaload, 1) := by decide +kernel
set_option maxRecDepth 20000 in
theorem dX10_turn_69 : decode cX10_turn 69 = .ok (.aload_n 0, 1) := by decide +kernel
set_option maxRecDepth 20000 in
theorem dX10_turn_70 : decode cX10_turn 70 = .ok (.getfield 110, 3) := by decide +kernel
set_option maxRecDepth 20000 in
theorem dX10_turn_73 : decode cX10_turn 73 = .ok (.iload_n 2, 1) := by decide +kernel
set_option maxRecDepth 20000 in
theorem dX10_turn_74 : decode cX10_turn 74 = .ok (.iaload, 1) := by decide +kernel
set_option maxRecDepth 20000 in
theorem dX10_turn_75 : decode cX10_turn 75 = .ok (.if_icmp .lt 33, 3) := by decide +kernel
set_option maxRecDepth 20000 in
theorem dX10_turn_78 : decode cX10_turn 78 = .ok (.aload_n 0, 1) := by decide +kernel
set_option maxRecDepth 20000 in
theorem dX10_turn_79 : decode cX10_turn 79 = .ok (.getfield 110, 3) := by decide +kernel
set_option maxRecDepth 20000 in
theorem dX10_turn_82 : decode cX10_turn 82 = .ok (.iload_n 3, 1) := by decide +kernel
set_option maxRecDepth 20000 in
theorem dX10_turn_83 : decode cX10_turn 83 = .ok (.iaload, 1) := by decide +kernel
set_option maxRecDepth 20000 in
theorem dX10_turn_84 : decode cX10_turn 84 = .ok (.aload_n 0, 1) := by decide +kernel
set_option maxRecDepth 20000 in
theorem dX10_turn_85 : decode cX10_turn 85 = .ok (.getfield 110, 3) := by decide +kernel
set_option maxRecDepth 20000 in
theorem dX10_turn_88 : decode cX10_turn 88 = .ok (.iload_n 2, 1) := by decide +kernel
set_option maxRecDepth 20000 in
theorem dX10_turn_89 : decode cX10_turn 89 = .ok (.iaload, 1) := by decide +kernel
set_option maxRecDepth 20000 in
theorem dX10_turn_90 : decode cX10_turn 90 = .ok (.if_icmp .ne 20, 3) := by decide +kernel
set_option maxRecDepth 20000 in
theorem dX10_turn_93 : decode cX10_turn 93 = .ok (.aload_n 0, 1) := by decide +kernel
set_option maxRecDepth 20000 in
theorem dX10_turn_94 : decode cX10_turn 94 = .ok (.getfield 113, 3) := by decide +kernel
set_option maxRecDepth 20000 in
theorem dX10_turn_97 : decode cX10_turn 97 = .ok (.iload_n 3, 1) := by decide +kernel
set_option maxRecDepth 20000 in
theorem dX10_turn_98 : decode cX10_turn 98 = .ok (.iaload, 1) := by decide +kernel
set_option maxRecDepth 20000 in
theorem dX10_turn_99 : decode cX10_turn 99 = .ok (.aload_n 0, 1) := by decide +kernel
set_option maxRecDepth 20000 in
theorem dX10_turn_100 : decode cX10_turn 100 = .ok (.getfield 113, 3) := by decide +kernel
set_option maxRecDepth 20000 in
theorem dX10_turn_103 : decode cX10_turn 103 = .ok (.iload_n 2, 1) := by decide +kernel
set_option maxRecDepth 20000 in
theorem dX10_turn_104 : decode cX10_turn 104 = .ok (.iaload, 1) := by decide +kernel
set_option maxRecDepth 20000 in
theorem dX10_turn_105 : decode cX10_turn 105 = .ok (.if_icmp .ge 5, 3) := by decide +kernel
set_option maxRecDepth 20000 in
theorem dX10_turn_108 : decode cX10_turn 108 = .ok (.iload_n 3, 1) := by decide +kernel
set_option maxRecDepth 20000 in
theorem dX10_turn_109 : decode cX10_turn 109 = .ok (.istore_n 2, 1) := by decide +kernel
set_option maxRecDepth 20000 in
theorem dX10_turn_110 : decode cX10_turn 110 = .ok (.iinc 3 1, 3) := by decide +kernel
set_option maxRecDepth 20000 in
theorem dX10_turn_113 : decode cX10_turn 113 = .ok (.goto (-72), 3) := by decide +kernel
set_option maxRecDepth 20000 in
theorem dX10_turn_116 : decode cX10_turn 116 = .ok (.iload_n 2, 1) := by decide +kernel
set_option maxRecDepth 20000 in
theorem dX10_turn_117 : decode cX10_turn 117 = .ok (.ifCond .ge 5, 3) := by decide +kernel
set_option maxRecDepth 20000 in
theorem dX10_turn_120 : decode cX10_turn 120 = .ok (.iconst 0, 1) := by decide +kernel
set_option maxRecDepth 20000 in
theorem dX10_turn_121 : decode cX10_turn 121 = .ok (.ireturn, 1) := by decide +kernel
set_option maxRecDepth 20000 in
theorem dX10_turn_122 : decode cX10_turn 122 = .ok (.aload_n 0, 1) := by decide +kernel
set_option maxRecDepth 20000 in
theorem dX10_turn_123 : decode cX10_turn 123 = .ok (.dup, 1) := by decide +kernel
set_option maxRecDepth 20000 in
theorem dX10_turn_124 : decode cX10_turn 124 = .ok (.getfield 165, 3) := by decide +kernel
set_option maxRecDepth 20000 in
theorem dX10_turn_127 : decode cX10_turn 127 = .ok (.iconst 1, 1) := by decide +kernel
set_option maxRecDepth 20000 in
theorem dX10_turn_128 : decode cX10_turn 128 = .ok (.iadd, 1) := by decide +kernel
set_option maxRecDepth 20000 in
theorem dX10_turn_129 : decode cX10_turn 129 = .ok (.putfield 165, 3) := by decide +kernel
set_option maxRecDepth 20000 in
theorem dX10_turn_132 : decode cX10_turn 132 = .ok (.aload_n 0, 1) := by decide +kernel
set_option maxRecDepth 20000 in
theorem dX10_turn_133 : decode cX10_turn 133 = .ok (.getfield 110, 3) := by decide +kernel
set_option maxRecDepth 20000 in
theorem dX10_turn_136 : decode cX10_turn 136 = .ok (.iload_n 2, 1) := by decide +kernel
set_option maxRecDepth 20000 in
theorem dX10_turn_137 : decode cX10_turn 137 = .ok (.iaload, 1) := by decide +kernel
set_option maxRecDepth 20000 in
theorem dX10_turn_138 : decode cX10_turn 138 = .ok (.aload_n 0, 1) := by decide +kernel
set_option maxRecDepth 20000 in
theorem dX10_turn_139 : decode cX10_turn 139 = .ok (.getfield 162, 3) := by decide +kernel
set_option maxRecDepth 20000 in
theorem dX10_turn_142 : decode cX10_turn 142 = .ok (.if_icmp .le 13, 3) := by decide +kernel
set_option maxRecDepth 20000 in
theorem dX10_turn_145 : decode cX10_turn 145 = .ok (.aload_n 0, 1) := by decide +kernel
set_option maxRecDepth 20000 in
theorem dX10_turn_146 : decode cX10_turn 146 = .ok (.aload_n 0, 1) := by decide +kernel
set_option maxRecDepth 20000 in
theorem dX10_turn_147 : decode cX10_turn 147 = .ok (.getfield 110, 3) := by decide +kernel
set_option maxRecDepth 20000 in
theorem dX10_turn_150 : decode cX10_turn 150 = .ok (.iload_n 2, 1) := by decide +kernel
set_option maxRecDepth 20000 in
theorem dX10_turn_151 : decode cX10_turn 151 = .ok (.iaload, 1) := by decide +kernel
set_option maxRecDepth 20000 in
theorem dX10_turn_152 : decode cX10_turn 152 = .ok (.putfield 162, 3) := by decide +kernel
set_option maxRecDepth 20000 in
theorem dX10_turn_155 : decode cX10_turn 155 = .ok (.aload_n 0, 1) := by decide +kernel
set_option maxRecDepth 20000 in
theorem dX10_turn_156 : decode cX10_turn 156 = .ok (.getfield 110, 3) := by decide +kernel
set_option maxRecDepth 20000 in
theorem dX10_turn_159 : decode cX10_turn 159 = .ok (.iload_n 2, 1) := by decide +kernel
set_option maxRecDepth 20000 in
theorem dX10_turn_160 : decode cX10_turn 160 = .ok (.iconst (-1), 1) := by decide +kernel
set_option maxRecDepth 20000 in
theorem dX10_turn_161 : decode cX10_turn 161 = .ok (.iastore, 1) := by decide +kernel
set_option maxRecDepth 20000 in
theorem dX10_turn_162 : decode cX10_turn 162 = .ok (.aload_n 0, 1) := by decide +kernel
set_option maxRecDepth 20000 in
theorem dX10_turn_163 : decode cX10_turn 163 = .ok (.aload_n 0, 1) := by decide +kernel
set_option maxRecDepth 20000 in
theorem dX10_turn_164 : decode cX10_turn 164 = .ok (.getfield 116, 3) := by decide +kernel
set_option maxRecDepth 20000 in
theorem dX10_turn_167 : decode cX10_turn 167 = .ok (.iload_n 2, 1) := by decide +kernel
set_option maxRecDepth 20000 in
theorem dX10_turn_168 : decode cX10_turn 168 = .ok (.iaload, 1) := by decide +kernel
set_option maxRecDepth 20000 in
theorem dX10_turn_169 : decode cX10_turn 169 = .ok (.aload_n 0, 1) := by decide +kernel
set_option maxRecDepth 20000 in
theorem dX10_turn_170 : decode cX10_turn 170 = .ok (.getfield 119, 3) := by decide +kernel
set_option maxRecDepth 20000 in
theorem dX10_turn_173 : decode cX10_turn 173 = .ok (.iload_n 2, 1) := by decide +kernel
set_option maxRecDepth 20000 in
theorem dX10_turn_174 : decode cX10_turn 174 = .ok (.iaload, 1) := by decide +kernel
set_option maxRecDepth 20000 in
theorem dX10_turn_175 : decode cX10_turn 175 = .ok (.aload_n 0, 1) := by decide +kernel
set_option maxRecDepth 20000 in
theorem dX10_turn_176 : decode cX10_turn 176 = .ok (.getfield 122, 3) := by decide +kernel
set_option maxRecDepth 20000 in
theorem dX10_turn_179 : decode cX10_turn 179 = .ok (.iload_n 2, 1) := by decide +kernel
set_option maxRecDepth 20000 in
theorem dX10_turn_180 : decode cX10_turn 180 = .ok (.iaload, 1) := by decide +kernel
set_option maxRecDepth 20000 in
theorem dX10_turn_181 : decode cX10_turn 181 = .ok (.invokevirtual 282, 3) := by decide +kernel
set_option maxRecDepth 20000 in
theorem dX10_turn_184 : decode cX10_turn 184 = .ok (.iconst 1, 1) := by decide +kernel
set_option maxRecDepth 20000 in
theorem dX10_turn_185 : decode cX10_turn 185 = .ok (.ireturn, 1) := by decide +kernel
set_option maxRecDepth 20000 in
theorem dX10_run_0 : decode cX10_run 0 = .ok (.iload_n 1, 1) := by decide +kernel
set_option maxRecDepth 20000 in
theorem dX10_run_1 : decode cX10_run 1 = .ok (.iconst 0, 1) := by decide +kernel
set_option maxRecDepth 20000 in
theorem dX10_run_2 : decode cX10_run 2 = .ok (.bipush 60, 2) := by decide +kernel
set_option maxRecDepth 20000 in
theorem dX10_run_4 : decode cX10_run 4 = .ok (.invokestatic 171, 3) := by decide +kernel
set_option maxRecDepth 20000 in
theorem dX10_run_7 : decode cX10_run 7 = .ok (.ifCond .ne 5, 3) := by decide +kernel
set_option maxRecDepth 20000 in
theorem dX10_run_10 : decode cX10_run 10 = .ok (.iconst (-1), 1) := by decide +kernel
set_option maxRecDepth 20000 in
theorem dX10_run_11 : decode cX10_run 11 = .ok (.ireturn, 1) := by decide +kernel
set_option maxRecDepth 20000 in
theorem dX10_run_12 : decode cX10_run 12 = .ok (.iconst 0, 1) := by decide +kernel
set_option maxRecDepth 20000 in
theorem dX10_run_13 : decode cX10_run 13 = .ok (.istore_n 2, 1) := by decide +kernel
set_option maxRecDepth 20000 in
theorem dX10_run_14 : decode cX10_run 14 = .ok (.iconst 1, 1) := by decide +kernel
set_option maxRecDepth 20000 in
theorem dX10_run_15 : decode cX10_run 15 = .ok (.istore_n 3, 1) := by decide +kernel
set_option maxRecDepth 20000 in
theorem dX10_run_16 : decode cX10_run 16 = .ok (.iload_n 2, 1) := by decide +kernel
set_option maxRecDepth 20000 in
theorem dX10_run_17 : decode cX10_run 17 = .ok (.iload_n 1, 1) := by decide +kernel
set_option maxRecDepth 20000 in
theorem dX10_run_18 : decode cX10_run 18 = .ok (.if_icmp .ge 22, 3) := by decide +kernel
set_option maxRecDepth 20000 in
theorem dX10_run_21 : decode cX10_run 21 = .ok (.iload_n 3, 1) := by decide +kernel
set_option maxRecDepth 20000 in
theorem dX10_run_22 : decode cX10_run 22 = .ok (.ifCond .eq 18, 3) := by decide +kernel
set_option maxRecDepth 20000 in
theorem dX10_run_25 : decode cX10_run 25 = .ok (.aload_n 0, 1) := by decide +kernel
set_option maxRecDepth 20000 in
theorem dX10_run_26 : decode cX10_run 26 = .ok (.invokevirtual 289, 3) := by decide +kernel
set_option maxRecDepth 20000 in
theorem dX10_run_29 : decode cX10_run 29 = .ok (.istore_n 3, 1) := by decide +kernel
set_option maxRecDepth 20000 in
theorem dX10_run_30 : decode cX10_run 30 = .ok (.iload_n 3, 1) := by decide +kernel
set_option maxRecDepth 20000 in
theorem dX10_run_31 : decode cX10_run 31 = .ok (.ifCond .eq (-15), 3) := by decide +kernel
set_option maxRecDepth 20000 in
theorem dX10_run_34 : decode cX10_run 34 = .ok (.iinc 2 1, 3) := by decide +kernel
set_option maxRecDepth 20000 in
theorem dX10_run_37 : decode cX10_run 37 = .ok (.goto (-21), 3) := by decide +kernel
set_option maxRecDepth 20000 in
theorem dX10_run_40 : decode cX10_run 40 = .ok (.iload_n 2, 1) := by decide +kernel
set_option maxRecDepth 20000 in
theorem dX10_run_41 : decode cX10_run 41 = .ok (.ireturn, 1) := by decide +kernel
set_option maxRecDepth 20000 in
theorem dX10_forget_0 : decode cX10_forget 0 = .ok (.aload_n 0, 1) := by decide +kernel
set_option maxRecDepth 20000 in
theorem dX10_forget_1 : decode cX10_forget 1 = .ok (.getfield 152, 3) := by decide +kernel
set_option maxRecDepth 20000 in
theorem dX10_forget_4 : decode cX10_forget 4 = .ok (.istore_n 1, 1) := by decide +kernel
set_option maxRecDepth 20000 in
theorem dX10_forget_5 : decode cX10_forget 5 = .ok (.aload_n 0, 1) := by decide +kernel
set_option maxRecDepth 20000 in
theorem dX10_forget_6 : decode cX10_forget 6 = .ok (.invokevirtual 149, 3) := by decide +kernel
set_option maxRecDepth 20000 in
theorem dX10_forget_9 : decode cX10_forget 9 = .ok (.iload_n 1, 1) := by decide +kernel
set_option maxRecDepth 20000 in
theorem dX10_forget_10 : decode cX10_forget 10 = .ok (.ireturn, 1) := by decide +kernel
set_option maxRecDepth 20000 in
theorem dX10_isLoose_0 : decode cX10_isLoose 0 = .ok (.aload_n 0, 1) := by decide +kernel
set_option maxRecDepth 20000 in
theorem dX10_isLoose_1 : decode cX10_isLoose 1 = .ok (.getfield 7, 3) := by decide +kernel
set_option maxRecDepth 20000 in
theorem dX10_isLoose_4 : decode cX10_isLoose 4 = .ok (.iload_n 1, 1) := by decide +kernel
set_option maxRecDepth 20000 in
theorem dX10_isLoose_5 : decode cX10_isLoose 5 = .ok (.iaload, 1) := by decide +kernel
set_option maxRecDepth 20000 in
theorem dX10_isLoose_6 : decode cX10_isLoose 6 = .ok (.iconst 2, 1) := by decide +kernel
set_option maxRecDepth 20000 in
theorem dX10_isLoose_7 : decode cX10_isLoose 7 = .ok (.if_icmp .ne 16, 3) := by decide +kernel
set_option maxRecDepth 20000 in
theorem dX10_isLoose_10 : decode cX10_isLoose 10 = .ok (.aload_n 0, 1) := by decide +kernel
set_option maxRecDepth 20000 in
theorem dX10_isLoose_11 : decode cX10_isLoose 11 = .ok (.getfield 32, 3) := by decide +kernel
set_option maxRecDepth 20000 in
theorem dX10_isLoose_14 : decode cX10_isLoose 14 = .ok (.iload_n 1, 1) := by decide +kernel
set_option maxRecDepth 20000 in
theorem dX10_isLoose_15 : decode cX10_isLoose 15 = .ok (.baload, 1) := by decide +kernel
set_option maxRecDepth 20000 in
theorem dX10_isLoose_16 : decode cX10_isLoose 16 = .ok (.ifCond .ne 7, 3) := by decide +kernel
set_option maxRecDepth 20000 in
theorem dX10_isLoose_19 : decode cX10_isLoose 19 = .ok (.iconst 1, 1) := by decide +kernel
set_option maxRecDepth 20000 in
theorem dX10_isLoose_20 : decode cX10_isLoose 20 = .ok (.goto 4, 3) := by decide +kernel
set_option maxRecDepth 20000 in
theorem dX10_isLoose_23 : decode cX10_isLoose 23 = .ok (.iconst 0, 1) := by decide +kernel
set_option maxRecDepth 20000 in
theorem dX10_isLoose_24 : decode cX10_isLoose 24 = .ok (.ireturn, 1) := by decide +kernel
set_option maxRecDepth 20000 in
theorem dX10_state_0 : decode cX10_state 0 = .ok (.aload_n 0, 1) := by decide +kernel
set_option maxRecDepth 20000 in
theorem dX10_state_1 : decode cX10_state 1 = .ok (.iload_n 1, 1) := by decide +kernel
set_option maxRecDepth 20000 in
theorem dX10_state_2 : decode cX10_state 2 = .ok (.invokevirtual 175, 3) := by decide +kernel
set_option maxRecDepth 20000 in
theorem dX10_state_5 : decode cX10_state 5 = .ok (.ifCond .ne 5, 3) := by decide +kernel
set_option maxRecDepth 20000 in
theorem dX10_state_8 : decode cX10_state 8 = .ok (.iconst (-1), 1) := by decide +kernel
set_option maxRecDepth 20000 in
theorem dX10_state_9 : decode cX10_state 9 = .ok (.ireturn, 1) := by decide +kernel
set_option maxRecDepth 20000 in
theorem dX10_state_10 : decode cX10_state 10 = .ok (.iload_n 2, 1) := by decide +kernel
set_option maxRecDepth 20000 in
theorem dX10_state_11 : decode cX10_state 11 = .ok (.tableswitch 149 0 7 #[45, 52, 72, 92, 106, 112, 119, 134], 45) := by decide +kernel
set_option maxRecDepth 20000 in
theorem dX10_state_56 : decode cX10_state 56 = .ok (.aload_n 0, 1) := by decide +kernel
set_option maxRecDepth 20000 in
theorem dX10_state_57 : decode cX10_state 57 = .ok (.getfield 7, 3) := by decide +kernel
set_option maxRecDepth 20000 in
theorem dX10_state_60 : decode cX10_state 60 = .ok (.iload_n 1, 1) := by decide +kernel
set_option maxRecDepth 20000 in
theorem dX10_state_61 : decode cX10_state 61 = .ok (.iaload, 1) := by decide +kernel
set_option maxRecDepth 20000 in
theorem dX10_state_62 : decode cX10_state 62 = .ok (.ireturn, 1) := by decide +kernel
set_option maxRecDepth 20000 in
theorem dX10_state_63 : decode cX10_state 63 = .ok (.aload_n 0, 1) := by decide +kernel
set_option maxRecDepth 20000 in
theorem dX10_state_64 : decode cX10_state 64 = .ok (.getfield 7, 3) := by decide +kernel
set_option maxRecDepth 20000 in
theorem dX10_state_67 : decode cX10_state 67 = .ok (.iload_n 1, 1) := by decide +kernel
set_option maxRecDepth 20000 in
theorem dX10_state_68 : decode cX10_state 68 = .ok (.iaload, 1) := by decide +kernel
set_option maxRecDepth 20000 in
theorem dX10_state_69 : decode cX10_state 69 = .ok (.ifCond .ne 7, 3) := by decide +kernel
set_option maxRecDepth 20000 in
theorem dX10_state_72 : decode cX10_state 72 = .ok (.iconst (-1), 1) := by decide +kernel
set_option maxRecDepth 20000 in
theorem dX10_state_73 : decode cX10_state 73 = .ok (.goto 9, 3) := by decide +kernel
set_option maxRecDepth 20000 in
theorem dX10_state_76 : decode cX10_state 76 = .ok (.aload_n 0, 1) := by decide +kernel
set_option maxRecDepth 20000 in
theorem dX10_state_77 : decode cX10_state 77 = .ok (.getfield 13, 3) := by decide +kernel
set_option maxRecDepth 20000 in
theorem dX10_state_80 : decode cX10_state 80 = .ok (.iload_n 1, 1) := by decide +kernel
set_option maxRecDepth 20000 in
theorem dX10_state_81 : decode cX10_state 81 = .ok (.iaload, 1) := by decide +kernel
set_option maxRecDepth 20000 in
theorem dX10_state_82 : decode cX10_state 82 = .ok (.ireturn, 1) := by decide +kernel
set_option maxRecDepth 20000 in
theorem dX10_state_83 : decode cX10_state 83 = .ok (.aload_n 0, 1) := by decide +kernel
set_option maxRecDepth 20000 in
theorem dX10_state_84 : decode cX10_state 84 = .ok (.getfield 7, 3) := by decide +kernel
set_option maxRecDepth 20000 in
theorem dX10_state_87 : decode cX10_state 87 = .ok (.iload_n 1, 1) := by decide +kernel
set_option maxRecDepth 20000 in
theorem dX10_state_88 : decode cX10_state 88 = .ok (.iaload, 1) := by decide +kernel
set_option maxRecDepth 20000 in
theorem dX10_state_89 : decode cX10_state 89 = .ok (.ifCond .ne 7, 3) := by decide +kernel
set_option maxRecDepth 20000 in
theorem dX10_state_92 : decode cX10_state 92 = .ok (.iconst (-1), 1) := by decide +kernel
set_option maxRecDepth 20000 in
theorem dX10_state_93 : decode cX10_state 93 = .ok (.goto 9, 3) := by decide +kernel
set_option maxRecDepth 20000 in
theorem dX10_state_96 : decode cX10_state 96 = .ok (.aload_n 0, 1) := by decide +kernel
set_option maxRecDepth 20000 in
theorem dX10_state_97 : decode cX10_state 97 = .ok (.getfield 16, 3) := by decide +kernel
set_option maxRecDepth 20000 in
theorem dX10_state_100 : decode cX10_state 100 = .ok (.iload_n 1, 1) := by decide +kernel
set_option maxRecDepth 20000 in
theorem dX10_state_101 : decode cX10_state 101 = .ok (.iaload, 1) := by decide +kernel
set_option maxRecDepth 20000 in
theorem dX10_state_102 : decode cX10_state 102 = .ok (.ireturn, 1) := by decide +kernel
set_option maxRecDepth 20000 in
theorem dX10_state_103 : decode cX10_state 103 = .ok (.aload_n 0, 1) := by decide +kernel
set_option maxRecDepth 20000 in
theorem dX10_state_104 : decode cX10_state 104 = .ok (.iload_n 1, 1) := by decide +kernel
set_option maxRecDepth 20000 in
theorem dX10_state_105 : decode cX10_state 105 = .ok (.invokevirtual 293, 3) := by decide +kernel
set_option maxRecDepth 20000 in
theorem dX10_state_108 : decode cX10_state 108 = .ok (.ifCond .eq 7, 3) := by decide +kernel
set_option maxRecDepth 20000 in
theorem dX10_state_111 : decode cX10_state 111 = .ok (.iconst 1, 1) := by decide +kernel
set_option maxRecDepth 20000 in
theorem dX10_state_112 : decode cX10_state 112 = .ok (.goto 4, 3) := by decide +kernel
set_option maxRecDepth 20000 in
theorem dX10_state_115 : decode cX10_state 115 = .ok (.iconst 0, 1) := by decide +kernel
set_option maxRecDepth 20000 in
theorem dX10_state_116 : decode cX10_state 116 = .ok (.ireturn, 1) := by decide +kernel
set_option maxRecDepth 20000 in
theorem dX10_state_117 : decode cX10_state 117 = .ok (.aload_n 0, 1) := by decide +kernel
set_option maxRecDepth 20000 in
theorem dX10_state_118 : decode cX10_state 118 = .ok (.iload_n 1, 1) := by decide +kernel
set_option maxRecDepth 20000 in
theorem dX10_state_119 : decode cX10_state 119 = .ok (.invokevirtual 296, 3) := by decide +kernel
set_option maxRecDepth 20000 in
theorem dX10_state_122 : decode cX10_state 122 = .ok (.ireturn, 1) := by decide +kernel
set_option maxRecDepth 20000 in
theorem dX10_state_123 : decode cX10_state 123 = .ok (.aload_n 0, 1) := by decide +kernel
set_option maxRecDepth 20000 in
theorem dX10_state_124 : decode cX10_state 124 = .ok (.getfield 19, 3) := by decide +kernel
set_option maxRecDepth 20000 in
theorem dX10_state_127 : decode cX10_state 127 = .ok (.iload_n 1, 1) := by decide +kernel
set_option maxRecDepth 20000 in
theorem dX10_state_128 : decode cX10_state 128 = .ok (.iaload, 1) := by decide +kernel
set_option maxRecDepth 20000 in
theorem dX10_state_129 : decode cX10_state 129 = .ok (.ireturn, 1) := by decide +kernel
set_option maxRecDepth 20000 in
theorem dX10_state_130 : decode cX10_state 130 = .ok (.aload_n 0, 1) := by decide +kernel
set_option maxRecDepth 20000 in
theorem dX10_state_131 : decode cX10_state 131 = .ok (.getfield 28, 3) := by decide +kernel
set_option maxRecDepth 20000 in
theorem dX10_state_134 : decode cX10_state 134 = .ok (.iload_n 1, 1) := by decide +kernel
set_option maxRecDepth 20000 in
theorem dX10_state_135 : decode cX10_state 135 = .ok (.baload, 1) := by decide +kernel
set_option maxRecDepth 20000 in
theorem dX10_state_136 : decode cX10_state 136 = .ok (.ifCond .eq 7, 3) := by decide +kernel
set_option maxRecDepth 20000 in
theorem dX10_state_139 : decode cX10_state 139 = .ok (.iconst 1, 1) := by decide +kernel
set_option maxRecDepth 20000 in
theorem dX10_state_140 : decode cX10_state 140 = .ok (.goto 4, 3) := by decide +kernel
set_option maxRecDepth 20000 in
theorem dX10_state_143 : decode cX10_state 143 = .ok (.iconst 0, 1) := by decide +kernel
set_option maxRecDepth 20000 in
theorem dX10_state_144 : decode cX10_state 144 = .ok (.ireturn, 1) := by decide +kernel
set_option maxRecDepth 20000 in
theorem dX10_state_145 : decode cX10_state 145 = .ok (.aload_n 0, 1) := by decide +kernel
set_option maxRecDepth 20000 in
theorem dX10_state_146 : decode cX10_state 146 = .ok (.getfield 35, 3) := by decide +kernel
set_option maxRecDepth 20000 in
theorem dX10_state_149 : decode cX10_state 149 = .ok (.iload_n 1, 1) := by decide +kernel
set_option maxRecDepth 20000 in
theorem dX10_state_150 : decode cX10_state 150 = .ok (.baload, 1) := by decide +kernel
set_option maxRecDepth 20000 in
theorem dX10_state_151 : decode cX10_state 151 = .ok (.ifCond .eq 7, 3) := by decide +kernel
set_option maxRecDepth 20000 in
theorem dX10_state_154 : decode cX10_state 154 = .ok (.iconst 1, 1) := by decide +kernel
set_option maxRecDepth 20000 in
theorem dX10_state_155 : decode cX10_state 155 = .ok (.goto 4, 3) := by decide +kernel
set_option maxRecDepth 20000 in
theorem dX10_state_158 : decode cX10_state 158 = .ok (.iconst 0, 1) := by decide +kernel
set_option maxRecDepth 20000 in
theorem dX10_state_159 : decode cX10_state 159 = .ok (.ireturn, 1) := by decide +kernel
set_option maxRecDepth 20000 in
theorem dX10_state_160 : decode cX10_state 160 = .ok (.iconst (-1), 1) := by decide +kernel
set_option maxRecDepth 20000 in
theorem dX10_state_161 : decode cX10_state 161 = .ok (.ireturn, 1) := by decide +kernel
set_option maxRecDepth 20000 in
theorem dX10_waiting_0 : decode cX10_waiting 0 = .ok (.iconst 0, 1) := by decide +kernel
set_option maxRecDepth 20000 in
theorem dX10_waiting_1 : decode cX10_waiting 1 = .ok (.istore_n 2, 1) := by decide +kernel
set_option maxRecDepth 20000 in
theorem dX10_waiting_2 : decode cX10_waiting 2 = .ok (.iconst 0, 1) := by decide +kernel
set_option maxRecDepth 20000 in
theorem dX10_waiting_3 : decode cX10_waiting 3 = .ok (.istore_n 3, 1) := by decide +kernel
set_option maxRecDepth 20000 in
theorem dX10_waiting_4 : decode cX10_waiting 4 = .ok (.iload_n 3, 1) := by decide +kernel
set_option maxRecDepth 20000 in
theorem dX10_waiting_5 : decode cX10_waiting 5 = .ok (.sipush 800, 3) := by decide +kernel
set_option maxRecDepth 20000 in
theorem dX10_waiting_8 : decode cX10_waiting 8 = .ok (.if_icmp .ge 31, 3) := by decide +kernel
set_option maxRecDepth 20000 in
theorem dX10_waiting_11 : decode cX10_waiting 11 = .ok (.aload_n 0, 1) := by decide +kernel
set_option maxRecDepth 20000 in
theorem dX10_waiting_12 : decode cX10_waiting 12 = .ok (.getfield 38, 3) := by decide +kernel
set_option maxRecDepth 20000 in
theorem dX10_waiting_15 : decode cX10_waiting 15 = .ok (.iload_n 3, 1) := by decide +kernel
set_option maxRecDepth 20000 in
theorem dX10_waiting_16 : decode cX10_waiting 16 = .ok (.iaload, 1) := by decide +kernel
set_option maxRecDepth 20000 in
theorem dX10_waiting_17 : decode cX10_waiting 17 = .ok (.ifCond .eq 16, 3) := by decide +kernel
set_option maxRecDepth 20000 in
theorem dX10_waiting_20 : decode cX10_waiting 20 = .ok (.aload_n 0, 1) := by decide +kernel
set_option maxRecDepth 20000 in
theorem dX10_waiting_21 : decode cX10_waiting 21 = .ok (.getfield 41, 3) := by decide +kernel
set_option maxRecDepth 20000 in
theorem dX10_waiting_24 : decode cX10_waiting 24 = .ok (.iload_n 3, 1) := by decide +kernel
set_option maxRecDepth 20000 in
theorem dX10_waiting_25 : decode cX10_waiting 25 = .ok (.iaload, 1) := by decide +kernel
set_option maxRecDepth 20000 in
theorem dX10_waiting_26 : decode cX10_waiting 26 = .ok (.iload_n 1, 1) := by decide +kernel
set_option maxRecDepth 20000 in
theorem dX10_waiting_27 : decode cX10_waiting 27 = .ok (.if_icmp .ne 6, 3) := by decide +kernel
set_option maxRecDepth 20000 in
theorem dX10_waiting_30 : decode cX10_waiting 30 = .ok (.iinc 2 1, 3) := by decide +kernel
set_option maxRecDepth 20000 in
theorem dX10_waiting_33 : decode cX10_waiting 33 = .ok (.iinc 3 1, 3) := by decide +kernel
set_option maxRecDepth 20000 in
theorem dX10_waiting_36 : decode cX10_waiting 36 = .ok (.goto (-32), 3) := by decide +kernel
set_option maxRecDepth 20000 in
theorem dX10_waiting_39 : decode cX10_waiting 39 = .ok (.iload_n 2, 1) := by decide +kernel
set_option maxRecDepth 20000 in
theorem dX10_waiting_40 : decode cX10_waiting 40 = .ok (.ireturn, 1) := by decide +kernel
set_option maxRecDepth 20000 in
theorem dX10_noted_0 : decode cX10_noted 0 = .ok (.iload_n 1, 1) := by decide +kernel
set_option maxRecDepth 20000 in
theorem dX10_noted_1 : decode cX10_noted 1 = .ok (.ifCond .lt 17, 3) := by decide +kernel
set_option maxRecDepth 20000 in
theorem dX10_noted_4 : decode cX10_noted 4 = .ok (.iload_n 1, 1) := by decide +kernel
set_option maxRecDepth 20000 in
theorem dX10_noted_5 : decode cX10_noted 5 = .ok (.bipush 60, 2) := by decide +kernel
set_option maxRecDepth 20000 in
theorem dX10_noted_7 : decode cX10_noted 7 = .ok (.if_icmp .ge 11, 3) := by decide +kernel
set_option maxRecDepth 20000 in
theorem dX10_noted_10 : decode cX10_noted 10 = .ok (.iload_n 1, 1) := by decide +kernel
set_option maxRecDepth 20000 in
theorem dX10_noted_11 : decode cX10_noted 11 = .ok (.aload_n 0, 1) := by decide +kernel
set_option maxRecDepth 20000 in
theorem dX10_noted_12 : decode cX10_noted 12 = .ok (.getfield 168, 3) := by decide +kernel
set_option maxRecDepth 20000 in
theorem dX10_noted_15 : decode cX10_noted 15 = .ok (.if_icmp .lt 7, 3) := by decide +kernel
set_option maxRecDepth 20000 in
theorem dX10_noted_18 : decode cX10_noted 18 = .ok (.ldc2_w 299, 3) := by decide +kernel
set_option maxRecDepth 20000 in
theorem dX10_noted_21 : decode cX10_noted 21 = .ok (.lreturn, 1) := by decide +kernel
set_option maxRecDepth 20000 in
theorem dX10_noted_22 : decode cX10_noted 22 = .ok (.aload_n 0, 1) := by decide +kernel
set_option maxRecDepth 20000 in
theorem dX10_noted_23 : decode cX10_noted 23 = .ok (.getfield 168, 3) := by decide +kernel
set_option maxRecDepth 20000 in
theorem dX10_noted_26 : decode cX10_noted 26 = .ok (.iconst 1, 1) := by decide +kernel
set_option maxRecDepth 20000 in
theorem dX10_noted_27 : decode cX10_noted 27 = .ok (.isub, 1) := by decide +kernel
set_option maxRecDepth 20000 in
theorem dX10_noted_28 : decode cX10_noted 28 = .ok (.iload_n 1, 1) := by decide +kernel
set_option maxRecDepth 20000 in
theorem dX10_noted_29 : decode cX10_noted 29 = .ok (.isub, 1) := by decide +kernel
set_option maxRecDepth 20000 in
theorem dX10_noted_30 : decode cX10_noted 30 = .ok (.bipush 60, 2) := by decide +kernel
set_option maxRecDepth 20000 in
theorem dX10_noted_32 : decode cX10_noted 32 = .ok (.irem, 1) := by decide +kernel
set_option maxRecDepth 20000 in
theorem dX10_noted_33 : decode cX10_noted 33 = .ok (.istore_n 3, 1) := by decide +kernel
set_option maxRecDepth 20000 in
theorem dX10_noted_34 : decode cX10_noted 34 = .ok (.iload_n 2, 1) := by decide +kernel
set_option maxRecDepth 20000 in
theorem dX10_noted_35 : decode cX10_noted 35 = .ok (.ifCond .ne 13, 3) := by decide +kernel
set_option maxRecDepth 20000 in
theorem dX10_noted_38 : decode cX10_noted 38 = .ok (.aload_n 0, 1) := by decide +kernel
set_option maxRecDepth 20000 in
theorem dX10_noted_39 : decode cX10_noted 39 = .ok (.getfield 128, 3) := by decide +kernel
set_option maxRecDepth 20000 in
theorem dX10_noted_42 : decode cX10_noted 42 = .ok (.iload_n 3, 1) := by decide +kernel
set_option maxRecDepth 20000 in
theorem dX10_noted_43 : decode cX10_noted 43 = .ok (.iaload, 1) := by decide +kernel
set_option maxRecDepth 20000 in
theorem dX10_noted_44 : decode cX10_noted 44 = .ok (.i2l, 1) := by decide +kernel
set_option maxRecDepth 20000 in
theorem dX10_noted_45 : decode cX10_noted 45 = .ok (.goto 36, 3) := by decide +kernel
set_option maxRecDepth 20000 in
theorem dX10_noted_48 : decode cX10_noted 48 = .ok (.iload_n 2, 1) := by decide +kernel
set_option maxRecDepth 20000 in
theorem dX10_noted_49 : decode cX10_noted 49 = .ok (.iconst 1, 1) := by decide +kernel
set_option maxRecDepth 20000 in
theorem dX10_noted_50 : decode cX10_noted 50 = .ok (.if_icmp .ne 13, 3) := by decide +kernel
set_option maxRecDepth 20000 in
theorem dX10_noted_53 : decode cX10_noted 53 = .ok (.aload_n 0, 1) := by decide +kernel
set_option maxRecDepth 20000 in
theorem dX10_noted_54 : decode cX10_noted 54 = .ok (.getfield 125, 3) := by decide +kernel
set_option maxRecDepth 20000 in
theorem dX10_noted_57 : decode cX10_noted 57 = .ok (.iload_n 3, 1) := by decide +kernel
set_option maxRecDepth 20000 in
theorem dX10_noted_58 : decode cX10_noted 58 = .ok (.iaload, 1) := by decide +kernel
set_option maxRecDepth 20000 in
theorem dX10_noted_59 : decode cX10_noted 59 = .ok (.i2l, 1) := by decide +kernel
set_option maxRecDepth 20000 in
theorem dX10_noted_60 : decode cX10_noted 60 = .ok (.goto 21, 3) := by decide +kernel
set_option maxRecDepth 20000 in
theorem dX10_noted_63 : decode cX10_noted 63 = .ok (.iload_n 2, 1) := by decide +kernel
set_option maxRecDepth 20000 in
theorem dX10_noted_64 : decode cX10_noted 64 = .ok (.iconst 2, 1) := by decide +kernel
set_option maxRecDepth 20000 in
theorem dX10_noted_65 : decode cX10_noted 65 = .ok (.if_icmp .ne 13, 3) := by decide +kernel
set_option maxRecDepth 20000 in
theorem dX10_noted_68 : decode cX10_noted 68 = .ok (.aload_n 0, 1) := by decide +kernel
set_option maxRecDepth 20000 in
theorem dX10_noted_69 : decode cX10_noted 69 = .ok (.getfield 131, 3) := by decide +kernel
set_option maxRecDepth 20000 in
theorem dX10_noted_72 : decode cX10_noted 72 = .ok (.iload_n 3, 1) := by decide +kernel
set_option maxRecDepth 20000 in
theorem dX10_noted_73 : decode cX10_noted 73 = .ok (.iaload, 1) := by decide +kernel
set_option maxRecDepth 20000 in
theorem dX10_noted_74 : decode cX10_noted 74 = .ok (.i2l, 1) := by decide +kernel
set_option maxRecDepth 20000 in
theorem dX10_noted_75 : decode cX10_noted 75 = .ok (.goto 6, 3) := by decide +kernel
set_option maxRecDepth 20000 in
theorem dX10_noted_78 : decode cX10_noted 78 = .ok (.ldc2_w 299, 3) := by decide +kernel
set_option maxRecDepth 20000 in
theorem dX10_noted_81 : decode cX10_noted 81 = .ok (.lreturn, 1) := by decide +kernel
set_option maxRecDepth 20000 in
theorem dX10_count_0 : decode cX10_count 0 = .ok (.iconst 0, 1) := by decide +kernel
set_option maxRecDepth 20000 in
theorem dX10_count_1 : decode cX10_count 1 = .ok (.istore_n 2, 1) := by decide +kernel
set_option maxRecDepth 20000 in
theorem dX10_count_2 : decode cX10_count 2 = .ok (.iload_n 1, 1) := by decide +kernel
set_option maxRecDepth 20000 in
theorem dX10_count_3 : decode cX10_count 3 = .ok (.tableswitch 133 0 7 #[45, 50, 56, 61, 89, 94, 99, 128], 45) := by decide +kernel
set_option maxRecDepth 20000 in
theorem dX10_count_48 : decode cX10_count 48 = .ok (.aload_n 0, 1) := by decide +kernel
set_option maxRecDepth 20000 in
theorem dX10_count_49 : decode cX10_count 49 = .ok (.getfield 152, 3) := by decide +kernel
set_option maxRecDepth 20000 in
theorem dX10_count_52 : decode cX10_count 52 = .ok (.ireturn, 1) := by decide +kernel
set_option maxRecDepth 20000 in
theorem dX10_count_53 : decode cX10_count 53 = .ok (.aload_n 0, 1) := by decide +kernel
set_option maxRecDepth 20000 in
theorem dX10_count_54 : decode cX10_count 54 = .ok (.iconst (-1), 1) := by decide +kernel
set_option maxRecDepth 20000 in
theorem dX10_count_55 : decode cX10_count 55 = .ok (.invokevirtual 296, 3) := by decide +kernel
set_option maxRecDepth 20000 in
theorem dX10_count_58 : decode cX10_count 58 = .ok (.ireturn, 1) := by decide +kernel
set_option maxRecDepth 20000 in
theorem dX10_count_59 : decode cX10_count 59 = .ok (.aload_n 0, 1) := by decide +kernel
set_option maxRecDepth 20000 in
theorem dX10_count_60 : decode cX10_count 60 = .ok (.getfield 165, 3) := by decide +kernel
set_option maxRecDepth 20000 in
theorem dX10_count_63 : decode cX10_count 63 = .ok (.ireturn, 1) := by decide +kernel
set_option maxRecDepth 20000 in
theorem dX10_count_64 : decode cX10_count 64 = .ok (.iconst 0, 1) := by decide +kernel
set_option maxRecDepth 20000 in
theorem dX10_count_65 : decode cX10_count 65 = .ok (.istore_n 3, 1) := by decide +kernel
set_option maxRecDepth 20000 in
theorem dX10_count_66 : decode cX10_count 66 = .ok (.iload_n 3, 1) := by decide +kernel
set_option maxRecDepth 20000 in
theorem dX10_count_67 : decode cX10_count 67 = .ok (.bipush 32, 2) := by decide +kernel
set_option maxRecDepth 20000 in
theorem dX10_count_69 : decode cX10_count 69 = .ok (.if_icmp .ge 21, 3) := by decide +kernel
set_option maxRecDepth 20000 in
theorem dX10_count_72 : decode cX10_count 72 = .ok (.aload_n 0, 1) := by decide +kernel
set_option maxRecDepth 20000 in
theorem dX10_count_73 : decode cX10_count 73 = .ok (.getfield 110, 3) := by decide +kernel
set_option maxRecDepth 20000 in
theorem dX10_count_76 : decode cX10_count 76 = .ok (.iload_n 3, 1) := by decide +kernel
set_option maxRecDepth 20000 in
theorem dX10_count_77 : decode cX10_count 77 = .ok (.iaload, 1) := by decide +kernel
set_option maxRecDepth 20000 in
theorem dX10_count_78 : decode cX10_count 78 = .ok (.ifCond .lt 6, 3) := by decide +kernel
set_option maxRecDepth 20000 in
theorem dX10_count_81 : decode cX10_count 81 = .ok (.iinc 2 1, 3) := by decide +kernel
set_option maxRecDepth 20000 in
theorem dX10_count_84 : decode cX10_count 84 = .ok (.iinc 3 1, 3) := by decide +kernel
set_option maxRecDepth 20000 in
theorem dX10_count_87 : decode cX10_count 87 = .ok (.goto (-21), 3) := by decide +kernel
set_option maxRecDepth 20000 in
theorem dX10_count_90 : decode cX10_count 90 = .ok (.iload_n 2, 1) := by decide +kernel
set_option maxRecDepth 20000 in
theorem dX10_count_91 : decode cX10_count 91 = .ok (.ireturn, 1) := by decide +kernel
set_option maxRecDepth 20000 in
theorem dX10_count_92 : decode cX10_count 92 = .ok (.aload_n 0, 1) := by decide +kernel
set_option maxRecDepth 20000 in
theorem dX10_count_93 : decode cX10_count 93 = .ok (.getfield 162, 3) := by decide +kernel
set_option maxRecDepth 20000 in
theorem dX10_count_96 : decode cX10_count 96 = .ok (.ireturn, 1) := by decide +kernel
set_option maxRecDepth 20000 in
theorem dX10_count_97 : decode cX10_count 97 = .ok (.aload_n 0, 1) := by decide +kernel
set_option maxRecDepth 20000 in
theorem dX10_count_98 : decode cX10_count 98 = .ok (.getfield 168, 3) := by decide +kernel
set_option maxRecDepth 20000 in
theorem dX10_count_101 : decode cX10_count 101 = .ok (.ireturn, 1) := by decide +kernel
set_option maxRecDepth 20000 in
theorem dX10_count_102 : decode cX10_count 102 = .ok (.iconst 0, 1) := by decide +kernel
set_option maxRecDepth 20000 in
theorem dX10_count_103 : decode cX10_count 103 = .ok (.istore_n 3, 1) := by decide +kernel
set_option maxRecDepth 20000 in
theorem dX10_count_104 : decode cX10_count 104 = .ok (.iload_n 3, 1) := by decide +kernel
set_option maxRecDepth 20000 in
theorem dX10_count_105 : decode cX10_count 105 = .ok (.aload_n 0, 1) := by decide +kernel
set_option maxRecDepth 20000 in
theorem dX10_count_106 : decode cX10_count 106 = .ok (.getfield 152, 3) := by decide +kernel
set_option maxRecDepth 20000 in
theorem dX10_count_109 : decode cX10_count 109 = .ok (.if_icmp .ge 20, 3) := by decide +kernel
set_option maxRecDepth 20000 in
theorem dX10_count_112 : decode cX10_count 112 = .ok (.aload_n 0, 1) := by decide +kernel
set_option maxRecDepth 20000 in
theorem dX10_count_113 : decode cX10_count 113 = .ok (.iload_n 3, 1) := by decide +kernel
set_option maxRecDepth 20000 in
theorem dX10_count_114 : decode cX10_count 114 = .ok (.invokevirtual 293, 3) := by decide +kernel
set_option maxRecDepth 20000 in
theorem dX10_count_117 : decode cX10_count 117 = .ok (.ifCond .eq 6, 3) := by decide +kernel
set_option maxRecDepth 20000 in
theorem dX10_count_120 : decode cX10_count 120 = .ok (.iinc 2 1, 3) := by decide +kernel
set_option maxRecDepth 20000 in
theorem dX10_count_123 : decode cX10_count 123 = .ok (.iinc 3 1, 3) := by decide +kernel
set_option maxRecDepth 20000 in
theorem dX10_count_126 : decode cX10_count 126 = .ok (.goto (-22), 3) := by decide +kernel
set_option maxRecDepth 20000 in
theorem dX10_count_129 : decode cX10_count 129 = .ok (.iload_n 2, 1) := by decide +kernel
set_option maxRecDepth 20000 in
theorem dX10_count_130 : decode cX10_count 130 = .ok (.ireturn, 1) := by decide +kernel
set_option maxRecDepth 20000 in
theorem dX10_count_131 : decode cX10_count 131 = .ok (.aload_n 0, 1) := by decide +kernel
set_option maxRecDepth 20000 in
theorem dX10_count_132 : decode cX10_count 132 = .ok (.getfield 159, 3) := by decide +kernel
set_option maxRecDepth 20000 in
theorem dX10_count_135 : decode cX10_count 135 = .ok (.ireturn, 1) := by decide +kernel
set_option maxRecDepth 20000 in
theorem dX10_count_136 : decode cX10_count 136 = .ok (.iconst (-1), 1) := by decide +kernel
set_option maxRecDepth 20000 in
theorem dX10_count_137 : decode cX10_count 137 = .ok (.ireturn, 1) := by decide +kernel
end
section
/-! ===== the abstract machine: its values are whole numbers and the numbers of cells ===== -/
abbrev am_AV : Type := Int ⊕ (Int ⊕ Nat)
abbrev am_I (x : Int) : am_AV := Sum.inl x
abbrev am_J (x : Int) : am_AV := Sum.inr (Sum.inl x)
abbrev am_R (k : Nat) : am_AV := Sum.inr (Sum.inr k)
def am_r32 (x : Int) : Prop := -2147483648 ≤ x ∧ x < 2147483648
def am_r64 (x : Int) : Prop := -9223372036854775808 ≤ x ∧ x < 9223372036854775808
def am_w32 (x : Int) : Int := (x + 2147483648) % 4294967296 - 2147483648
theorem am_w32_r (x : Int) : am_r32 (am_w32 x) := by unfold am_r32 am_w32; omega
theorem am_w32_id {x : Int} (h : am_r32 x) : am_w32 x = x := by unfold am_r32 at h; unfold am_w32; omega
theorem am_r64_of {x : Int} (h : am_r32 x) : am_r64 x := by unfold am_r32 at h; unfold am_r64; omega
def am_rv (v : am_AV) : Prop := match v with
  | .inl x => am_r32 x
  | .inr (.inl x) => am_r64 x
  | .inr (.inr _) => True
def am_cv (ad : Nat → Nat) (v : am_AV) : Value := match v with
  | .inl x => .int (Int32.ofInt x)
  | .inr (.inl x) => .long (Int64.ofInt x)
  | .inr (.inr k) => .ref (ad k)
def am_cat (v : am_AV) : Nat := match v with
  | .inr (.inl _) => 2
  | _ => 1
theorem am_cat_cv (ad : Nat → Nat) (v : am_AV) : (am_cv ad v).category = am_cat v := by
  rcases v with x | x | k <;> rfl
theorem am_toInt {x : Int} (h : am_r32 x) : (Int32.ofInt x).toInt = x := Int32.toInt_ofInt_of_le (by have := h.1; omega) (by have := h.2; omega)
theorem am_toInt64 {x : Int} (h : am_r64 x) : (Int64.ofInt x).toInt = x := Int64.toInt_ofInt_of_le (by have := h.1; omega) (by have := h.2; omega)
theorem am_toNat {x : Int} (h : am_r32 x) : (Int32.ofInt x).toNatClampNeg = x.toNat := by
  show (Int32.ofInt x).toInt.toNat = x.toNat
  rw [am_toInt h]
theorem am_eq {x y : Int} (hx : am_r32 x) (hy : am_r32 y) : Int32.ofInt x = Int32.ofInt y ↔ x = y := by
  constructor
  · intro h
    have h1 := congrArg Int32.toInt h
    rwa [am_toInt hx, am_toInt hy] at h1
  · intro h; rw [h]
theorem am_eq64 {x y : Int} (hx : am_r64 x) (hy : am_r64 y) : Int64.ofInt x = Int64.ofInt y ↔ x = y := by
  constructor
  · intro h
    have h1 := congrArg Int64.toInt h
    rwa [am_toInt64 hx, am_toInt64 hy] at h1
  · intro h; rw [h]
theorem am_lt {x y : Int} (hx : am_r32 x) (hy : am_r32 y) : Int32.ofInt x < Int32.ofInt y ↔ x < y := by
  rw [Int32.lt_iff_toInt_lt, am_toInt hx, am_toInt hy]
theorem am_lt64 {x y : Int} (hx : am_r64 x) (hy : am_r64 y) : Int64.ofInt x < Int64.ofInt y ↔ x < y := by
  rw [Int64.lt_iff_toInt_lt, am_toInt64 hx, am_toInt64 hy]
theorem am_le {x y : Int} (hx : am_r32 x) (hy : am_r32 y) : Int32.ofInt x ≤ Int32.ofInt y ↔ x ≤ y := by
  rw [Int32.le_iff_toInt_le, am_toInt hx, am_toInt hy]
theorem am_r0 : am_r32 0 := by unfold am_r32; omega
theorem am_zero : (0 : Int32) = Int32.ofInt 0 := rfl
theorem am_ofInt_w (z : Int) : Int32.ofInt (am_w32 z) = Int32.ofInt z := by
  apply Int32.toInt_inj.mp
  rw [am_toInt (am_w32_r z), Int32.toInt_ofInt]
  show am_w32 z = Int.bmod z 4294967296
  unfold am_w32
  simp only [Int.bmod_def]
  omega
theorem am_add (x y : Int) : Int32.ofInt x + Int32.ofInt y = Int32.ofInt (am_w32 (x + y)) := by rw [am_ofInt_w, Int32.ofInt_add]
theorem am_sub (x y : Int) : Int32.ofInt x - Int32.ofInt y = Int32.ofInt (am_w32 (x - y)) := by rw [am_ofInt_w, Int32.ofInt_sub]
theorem am_mul (x y : Int) : Int32.ofInt x * Int32.ofInt y = Int32.ofInt (am_w32 (x * y)) := by rw [am_ofInt_w, Int32.ofInt_mul]
theorem am_rem {x y : Int} (hx : am_r32 x) (hy : am_r32 y) : Int32.ofInt x % Int32.ofInt y = Int32.ofInt (x.tmod y) := by
  apply Int32.toInt_inj.mp
  rw [Int32.toInt_mod, am_toInt hx, am_toInt hy]
  refine (am_toInt ?_).symm
  have h1 : (x.tmod y).natAbs ≤ x.natAbs := by rw [Int.natAbs_tmod]; exact Nat.mod_le _ _
  have h2 : 0 ≤ x → 0 ≤ x.tmod y := fun h => Int.tmod_nonneg y h
  have h3 : x ≤ 0 → x.tmod y ≤ 0 := fun h => by have h4 := Int.tmod_nonneg (a := -x) y (by omega); rw [Int.neg_tmod] at h4; omega
  have := hx.1
  have := hx.2
  unfold am_r32
  by_cases h0 : 0 ≤ x
  · have := h2 h0; omega
  · have := h3 (by omega); omega
theorem am_div {x y : Int} (hx : am_r32 x) (hy : am_r32 y) (h : 0 < y) : Int32.ofInt x / Int32.ofInt y = Int32.ofInt (x.tdiv y) := by
  have hne : Int32.ofInt y ≠ -1 := fun q => by
    have h1 := congrArg Int32.toInt q
    rw [am_toInt hy] at h1
    have h2 : (-1 : Int32).toInt = -1 := by decide
    rw [h2] at h1
    omega
  apply Int32.toInt_inj.mp
  rw [Int32.toInt_div_of_ne_right _ _ hne, am_toInt hx, am_toInt hy]
  refine (am_toInt ?_).symm
  have h1 : (x.tdiv y).natAbs ≤ x.natAbs := by rw [Int.natAbs_tdiv]; exact Nat.div_le_self _ _
  have h2 : 0 ≤ x → 0 ≤ x.tdiv y := fun h0 => Int.tdiv_nonneg h0 (Int.le_of_lt h)
  have h3 : x ≤ 0 → x.tdiv y ≤ 0 := fun h => by have h4 := Int.tdiv_nonneg (a := -x) (b := y) (by omega) (by omega); rw [Int.neg_tdiv] at h4; omega
  have := hx.1
  have := hx.2
  unfold am_r32
  by_cases h0 : 0 ≤ x
  · have := h2 h0; omega
  · have := h3 (by omega); omega
theorem am_tmod_r {x y : Int} (hx : am_r32 x) : am_r32 (x.tmod y) := by
  have h1 : (x.tmod y).natAbs ≤ x.natAbs := by rw [Int.natAbs_tmod]; exact Nat.mod_le _ _
  have h2 : 0 ≤ x → 0 ≤ x.tmod y := fun h => Int.tmod_nonneg y h
  have h3 : x ≤ 0 → x.tmod y ≤ 0 := fun h => by have h4 := Int.tmod_nonneg (a := -x) y (by omega); rw [Int.neg_tmod] at h4; omega
  have := hx.1
  have := hx.2
  unfold am_r32
  by_cases h0 : 0 ≤ x
  · have := h2 h0; omega
  · have := h3 (by omega); omega
theorem am_tdiv_r {x y : Int} (hx : am_r32 x) (h : 0 < y) : am_r32 (x.tdiv y) := by
  have h1 : (x.tdiv y).natAbs ≤ x.natAbs := by rw [Int.natAbs_tdiv]; exact Nat.div_le_self _ _
  have h2 : 0 ≤ x → 0 ≤ x.tdiv y := fun h0 => Int.tdiv_nonneg h0 (Int.le_of_lt h)
  have h3 : x ≤ 0 → x.tdiv y ≤ 0 := fun h => by have h4 := Int.tdiv_nonneg (a := -x) (b := y) (by omega) (by omega); rw [Int.neg_tdiv] at h4; omega
  have := hx.1
  have := hx.2
  unfold am_r32
  by_cases h0 : 0 ≤ x
  · have := h2 h0; omega
  · have := h3 (by omega); omega
theorem am_i2l {x : Int} (h : am_r32 x) : (Int32.ofInt x).toInt64 = Int64.ofInt x := by
  apply Int64.toInt_inj.mp
  rw [Int32.toInt_toInt64, am_toInt h, am_toInt64 (am_r64_of h)]
theorem am_l2i (x : Int) : (Int64.ofInt x).toInt32 = Int32.ofInt (am_w32 x) := by rw [am_ofInt_w, Int64.toInt32_ofInt]
def am_cmp (x y : Int) : Int := if y < x then 1 else if x = y then 0 else -1
theorem am_lcmp {x y : Int} (hx : am_r64 x) (hy : am_r64 y) : lg_cmp (Int64.ofInt x) (Int64.ofInt y) = Int32.ofInt (am_cmp x y) := by
  unfold lg_cmp am_cmp
  by_cases h1 : y < x
  · rw [if_pos h1, if_pos ((am_lt64 hy hx).mpr h1)]; rfl
  · rw [if_neg h1, if_neg (fun h => h1 ((am_lt64 hy hx).mp h))]
    by_cases h2 : x = y
    · rw [if_pos h2, if_pos ((am_eq64 hx hy).mpr h2)]; rfl
    · rw [if_neg h2, if_neg (fun h => h2 ((am_eq64 hx hy).mp h))]; rfl
theorem am_cmp_r (x y : Int) : am_r32 (am_cmp x y) := by unfold am_cmp am_r32; split <;> (try split) <;> omega
/-! the state: the whole numbers in fields (64 * cell + place), the rows (cell, place) -/
abbrev am_S : Type := (Nat → Int) × (Nat → Nat → Int)
def am_up {α : Type} (f : Nat → α) (k : Nat) (v : α) : Nat → α := fun j => if j = k then v else f j
theorem am_up_self {α : Type} (f : Nat → α) (k : Nat) (v : α) : am_up f k v k = v := by simp [am_up]
theorem am_up_ne {α : Type} (f : Nat → α) {k j : Nat} (v : α) (h : j ≠ k) : am_up f k v j = f j := by simp [am_up, h]
def am_sI (S : am_S) (n : Nat) (x : Int) : am_S := (am_up S.1 n x, S.2)
def am_sA (S : am_S) (id j : Nat) (x : Int) : am_S := (S.1, am_up S.2 id (am_up (S.2 id) j x))
/-- what a cell is: an object of a class with fields that are cells or whole numbers; or a row of a sort (0 int, 1 boolean, 2 long) and length -/
abbrev am_K : Type := (Nat × List (Option Nat)) ⊕ (Nat × Nat)
def am_lp : List (Option Nat) := [some 8, some 9, some 10, some 11, some 12, some 13, some 14, some 15, some 16, some 17, some 18, none, none, none, none]
def am_lt9 : List (Option Nat) := [some 19, some 20, some 21]
def am_lf : List (Option Nat) := [some 22, some 23, some 24]
def am_ltk : List (Option Nat) := [some 25, some 26, some 27, none, none]
def am_ln : List (Option Nat) := [some 28, some 29, none, none]
def am_lg : List (Option Nat) := [some 30, some 31, some 32, some 33, some 1, none]
def am_lr : List (Option Nat) := [some 3, some 1, some 4, some 5, some 34, some 35, some 36, some 37, some 38, some 39, some 40, none, none, none]
def am_lj : List (Option Nat) := [some 1, some 2, some 3, some 4, some 5, some 6, some 7]
def am_lm : List (Option Nat) := [some 75, some 76, some 77, some 78, some 79, some 80, some 81, some 82, some 83, none, some 84, some 85, some 86, some 87, some 88, some 89, some 90, some 91, some 92, none, some 93, some 94, some 95, some 96, some 97, some 98, some 99, some 100, some 101, some 102, some 103, some 104, some 105, some 106, some 107, none, some 108, some 109, some 110, some 111, some 112, none, none, some 113, some 114, some 115, none, some 116, some 117, some 118, some 119, some 120, none, none, none, none, none]
def am_sk : List am_K := [.inl (8, am_lj), .inl (3, am_lp), .inl (7, am_lt9), .inl (0, am_lf), .inl (6, am_ltk), .inl (2, am_ln), .inl (1, am_lg), .inl (5, am_lr), .inl (4, [some 41]), .inl (4, [some 42]), .inl (4, [some 43]), .inl (4, [some 44]), .inl (4, [some 45]), .inl (4, [some 46]), .inl (4, [some 47]), .inl (4, [some 48]), .inl (4, [some 49]), .inl (4, [some 50]), .inl (4, [some 51]), .inl (4, [some 52]), .inl (4, [some 53]), .inl (4, [some 54]), .inl (4, [some 55]), .inl (4, [some 56]), .inl (4, [some 57]), .inl (4, [some 58]), .inl (4, [some 59]), .inl (4, [some 60]), .inl (4, [some 61]), .inl (4, [some 62]), .inl (4, [some 63]), .inl (4, [some 64]), .inl (4, [some 65]), .inl (4, [some 66]), .inl (4, [some 67]), .inl (4, [some 68]), .inl (4, [some 69]), .inl (4, [some 70]), .inl (4, [some 71]), .inl (4, [some 72]), .inl (4, [some 73]), .inr (2, 100), .inr (2, 100), .inr (2, 100), .inr (2, 100), .inr (2, 100), .inr (2, 100), .inr (2, 100), .inr (2, 100), .inr (2, 100), .inr (2, 900), .inr (2, 900), .inr (2, 4), .inr (2, 4), .inr (2, 4), .inr (2, 10), .inr (2, 100), .inr (2, 100), .inr (2, 32), .inr (2, 32), .inr (2, 32), .inr (2, 60), .inr (2, 60), .inr (2, 5), .inr (2, 100), .inr (2, 100), .inr (2, 100), .inr (2, 101), .inr (2, 101), .inr (2, 101), .inr (2, 101), .inr (2, 100), .inr (2, 100), .inr (2, 100), .inl (9, am_lm), .inr (0, 100), .inr (0, 100), .inr (0, 100), .inr (0, 100), .inr (0, 100), .inr (0, 100), .inr (1, 100), .inr (1, 100), .inr (1, 100), .inr (0, 800), .inr (0, 800), .inr (0, 800), .inr (0, 800), .inr (0, 800), .inr (0, 800), .inr (0, 800), .inr (0, 800), .inr (0, 800), .inr (0, 4), .inr (0, 4), .inr (0, 4), .inr (0, 4), .inr (0, 4), .inr (0, 10), .inr (0, 100), .inr (0, 100), .inr (0, 100), .inr (0, 100), .inr (0, 100), .inr (0, 100), .inr (0, 100), .inr (0, 5), .inr (0, 5), .inr (0, 32), .inr (0, 32), .inr (0, 32), .inr (0, 32), .inr (0, 32), .inr (0, 60), .inr (0, 60), .inr (0, 60), .inr (0, 110), .inr (0, 110), .inr (0, 110), .inr (0, 110), .inr (0, 110)]
/-- the object graph's lists are short -/
theorem am_sk_short : ∀ (id ci : Nat) (l : List (Option Nat)), am_sk[id]? = some (.inl (ci, l)) → l.length ≤ 64 := by
  have h : am_sk.all (fun k => match k with
    | .inl (_, l) => decide (l.length ≤ 64)
    | .inr _ => true) = true := by decide +kernel
  intro id ci l hk
  have h1 := List.all_eq_true.mp h _ (List.mem_of_getElem? hk)
  simpa using h1
def am_fs (ad : Nat → Nat) (S : am_S) (id : Nat) : Nat → List (Option Nat) → List Value
  | _, [] => []
  | j, (some r) :: l => .ref (ad r) :: am_fs ad S id (j + 1) l
  | j, none :: l => .int (Int32.ofInt (S.1 (64 * id + j))) :: am_fs ad S id (j + 1) l
theorem am_fs_len (ad : Nat → Nat) (S : am_S) (id : Nat) : ∀ (l : List (Option Nat)) (j : Nat), (am_fs ad S id j l).length = l.length
  | [], _ => rfl
  | (some _) :: l, j => by simp [am_fs, am_fs_len ad S id l]
  | none :: l, j => by simp [am_fs, am_fs_len ad S id l]
theorem am_fs_ref (ad : Nat → Nat) (S : am_S) (id : Nat) : ∀ (l : List (Option Nat)) (j k r : Nat), l[k]? = some (some r) → (am_fs ad S id j l)[k]? = some (.ref (ad r))
  | [], _, k, r, h => by simp at h
  | (some x) :: l, j, 0, r, h => by simp at h; simp [am_fs, h]
  | none :: l, j, 0, r, h => by simp at h
  | (some x) :: l, j, k + 1, r, h => by simp at h; simpa [am_fs] using am_fs_ref ad S id l (j + 1) k r h
  | none :: l, j, k + 1, r, h => by simp at h; simpa [am_fs] using am_fs_ref ad S id l (j + 1) k r h
theorem am_fs_int (ad : Nat → Nat) (S : am_S) (id : Nat) : ∀ (l : List (Option Nat)) (j k : Nat), l[k]? = some none → (am_fs ad S id j l)[k]? = some (.int (Int32.ofInt (S.1 (64 * id + (j + k)))))
  | [], _, k, h => by simp at h
  | (some x) :: l, j, 0, h => by simp at h
  | none :: l, j, 0, h => by simp [am_fs]
  | (some x) :: l, j, k + 1, h => by
    simp at h
    have := am_fs_int ad S id l (j + 1) k h
    rw [show j + (k + 1) = j + 1 + k by omega]
    simpa [am_fs] using this
  | none :: l, j, k + 1, h => by
    simp at h
    have := am_fs_int ad S id l (j + 1) k h
    rw [show j + (k + 1) = j + 1 + k by omega]
    simpa [am_fs] using this
theorem am_fs_other (ad : Nat → Nat) (S : am_S) (id n : Nat) (x : Int) : ∀ (l : List (Option Nat)) (j : Nat), (∀ k : Nat, k < l.length → 64 * id + (j + k) ≠ n) → am_fs ad (am_sI S n x) id j l = am_fs ad S id j l
  | [], _, _ => rfl
  | (some r) :: l, j, h => by
    simp only [am_fs]
    rw [am_fs_other ad S id n x l (j + 1) (fun k hk => by have := h (k + 1) (by simpa using hk); rwa [show j + 1 + k = j + (k + 1) by omega])]
  | none :: l, j, h => by
    simp only [am_fs]
    rw [am_fs_other ad S id n x l (j + 1) (fun k hk => by have := h (k + 1) (by simpa using hk); rwa [show j + 1 + k = j + (k + 1) by omega])]
    have h0 := h 0 (by simp)
    simp only [am_sI, am_up, Nat.add_zero] at h0 ⊢
    rw [if_neg h0]
theorem am_fs_set (ad : Nat → Nat) (S : am_S) (id : Nat) (x : Int) : ∀ (l : List (Option Nat)) (j k : Nat), l[k]? = some none → (am_fs ad S id j l).set k (.int (Int32.ofInt x)) = am_fs ad (am_sI S (64 * id + (j + k)) x) id j l
  | [], _, k, h => by simp at h
  | (some r) :: l, j, 0, h => by simp at h
  | none :: l, j, 0, h => by
    simp only [am_fs, List.set_cons_zero]
    rw [am_fs_other ad S id _ x l (j + 1) (fun k hk => by omega)]
    simp [am_sI, am_up]
  | (some r) :: l, j, k + 1, h => by
    simp at h
    simp only [am_fs, List.set_cons_succ]
    rw [am_fs_set ad S id x l (j + 1) k h, show j + (k + 1) = j + 1 + k by omega]
  | none :: l, j, k + 1, h => by
    simp at h
    simp only [am_fs, List.set_cons_succ]
    rw [am_fs_set ad S id x l (j + 1) k h, show j + (k + 1) = j + 1 + k by omega]
    congr 2
    simp only [am_sI, am_up]
    rw [if_neg (by omega)]
/-- the surroundings: addresses, the kit's table of classes, the array classes -/
abbrev am_G : Type := (Nat → Nat) × va_G × ClassId × ClassId × ClassId
def am_cell (G : am_G) (S : am_S) (id : Nat) (k : am_K) : va_E := match k with
  | .inl (ci, l) => .inr (ci, am_fs G.1 S id 0 l)
  | .inr (0, n) => .inl (G.2.2.1, n, .inl (fun j => Int32.ofInt (S.2 id j)))
  | .inr (1, n) => .inl (G.2.2.2.1, n, .inl (fun j => Int32.ofInt (S.2 id j)))
  | .inr (_, n) => .inl (G.2.2.2.2, n, .inr (.inl (fun j => Int64.ofInt (S.2 id j))))
def am_W (G : am_G) (S : am_S) : va_W := am_sk.mapIdx (fun id k => (G.1 id, am_cell G S id k))
def am_tys (G : am_G) : List (ClassId × FieldType) := [(G.2.2.1, .int), (G.2.2.2.1, .boolean), (G.2.2.2.2, .long)]
def am_A (G : am_G) : Nat → Prop := fun q => ∃ (id : Nat) (k : am_K), am_sk[id]? = some k ∧ q = G.1 id
theorem am_W_at {G : am_G} {S : am_S} {id : Nat} {k : am_K} (h : am_sk[id]? = some k) : (am_W G S)[id]? = some (G.1 id, am_cell G S id k) := by
  unfold am_W
  rw [List.getElem?_mapIdx, h]; rfl
theorem am_W_in {G : am_G} {S : am_S} {id : Nat} {q : Nat × va_E} (h : (am_W G S)[id]? = some q) : ∃ k, am_sk[id]? = some k ∧ q = (G.1 id, am_cell G S id k) := by
  unfold am_W at h
  rw [List.getElem?_mapIdx] at h
  cases hk : am_sk[id]? with
  | none => rw [hk] at h; cases h
  | some k => rw [hk] at h; exact ⟨k, rfl, (Option.some.inj h).symm⟩
theorem am_W_set {G : am_G} {S S' : am_S} {id : Nat} {k : am_K} {e : va_E} (h : am_sk[id]? = some k) (he : am_cell G S' id k = e) (ho : ∀ (i : Nat) (j : am_K), am_sk[i]? = some j → i ≠ id → am_cell G S' i j = am_cell G S i j) : (am_W G S).set id (G.1 id, e) = am_W G S' := by
  have hl : id < (am_W G S).length := (List.getElem?_eq_some_iff.mp (am_W_at (G := G) (S := S) h)).1
  apply List.ext_getElem?
  intro i
  by_cases hi : i = id
  · subst hi
    rw [List.getElem?_set_self hl, am_W_at h, he]
  · rw [List.getElem?_set_ne (Ne.symm hi)]
    unfold am_W
    rw [List.getElem?_mapIdx, List.getElem?_mapIdx]
    cases hk : am_sk[i]? with
    | none => rfl
    | some j => exact congrArg (fun z => some (G.1 i, z)) (ho i j hk hi).symm
theorem am_W_setI {G : am_G} {S : am_S} {id ci k : Nat} {l : List (Option Nat)} (x : Int) (h : am_sk[id]? = some (.inl (ci, l))) (hl : l[k]? = some none) : (am_W G S).set id (G.1 id, .inr (ci, (am_fs G.1 S id 0 l).set k (.int (Int32.ofInt x)))) = am_W G (am_sI S (64 * id + k) x) := by
  have hk : k < l.length := (List.getElem?_eq_some_iff.mp hl).1
  have hk64 := am_sk_short id ci l h
  refine am_W_set h ?_ ?_
  · show Sum.inr (ci, am_fs G.1 (am_sI S (64 * id + k) x) id 0 l) = _
    rw [am_fs_set G.1 S id x l 0 k hl, Nat.zero_add]
  · intro i j hj hne
    rcases j with ⟨cj, lj⟩ | ⟨t, n⟩
    · have hs := am_sk_short i cj lj hj
      show Sum.inr (cj, _) = Sum.inr (cj, _)
      rw [am_fs_other G.1 S i _ x lj 0 (fun k2 hk2 => by omega)]
    · rcases t with _ | _ | t <;> rfl
theorem am_fs_A (ad : Nat → Nat) (S : am_S) (id j i : Nat) (x : Int) : ∀ (l : List (Option Nat)) (z : Nat), am_fs ad (am_sA S id j x) i z l = am_fs ad S i z l
  | [], _ => rfl
  | (some r) :: l, z => by simp only [am_fs]; rw [am_fs_A ad S id j i x l (z + 1)]
  | none :: l, z => by simp only [am_fs]; rw [am_fs_A ad S id j i x l (z + 1)]; rfl
theorem am_W_setA {G : am_G} {S : am_S} {id j : Nat} {x : Int} {tn : Nat × Nat} {e : va_E} (h : am_sk[id]? = some (.inr tn)) (he : am_cell G (am_sA S id j x) id (.inr tn) = e) : (am_W G S).set id (G.1 id, e) = am_W G (am_sA S id j x) := by
  refine am_W_set h he ?_
  intro i k hk hne
  rcases k with ⟨ci, l⟩ | ⟨t, n⟩
  · show Sum.inr (ci, _) = Sum.inr (ci, _)
    rw [am_fs_A]
  · have e2 : (am_sA S id j x).2 i = S.2 i := by simp [am_sA, am_up, hne]
    rcases t with _ | _ | t <;> simp only [am_cell, e2]
def am_rS (S : am_S) : Prop := (∀ n, am_r32 (S.1 n)) ∧ ∀ (id : Nat) (j : Nat), (am_r64 (S.2 id j)) ∧ ∀ (t n : Nat), am_sk[id]? = some (.inr (t, n)) → t < 2 → am_r32 (S.2 id j)
theorem am_rS_I {S : am_S} {n : Nat} {x : Int} (h : am_rS S) (hx : am_r32 x) : am_rS (am_sI S n x) := by
  refine ⟨fun k => ?_, h.2⟩
  show am_r32 (am_up S.1 n x k)
  unfold am_up
  split
  · exact hx
  · exact h.1 k
theorem am_rS_A {S : am_S} {id j : Nat} {x : Int} (h : am_rS S) (hx : am_r64 x) (h2 : ∀ (t n : Nat), am_sk[id]? = some (.inr (t, n)) → t < 2 → am_r32 x) : am_rS (am_sA S id j x) := by
  refine ⟨h.1, fun i k => ?_⟩
  show am_r64 (am_up S.2 id _ i k) ∧ ∀ (t n : Nat), am_sk[i]? = some (.inr (t, n)) → t < 2 → am_r32 (am_up S.2 id _ i k)
  unfold am_up
  by_cases hi : i = id
  · subst hi
    rw [if_pos rfl]
    by_cases hk : k = j
    · rw [if_pos hk]; exact ⟨hx, h2⟩
    · rw [if_neg hk]; exact h.2 i k
  · rw [if_neg hi]; exact h.2 i k
end
section
/-- the links to private members of nest mates -/
def am_nest : List (String × Nat × MethodName × String) := [("JobLoop", 11, ⟨"JobLoop$Promises", "<init>", "()V"⟩, "JobLoop"), ("JobLoop", 25, ⟨"JobLoop$Functions", "<init>", "()V"⟩, "JobLoop"), ("JobLoop", 32, ⟨"JobLoop$Tasks", "<init>", "()V"⟩, "JobLoop"), ("JobLoop", 39, ⟨"JobLoop$Notes", "<init>", "()V"⟩, "JobLoop"), ("JobLoop$Promises", 63, ⟨"JobLoop", "isWithin", "(II)Z"⟩, "JobLoop"), ("JobLoop$Value", 11, ⟨"JobLoop", "isWithin", "(II)Z"⟩, "JobLoop"), ("JobLoop$Promises", 110, ⟨"JobLoop", "jobOf", "(II)I"⟩, "JobLoop"), ("JobLoop$Runner", 82, ⟨"JobLoop", "jobOf", "(II)I"⟩, "JobLoop"), ("JobLoop$Functions", 32, ⟨"JobLoop", "isFunction", "(I)Z"⟩, "JobLoop"), ("JobLoop$Functions", 36, ⟨"JobLoop", "isWithin", "(II)Z"⟩, "JobLoop"), ("JobLoop$Groups", 63, ⟨"JobLoop", "jobOf", "(II)I"⟩, "JobLoop")]
def am_Nw (U : State) : Prop := ∀ q ∈ am_nest, va_Nw (.methodLinkNest q.1 q.2.1 q.2.2.1 q.2.2.2) U
theorem am_Nw.warm {s U : State} (hW : s.WarmedH U.vm) (h : am_Nw s) : am_Nw U := fun q hq => va_Nw.warmM hW (h q hq)
theorem am_Nw.same {u U : State} (hv : u.vm = U.vm) (h : am_Nw u) : am_Nw U := fun q hq => va_Nw.same rfl hv (h q hq)
/-- the world: the cells, the classes, the links -/
def am_B (G : am_G) (S : am_S) (U : State) : Prop := va_P G.2.1 vwCl (am_W G S) U.heap ∧ va_K G.2.1 vwCl (am_tys G) U ∧ va_D (am_A G) (am_W G S) ∧ am_Nw U
def am_max (x y : Int) : Int := if x < y then y else x
def am_min (x y : Int) : Int := if y < x then y else x
section AMV
variable {p : Program} {l : Launch} {e : Env} {R : Room} {s : State} {m : MethodId} {args : Array Value} {below : List Frame} {meth : Method} {c : Code} {Q : State → Prop} {G : am_G} {A0 : Nat → Prop} {H0 : Heap} {nL kc ks : Nat} {cc : ByteArray} {own : String}
variable {pc : Nat} {lv : List (Nat × am_AV)} {st : List am_AV} {S : am_S}
def am_C (p : Program) (s : State) (m : MethodId) (args : Array Value) (c : Code) (cc : ByteArray) (nL : Nat) (own : String) (G : am_G) : Prop :=
  p.tables.exec = Jvm.exec ∧ c.code = cc ∧ c.maxLocals = nL ∧ s.vm.findClass own = some m.cls ∧ (∀ w ∈ am_T, w.before args s = true) ∧ va_K G.2.1 vwCl (am_tys G) s ∧ am_Nw s
def am_V (p : Program) (l : Launch) (e : Env) (R : Room) (s : State) (m : MethodId) (args : Array Value) (below : List Frame) (meth : Method) (c : Code) (Q : State → Prop) (G : am_G) (A0 : Nat → Prop) (H0 : Heap) (nL kc ks : Nat) (pc : Nat) (lv : List (Nat × am_AV)) (st : List am_AV) (S : am_S) : Prop :=
  am_rS S → (∀ q ∈ lv, am_rv q.2) → (∀ v ∈ st, am_rv v) → ∀ (H : Heap) (locs : List Loc) (ls : Array Slot), va_P G.2.1 vwCl (am_W G S) H → va_D A0 (am_W G S) → va_S A0 H0 H locs → lv_has ls nL (lv.map (fun q => (q.1, am_cv G.1 q.2))) → W p l e R s m args below meth c H locs kc ks Q (F0 m pc ls (st.map (am_cv G.1)))
theorem av_lvat {ls : Array Slot} (hl : lv_has ls nL (lv.map (fun q => (q.1, am_cv G.1 q.2)))) {k i : Nat} {v : am_AV} (h : lv[k]? = some (i, v)) : ls[i]? = some (.val (am_cv G.1 v)) := lv_at hl k (by rw [List.getElem?_map, h]; rfl)
theorem av_c (v : am_AV) {st : List am_AV} (hv : am_rv v) (h : ∀ w ∈ st, am_rv w) : ∀ w ∈ v :: st, am_rv w := List.forall_mem_cons.mpr ⟨hv, h⟩
theorem av_h {v : am_AV} {st : List am_AV} (h : ∀ w ∈ v :: st, am_rv w) : am_rv v := h v List.mem_cons_self
theorem av_t {v : am_AV} {st : List am_AV} (h : ∀ w ∈ v :: st, am_rv w) : ∀ w ∈ st, am_rv w := fun w hw => h w (List.mem_cons_of_mem _ hw)
theorem av_m {k i : Nat} {v : am_AV} (h2 : ∀ q ∈ lv, am_rv q.2) (h : lv[k]? = some (i, v)) : am_rv v := h2 (i, v) (List.mem_of_getElem? h)
def am_rok (x : Int) : Bool := decide (-2147483648 ≤ x) && decide (x < 2147483648)
theorem am_rok_r {x : Int} (h : am_rok x = true) : am_r32 x := by
  simp only [am_rok, Bool.and_eq_true, decide_eq_true_eq] at h; exact h
def am_rok8 (x : Int) : Bool := decide (-128 ≤ x) && decide (x < 128)
def am_rok16 (x : Int) : Bool := decide (-32768 ≤ x) && decide (x < 32768)
theorem am_b8 {n : Int} (h : am_rok8 n = true) : (Int8.ofInt n).toInt32 = Int32.ofInt n := by
  simp only [am_rok8, Bool.and_eq_true, decide_eq_true_eq] at h
  apply Int32.toInt_inj.mp
  rw [Int8.toInt_toInt32, Int8.toInt_ofInt_of_le (by omega) (by omega), am_toInt (by unfold am_r32; omega)]
theorem am_b8r {n : Int} (h : am_rok8 n = true) : am_r32 n := by
  simp only [am_rok8, Bool.and_eq_true, decide_eq_true_eq] at h; unfold am_r32; omega
theorem am_b16 {n : Int} (h : am_rok16 n = true) : (Int16.ofInt n).toInt32 = Int32.ofInt n := by
  simp only [am_rok16, Bool.and_eq_true, decide_eq_true_eq] at h
  apply Int32.toInt_inj.mp
  rw [Int16.toInt_toInt32, Int16.toInt_ofInt_of_le (by omega) (by omega), am_toInt (by unfold am_r32; omega)]
theorem am_b16r {n : Int} (h : am_rok16 n = true) : am_r32 n := by
  simp only [am_rok16, Bool.and_eq_true, decide_eq_true_eq] at h; unfold am_r32; omega
def am_st1 (lv : List (Nat × am_AV)) (i : Nat) (v : am_AV) : List (Nat × am_AV) := (i, v) :: lv.filter (fun q => !(q.1 == i) && !(q.1 + 1 == i && am_cat q.2 == 2))
def am_st2 (lv : List (Nat × am_AV)) (i : Nat) (v : am_AV) : List (Nat × am_AV) := (i, v) :: lv.filter (fun q => !(q.1 == i) && (!(q.1 == i + 1) && !(q.1 + 1 == i && am_cat q.2 == 2)))
theorem am_st1_map (ad : Nat → Nat) (lv : List (Nat × am_AV)) (i : Nat) (v : am_AV) : (i, am_cv ad v) :: (lv.map (fun q => (q.1, am_cv ad q.2))).filter (fun q => !(q.1 == i) && !(q.1 + 1 == i && q.2.category == 2)) = (am_st1 lv i v).map (fun q => (q.1, am_cv ad q.2)) := by
  unfold am_st1
  rw [List.map_cons, List.filter_map]
  refine congrArg (fun z : List (Nat × am_AV) => (i, am_cv ad v) :: z.map (fun q => (q.1, am_cv ad q.2))) ?_
  apply List.filter_congr
  intro q _
  simp [am_cat_cv]
theorem am_st2_map (ad : Nat → Nat) (lv : List (Nat × am_AV)) (i : Nat) (v : am_AV) : (i, am_cv ad v) :: (lv.map (fun q => (q.1, am_cv ad q.2))).filter (fun q => !(q.1 == i) && (!(q.1 == i + 1) && !(q.1 + 1 == i && q.2.category == 2))) = (am_st2 lv i v).map (fun q => (q.1, am_cv ad q.2)) := by
  unfold am_st2
  rw [List.map_cons, List.filter_map]
  refine congrArg (fun z : List (Nat × am_AV) => (i, am_cv ad v) :: z.map (fun q => (q.1, am_cv ad q.2))) ?_
  apply List.filter_congr
  intro q _
  simp [am_cat_cv]
theorem am_st1_r {i : Nat} {v : am_AV} (hv : am_rv v) (h : ∀ q ∈ lv, am_rv q.2) : ∀ q ∈ am_st1 lv i v, am_rv q.2 := by
  intro q hq
  rcases List.mem_cons.mp hq with rfl | hq
  · exact hv
  · exact h q (List.mem_filter.mp hq).1
theorem am_st2_r {i : Nat} {v : am_AV} (hv : am_rv v) (h : ∀ q ∈ lv, am_rv q.2) : ∀ q ∈ am_st2 lv i v, am_rv q.2 := by
  intro q hq
  rcases List.mem_cons.mp hq with rfl | hq
  · exact hv
  · exact h q (List.mem_filter.mp hq).1
/-- the same place, the stack or the state written otherwise -/
theorem av_eq {pc2 : Nat} {lv2 : List (Nat × am_AV)} {st2 : List am_AV} {S2 : am_S} (h1 : pc = pc2) (h2 : lv = lv2) (h3 : st = st2) (h4 : S = S2) (k : am_V p l e R s m args below meth c Q G A0 H0 nL kc ks (pc2) (lv2) (st2) (S2)) : am_V p l e R s m args below meth c Q G A0 H0 nL kc ks (pc) (lv) (st) (S) := by
  subst h1; subst h2; subst h3; subst h4; exact k
theorem av_lvsub {lv2 : List (Nat × am_AV)} (pk : List Nat) (hk2 : pk.filterMap (fun k => lv[k]?) = lv2) (k : am_V p l e R s m args below meth c Q G A0 H0 nL kc ks (pc) (lv2) (st) (S)) : am_V p l e R s m args below meth c Q G A0 H0 nL kc ks (pc) (lv) (st) (S) := by
  intro h1 h2 h3 H locs ls hP hD hS hl
  refine k h1 (fun q hq => ?_) h3 H locs ls hP hD hS (lv_sub hl pk ?_)
  · subst hk2
    obtain ⟨i, -, hi⟩ := List.mem_filterMap.mp hq
    exact h2 q (List.mem_of_getElem? hi)
  · subst hk2
    unfold lv_pick
    rw [List.map_filterMap]
    congr 1
    funext i
    rw [List.getElem?_map]
theorem av_iconst (C : am_C p s m args c cc nL own G) {n : Int} (hd : decode cc pc = .ok (.iconst n, 1)) (hr : am_rok n = true) (kk : am_V p l e R s m args below meth c Q G A0 H0 nL kc ks (pc + 1) (lv) (am_I n :: st) (S)) : am_V p l e R s m args below meth c Q G A0 H0 nL kc ks (pc) (lv) (st) (S) := by
  intro h1 h2 h3 H locs ls hP hD hS hl
  refine lv_iconst C.1 C.2.1 hd rfl ?_
  exact kk h1 h2 (av_c _ (am_rok_r hr) h3) H locs ls hP hD hS hl
theorem av_bipush (C : am_C p s m args c cc nL own G) {n : Int} (hd : decode cc pc = .ok (.bipush n, 2)) (hr : am_rok8 n = true) (kk : am_V p l e R s m args below meth c Q G A0 H0 nL kc ks (pc + 2) (lv) (am_I n :: st) (S)) : am_V p l e R s m args below meth c Q G A0 H0 nL kc ks (pc) (lv) (st) (S) := by
  intro h1 h2 h3 H locs ls hP hD hS hl
  refine lv_bipush C.1 C.2.1 hd (am_b8 hr) ?_
  exact kk h1 h2 (av_c _ (am_b8r hr) h3) H locs ls hP hD hS hl
theorem av_sipush (C : am_C p s m args c cc nL own G) {n : Int} (hd : decode cc pc = .ok (.sipush n, 3)) (hr : am_rok16 n = true) (kk : am_V p l e R s m args below meth c Q G A0 H0 nL kc ks (pc + 3) (lv) (am_I n :: st) (S)) : am_V p l e R s m args below meth c Q G A0 H0 nL kc ks (pc) (lv) (st) (S) := by
  intro h1 h2 h3 H locs ls hP hD hS hl
  refine lv_sipush C.1 C.2.1 hd (am_b16 hr) ?_
  exact kk h1 h2 (av_c _ (am_b16r hr) h3) H locs ls hP hD hS hl
theorem av_lconst (C : am_C p s m args c cc nL own G) {n : Fin 2} {x : Int} (hd : decode cc pc = .ok (.lconst n, 1)) (hx : Int64.ofNat (n : Nat) = Int64.ofInt x) (hr : am_rok x = true) (kk : am_V p l e R s m args below meth c Q G A0 H0 nL kc ks (pc + 1) (lv) (am_J x :: st) (S)) : am_V p l e R s m args below meth c Q G A0 H0 nL kc ks (pc) (lv) (st) (S) := by
  intro h1 h2 h3 H locs ls hP hD hS hl
  refine lv_lconst C.1 C.2.1 hd hx ?_
  exact kk h1 h2 (av_c _ (am_r64_of (am_rok_r hr)) h3) H locs ls hP hD hS hl
theorem av_iload_n (C : am_C p s m args c cc nL own G) {k : Fin 4} {i j : Nat} {x : Int} (hd : decode cc pc = .ok (.iload_n k, 1)) (hi : (k : Nat) = i) (h : lv[j]? = some (i, am_I x)) (kk : am_V p l e R s m args below meth c Q G A0 H0 nL kc ks (pc + 1) (lv) (am_I x :: st) (S)) : am_V p l e R s m args below meth c Q G A0 H0 nL kc ks (pc) (lv) (st) (S) := by
  intro h1 h2 h3 H locs ls hP hD hS hl
  refine lv_iload_n C.1 C.2.1 hd hi (av_lvat hl h) ?_
  exact kk h1 h2 (av_c _ (av_m h2 h) h3) H locs ls hP hD hS hl
theorem av_iload (C : am_C p s m args c cc nL own G) {i j : Nat} {x : Int} (hd : decode cc pc = .ok (.iload i, 2)) (h : lv[j]? = some (i, am_I x)) (kk : am_V p l e R s m args below meth c Q G A0 H0 nL kc ks (pc + 2) (lv) (am_I x :: st) (S)) : am_V p l e R s m args below meth c Q G A0 H0 nL kc ks (pc) (lv) (st) (S) := by
  intro h1 h2 h3 H locs ls hP hD hS hl
  refine lv_iload C.1 C.2.1 hd (av_lvat hl h) ?_
  exact kk h1 h2 (av_c _ (av_m h2 h) h3) H locs ls hP hD hS hl
theorem av_lload_n (C : am_C p s m args c cc nL own G) {k : Fin 4} {i j : Nat} {x : Int} (hd : decode cc pc = .ok (.lload_n k, 1)) (hi : (k : Nat) = i) (h : lv[j]? = some (i, am_J x)) (kk : am_V p l e R s m args below meth c Q G A0 H0 nL kc ks (pc + 1) (lv) (am_J x :: st) (S)) : am_V p l e R s m args below meth c Q G A0 H0 nL kc ks (pc) (lv) (st) (S) := by
  intro h1 h2 h3 H locs ls hP hD hS hl
  refine lv_lload_n C.1 C.2.1 hd hi (av_lvat hl h) ?_
  exact kk h1 h2 (av_c _ (av_m h2 h) h3) H locs ls hP hD hS hl
theorem av_lload (C : am_C p s m args c cc nL own G) {i j : Nat} {x : Int} (hd : decode cc pc = .ok (.lload i, 2)) (h : lv[j]? = some (i, am_J x)) (kk : am_V p l e R s m args below meth c Q G A0 H0 nL kc ks (pc + 2) (lv) (am_J x :: st) (S)) : am_V p l e R s m args below meth c Q G A0 H0 nL kc ks (pc) (lv) (st) (S) := by
  intro h1 h2 h3 H locs ls hP hD hS hl
  refine lv_lload C.1 C.2.1 hd (av_lvat hl h) ?_
  exact kk h1 h2 (av_c _ (av_m h2 h) h3) H locs ls hP hD hS hl
theorem av_aload_n (C : am_C p s m args c cc nL own G) {k : Fin 4} {i j : Nat} {x : Nat} (hd : decode cc pc = .ok (.aload_n k, 1)) (hi : (k : Nat) = i) (h : lv[j]? = some (i, am_R x)) (kk : am_V p l e R s m args below meth c Q G A0 H0 nL kc ks (pc + 1) (lv) (am_R x :: st) (S)) : am_V p l e R s m args below meth c Q G A0 H0 nL kc ks (pc) (lv) (st) (S) := by
  intro h1 h2 h3 H locs ls hP hD hS hl
  refine lv_aload_n C.1 C.2.1 hd hi (av_lvat hl h) ?_
  exact kk h1 h2 (av_c _ (av_m h2 h) h3) H locs ls hP hD hS hl
theorem av_aload (C : am_C p s m args c cc nL own G) {i j : Nat} {x : Nat} (hd : decode cc pc = .ok (.aload i, 2)) (h : lv[j]? = some (i, am_R x)) (kk : am_V p l e R s m args below meth c Q G A0 H0 nL kc ks (pc + 2) (lv) (am_R x :: st) (S)) : am_V p l e R s m args below meth c Q G A0 H0 nL kc ks (pc) (lv) (st) (S) := by
  intro h1 h2 h3 H locs ls hP hD hS hl
  refine lv_aload C.1 C.2.1 hd (av_lvat hl h) ?_
  exact kk h1 h2 (av_c _ (av_m h2 h) h3) H locs ls hP hD hS hl
theorem av_istore_n (C : am_C p s m args c cc nL own G) {k : Fin 4} {i : Nat} {x : Int} {lv2 : List (Nat × am_AV)} (hd : decode cc pc = .ok (.istore_n k, 1)) (hi : (k : Nat) = i) (hn : i < nL) (hlv : am_st1 lv i (am_I x) = lv2) (kk : am_V p l e R s m args below meth c Q G A0 H0 nL kc ks (pc + 1) (lv2) (st) (S)) : am_V p l e R s m args below meth c Q G A0 H0 nL kc ks (pc) (lv) (am_I x :: st) (S) := by
  intro h1 h2 h3 H locs ls hP hD hS hl
  refine lv_istore_n C.1 C.2.1 hd hi hl hn (am_st1_map G.1 lv i (am_I x)) (fun ls' hl' => ?_)
  subst hlv
  exact kk h1 (am_st1_r (av_h h3) h2) (av_t h3) H locs ls' hP hD hS hl'
theorem av_istore (C : am_C p s m args c cc nL own G) {i : Nat} {x : Int} {lv2 : List (Nat × am_AV)} (hd : decode cc pc = .ok (.istore i, 2)) (hn : i < nL) (hlv : am_st1 lv i (am_I x) = lv2) (kk : am_V p l e R s m args below meth c Q G A0 H0 nL kc ks (pc + 2) (lv2) (st) (S)) : am_V p l e R s m args below meth c Q G A0 H0 nL kc ks (pc) (lv) (am_I x :: st) (S) := by
  intro h1 h2 h3 H locs ls hP hD hS hl
  refine lv_istore C.1 C.2.1 hd hl hn (am_st1_map G.1 lv i (am_I x)) (fun ls' hl' => ?_)
  subst hlv
  exact kk h1 (am_st1_r (av_h h3) h2) (av_t h3) H locs ls' hP hD hS hl'
theorem av_lstore_n (C : am_C p s m args c cc nL own G) {k : Fin 4} {i : Nat} {x : Int} {lv2 : List (Nat × am_AV)} (hd : decode cc pc = .ok (.lstore_n k, 1)) (hi : (k : Nat) = i) (hn : i + 1 < nL) (hlv : am_st2 lv i (am_J x) = lv2) (kk : am_V p l e R s m args below meth c Q G A0 H0 nL kc ks (pc + 1) (lv2) (st) (S)) : am_V p l e R s m args below meth c Q G A0 H0 nL kc ks (pc) (lv) (am_J x :: st) (S) := by
  intro h1 h2 h3 H locs ls hP hD hS hl
  refine lv_lstore_n C.1 C.2.1 hd hi hl hn (am_st2_map G.1 lv i (am_J x)) (fun ls' hl' => ?_)
  subst hlv
  exact kk h1 (am_st2_r (av_h h3) h2) (av_t h3) H locs ls' hP hD hS hl'
theorem av_lstore (C : am_C p s m args c cc nL own G) {i : Nat} {x : Int} {lv2 : List (Nat × am_AV)} (hd : decode cc pc = .ok (.lstore i, 2)) (hn : i + 1 < nL) (hlv : am_st2 lv i (am_J x) = lv2) (kk : am_V p l e R s m args below meth c Q G A0 H0 nL kc ks (pc + 2) (lv2) (st) (S)) : am_V p l e R s m args below meth c Q G A0 H0 nL kc ks (pc) (lv) (am_J x :: st) (S) := by
  intro h1 h2 h3 H locs ls hP hD hS hl
  refine lv_lstore C.1 C.2.1 hd hl hn (am_st2_map G.1 lv i (am_J x)) (fun ls' hl' => ?_)
  subst hlv
  exact kk h1 (am_st2_r (av_h h3) h2) (av_t h3) H locs ls' hP hD hS hl'
theorem av_astore_n (C : am_C p s m args c cc nL own G) {k : Fin 4} {i : Nat} {x : Nat} {lv2 : List (Nat × am_AV)} (hd : decode cc pc = .ok (.astore_n k, 1)) (hi : (k : Nat) = i) (hn : i < nL) (hlv : am_st1 lv i (am_R x) = lv2) (kk : am_V p l e R s m args below meth c Q G A0 H0 nL kc ks (pc + 1) (lv2) (st) (S)) : am_V p l e R s m args below meth c Q G A0 H0 nL kc ks (pc) (lv) (am_R x :: st) (S) := by
  intro h1 h2 h3 H locs ls hP hD hS hl
  refine lv_astore_n C.1 C.2.1 hd hi hl hn (am_st1_map G.1 lv i (am_R x)) (fun ls' hl' => ?_)
  subst hlv
  exact kk h1 (am_st1_r (av_h h3) h2) (av_t h3) H locs ls' hP hD hS hl'
theorem av_astore (C : am_C p s m args c cc nL own G) {i : Nat} {x : Nat} {lv2 : List (Nat × am_AV)} (hd : decode cc pc = .ok (.astore i, 2)) (hn : i < nL) (hlv : am_st1 lv i (am_R x) = lv2) (kk : am_V p l e R s m args below meth c Q G A0 H0 nL kc ks (pc + 2) (lv2) (st) (S)) : am_V p l e R s m args below meth c Q G A0 H0 nL kc ks (pc) (lv) (am_R x :: st) (S) := by
  intro h1 h2 h3 H locs ls hP hD hS hl
  refine lv_astore C.1 C.2.1 hd hl hn (am_st1_map G.1 lv i (am_R x)) (fun ls' hl' => ?_)
  subst hlv
  exact kk h1 (am_st1_r (av_h h3) h2) (av_t h3) H locs ls' hP hD hS hl'
theorem av_iinc (C : am_C p s m args c cc nL own G) {i j : Nat} {n x : Int} {lv2 : List (Nat × am_AV)} (hd : decode cc pc = .ok (.iinc i n, 3)) (h : lv[j]? = some (i, am_I x)) (hn : i < nL) (hlv : am_st1 lv i (am_I (am_w32 (x + n))) = lv2) (kk : am_V p l e R s m args below meth c Q G A0 H0 nL kc ks (pc + 3) (lv2) (st) (S)) : am_V p l e R s m args below meth c Q G A0 H0 nL kc ks (pc) (lv) (st) (S) := by
  intro h1 h2 h3 H locs ls hP hD hS hl
  refine lv_iinc (k := j) C.1 C.2.1 hd hl (by rw [List.getElem?_map, h]; rfl) (am_add x n) hn (am_st1_map G.1 lv i (am_I (am_w32 (x + n)))) (fun ls' hl' => ?_)
  subst hlv
  exact kk h1 (am_st1_r (v := am_I (am_w32 (x + n))) (am_w32_r _) h2) h3 H locs ls' hP hD hS hl'
theorem am_nz {y : Int} (hy : am_r32 y) (h : 0 < y) : ¬ Int32.ofInt y = 0 := by
  rw [am_zero, am_eq hy am_r0]; omega
theorem av_iadd (C : am_C p s m args c cc nL own G) {x y : Int} (hd : decode cc pc = .ok (.iadd, 1)) (kk : am_V p l e R s m args below meth c Q G A0 H0 nL kc ks (pc + 1) (lv) (am_I (am_w32 (x + y)) :: st) (S)) : am_V p l e R s m args below meth c Q G A0 H0 nL kc ks (pc) (lv) (am_I y :: am_I x :: st) (S) := by
  intro h1 h2 h3 H locs ls hP hD hS hl
  have hy : am_r32 y := av_h h3
  have hx : am_r32 x := av_h (av_t h3)
  have kk2 := kk h1 h2 (av_c _ (am_w32_r _) (av_t (av_t h3))) H locs ls hP hD hS hl
  refine lv_iadd C.1 C.2.1 hd ?_
  rw [am_add]
  exact kk2
theorem av_isub (C : am_C p s m args c cc nL own G) {x y : Int} (hd : decode cc pc = .ok (.isub, 1)) (kk : am_V p l e R s m args below meth c Q G A0 H0 nL kc ks (pc + 1) (lv) (am_I (am_w32 (x - y)) :: st) (S)) : am_V p l e R s m args below meth c Q G A0 H0 nL kc ks (pc) (lv) (am_I y :: am_I x :: st) (S) := by
  intro h1 h2 h3 H locs ls hP hD hS hl
  have hy : am_r32 y := av_h h3
  have hx : am_r32 x := av_h (av_t h3)
  have kk2 := kk h1 h2 (av_c _ (am_w32_r _) (av_t (av_t h3))) H locs ls hP hD hS hl
  refine lv_isub C.1 C.2.1 hd ?_
  rw [am_sub]
  exact kk2
theorem av_imul (C : am_C p s m args c cc nL own G) {x y : Int} (hd : decode cc pc = .ok (.imul, 1)) (kk : am_V p l e R s m args below meth c Q G A0 H0 nL kc ks (pc + 1) (lv) (am_I (am_w32 (x * y)) :: st) (S)) : am_V p l e R s m args below meth c Q G A0 H0 nL kc ks (pc) (lv) (am_I y :: am_I x :: st) (S) := by
  intro h1 h2 h3 H locs ls hP hD hS hl
  have hy : am_r32 y := av_h h3
  have hx : am_r32 x := av_h (av_t h3)
  have kk2 := kk h1 h2 (av_c _ (am_w32_r _) (av_t (av_t h3))) H locs ls hP hD hS hl
  refine lv_imul C.1 C.2.1 hd ?_
  rw [am_mul]
  exact kk2
theorem av_idiv (C : am_C p s m args c cc nL own G) {x y : Int} (hd : decode cc pc = .ok (.idiv, 1)) (hpos : 0 < y) (kk : am_V p l e R s m args below meth c Q G A0 H0 nL kc ks (pc + 1) (lv) (am_I (x.tdiv y) :: st) (S)) : am_V p l e R s m args below meth c Q G A0 H0 nL kc ks (pc) (lv) (am_I y :: am_I x :: st) (S) := by
  intro h1 h2 h3 H locs ls hP hD hS hl
  have hy : am_r32 y := av_h h3
  have hx : am_r32 x := av_h (av_t h3)
  have kk2 := kk h1 h2 (av_c _ (am_tdiv_r hx hpos) (av_t (av_t h3))) H locs ls hP hD hS hl
  refine lv_idiv C.1 C.2.1 hd (am_nz hy hpos) ?_
  rw [am_div hx hy hpos]
  exact kk2
theorem av_irem (C : am_C p s m args c cc nL own G) {x y : Int} (hd : decode cc pc = .ok (.irem, 1)) (hpos : 0 < y) (kk : am_V p l e R s m args below meth c Q G A0 H0 nL kc ks (pc + 1) (lv) (am_I (x.tmod y) :: st) (S)) : am_V p l e R s m args below meth c Q G A0 H0 nL kc ks (pc) (lv) (am_I y :: am_I x :: st) (S) := by
  intro h1 h2 h3 H locs ls hP hD hS hl
  have hy : am_r32 y := av_h h3
  have hx : am_r32 x := av_h (av_t h3)
  have kk2 := kk h1 h2 (av_c _ (am_tmod_r hx) (av_t (av_t h3))) H locs ls hP hD hS hl
  refine lv_irem C.1 C.2.1 hd (am_nz hy hpos) ?_
  rw [am_div hx hy hpos, am_mul, am_sub, show am_w32 (x - am_w32 (x.tdiv y * y)) = x.tmod y from by
    have h5 := am_tmod_r (y := y) hx
    have h6 := Int.tmod_def x y
    have h7 : x.tdiv y * y = x - x.tmod y := by rw [h6, Int.mul_comm]; omega
    have h8 : am_r32 (x - x.tmod y) := by
      have h9 : (x.tmod y).natAbs ≤ x.natAbs := by rw [Int.natAbs_tmod]; exact Nat.mod_le _ _
      have h10 : 0 ≤ x → 0 ≤ x.tmod y := fun h => Int.tmod_nonneg y h
      have h11 : x ≤ 0 → x.tmod y ≤ 0 := fun h => by have h4 := Int.tmod_nonneg (a := -x) y (by omega); rw [Int.neg_tmod] at h4; omega
      have h12 : 0 ≤ x ∨ x ≤ 0 := by omega
      unfold am_r32 at hx ⊢
      omega
    rw [h7, am_w32_id h8, show x - (x - x.tmod y) = x.tmod y by omega, am_w32_id h5]]
  exact kk2
theorem av_i2l (C : am_C p s m args c cc nL own G) {x : Int} (hd : decode cc pc = .ok (.i2l, 1)) (kk : am_V p l e R s m args below meth c Q G A0 H0 nL kc ks (pc + 1) (lv) (am_J x :: st) (S)) : am_V p l e R s m args below meth c Q G A0 H0 nL kc ks (pc) (lv) (am_I x :: st) (S) := by
  intro h1 h2 h3 H locs ls hP hD hS hl
  have hx : am_r32 x := av_h h3
  refine lv_i2l C.1 C.2.1 hd (am_i2l hx) ?_
  exact kk h1 h2 (av_c _ (am_r64_of hx) (av_t h3)) H locs ls hP hD hS hl
theorem av_l2i (C : am_C p s m args c cc nL own G) {x : Int} (hd : decode cc pc = .ok (.l2i, 1)) (kk : am_V p l e R s m args below meth c Q G A0 H0 nL kc ks (pc + 1) (lv) (am_I (am_w32 x) :: st) (S)) : am_V p l e R s m args below meth c Q G A0 H0 nL kc ks (pc) (lv) (am_J x :: st) (S) := by
  intro h1 h2 h3 H locs ls hP hD hS hl
  refine lv_l2i C.1 C.2.1 hd (am_l2i x) ?_
  exact kk h1 h2 (av_c _ (am_w32_r x) (av_t h3)) H locs ls hP hD hS hl
theorem av_lcmp (C : am_C p s m args c cc nL own G) {x y : Int} (hd : decode cc pc = .ok (.lcmp, 1)) (kk : am_V p l e R s m args below meth c Q G A0 H0 nL kc ks (pc + 1) (lv) (am_I (am_cmp x y) :: st) (S)) : am_V p l e R s m args below meth c Q G A0 H0 nL kc ks (pc) (lv) (am_J y :: am_J x :: st) (S) := by
  intro h1 h2 h3 H locs ls hP hD hS hl
  have hy : am_r64 y := av_h h3
  have hx : am_r64 x := av_h (av_t h3)
  have kk2 := kk h1 h2 (av_c _ (am_cmp_r x y) (av_t (av_t h3))) H locs ls hP hD hS hl
  refine W.lcmp C.1 C.2.1 hd ?_
  rw [am_lcmp hx hy]
  exact kk2
theorem am_cat1 {v : am_AV} (h : am_cat v = 1) : (am_cv G.1 v).category = 1 := by rw [am_cat_cv]; exact h
theorem av_dup (C : am_C p s m args c cc nL own G) {va : am_AV} (hd : decode cc pc = .ok (.dup, 1)) (hva : am_cat va = 1) (kk : am_V p l e R s m args below meth c Q G A0 H0 nL kc ks (pc + 1) (lv) (va :: va :: st) (S)) : am_V p l e R s m args below meth c Q G A0 H0 nL kc ks (pc) (lv) (va :: st) (S) := by
  intro h1 h2 h3 H locs ls hP hD hS hl
  have kk2 := kk h1 h2 (fun v hv => h3 v (by simp only [List.mem_cons] at hv ⊢; rcases hv with h | h | h <;> simp_all)) H locs ls hP hD hS hl
  exact lv_dup C.1 C.2.1 hd (am_cat1 hva) kk2
theorem av_pop (C : am_C p s m args c cc nL own G) {va : am_AV} (hd : decode cc pc = .ok (.pop, 1)) (hva : am_cat va = 1) (kk : am_V p l e R s m args below meth c Q G A0 H0 nL kc ks (pc + 1) (lv) (st) (S)) : am_V p l e R s m args below meth c Q G A0 H0 nL kc ks (pc) (lv) (va :: st) (S) := by
  intro h1 h2 h3 H locs ls hP hD hS hl
  have kk2 := kk h1 h2 (fun v hv => h3 v (by simp only [List.mem_cons] at hv ⊢; rcases hv with h <;> simp_all)) H locs ls hP hD hS hl
  exact lv_pop C.1 C.2.1 hd (am_cat1 hva) kk2
theorem av_dup_x1 (C : am_C p s m args c cc nL own G) {va vb : am_AV} (hd : decode cc pc = .ok (.dup_x1, 1)) (hva : am_cat va = 1) (hvb : am_cat vb = 1) (kk : am_V p l e R s m args below meth c Q G A0 H0 nL kc ks (pc + 1) (lv) (va :: vb :: va :: st) (S)) : am_V p l e R s m args below meth c Q G A0 H0 nL kc ks (pc) (lv) (va :: vb :: st) (S) := by
  intro h1 h2 h3 H locs ls hP hD hS hl
  have kk2 := kk h1 h2 (fun v hv => h3 v (by simp only [List.mem_cons] at hv ⊢; rcases hv with h | h | h | h <;> simp_all)) H locs ls hP hD hS hl
  exact lv_dup_x1 C.1 C.2.1 hd (am_cat1 hva) (am_cat1 hvb) kk2
theorem av_dup_x2 (C : am_C p s m args c cc nL own G) {va vb vd : am_AV} (hd : decode cc pc = .ok (.dup_x2, 1)) (hva : am_cat va = 1) (hvb : am_cat vb = 1) (hvd : am_cat vd = 1) (kk : am_V p l e R s m args below meth c Q G A0 H0 nL kc ks (pc + 1) (lv) (va :: vb :: vd :: va :: st) (S)) : am_V p l e R s m args below meth c Q G A0 H0 nL kc ks (pc) (lv) (va :: vb :: vd :: st) (S) := by
  intro h1 h2 h3 H locs ls hP hD hS hl
  have kk2 := kk h1 h2 (fun v hv => h3 v (by simp only [List.mem_cons] at hv ⊢; rcases hv with h | h | h | h | h <;> simp_all)) H locs ls hP hD hS hl
  exact lv_dup_x2 C.1 C.2.1 hd (am_cat1 hva) (am_cat1 hvb) (am_cat1 hvd) kk2
theorem av_dup2 (C : am_C p s m args c cc nL own G) {va vb : am_AV} (hd : decode cc pc = .ok (.dup2, 1)) (hva : am_cat va = 1) (hvb : am_cat vb = 1) (kk : am_V p l e R s m args below meth c Q G A0 H0 nL kc ks (pc + 1) (lv) (va :: vb :: va :: vb :: st) (S)) : am_V p l e R s m args below meth c Q G A0 H0 nL kc ks (pc) (lv) (va :: vb :: st) (S) := by
  intro h1 h2 h3 H locs ls hP hD hS hl
  have kk2 := kk h1 h2 (fun v hv => h3 v (by simp only [List.mem_cons] at hv ⊢; rcases hv with h | h | h | h | h <;> simp_all)) H locs ls hP hD hS hl
  exact lv_dup2_11 C.1 C.2.1 hd (am_cat1 hva) (am_cat1 hvb) kk2
theorem av_goto (C : am_C p s m args c cc nL own G) {off : Int} {tgt : Nat} (hd : decode cc pc = .ok (.goto off, 3)) (ht : (pc : Int) + off = (tgt : Int)) (kk : am_V p l e R s m args below meth c Q G A0 H0 nL kc ks (tgt) (lv) (st) (S)) : am_V p l e R s m args below meth c Q G A0 H0 nL kc ks (pc) (lv) (st) (S) := by
  intro h1 h2 h3 H locs ls hP hD hS hl
  exact lv_goto C.1 C.2.1 hd ht (kk h1 h2 h3 H locs ls hP hD hS hl)
theorem av_if_eq (C : am_C p s m args c cc nL own G) {x : Int} {off : Int} {tgt : Nat} (hd : decode cc pc = .ok (.ifCond .eq off, 3)) (ht : (pc : Int) + off = (tgt : Int)) (kt : x = 0 → am_V p l e R s m args below meth c Q G A0 H0 nL kc ks (tgt) (lv) (st) (S)) (kf : ¬ (x = 0) → am_V p l e R s m args below meth c Q G A0 H0 nL kc ks (pc + 3) (lv) (st) (S)) : am_V p l e R s m args below meth c Q G A0 H0 nL kc ks (pc) (lv) (am_I x :: st) (S) := by
  intro h1 h2 h3 H locs ls hP hD hS hl
  have hx : am_r32 x := av_h h3
  have hy : am_r32 (0 : Int) := am_r0
  have h4 := av_t h3
  have hi := am_eq hx hy
  exact lv_if_eq C.1 C.2.1 hd ht (fun hc => kt (hi.mp hc) h1 h2 h4 H locs ls hP hD hS hl) (fun hc => kf (fun h => hc (hi.mpr h)) h1 h2 h4 H locs ls hP hD hS hl)
theorem av_icmp_eq (C : am_C p s m args c cc nL own G) {x y : Int} {off : Int} {tgt : Nat} (hd : decode cc pc = .ok (.if_icmp .eq off, 3)) (ht : (pc : Int) + off = (tgt : Int)) (kt : x = y → am_V p l e R s m args below meth c Q G A0 H0 nL kc ks (tgt) (lv) (st) (S)) (kf : ¬ (x = y) → am_V p l e R s m args below meth c Q G A0 H0 nL kc ks (pc + 3) (lv) (st) (S)) : am_V p l e R s m args below meth c Q G A0 H0 nL kc ks (pc) (lv) (am_I y :: am_I x :: st) (S) := by
  intro h1 h2 h3 H locs ls hP hD hS hl
  have hy : am_r32 y := av_h h3
  have hx : am_r32 x := av_h (av_t h3)
  have h4 := av_t (av_t h3)
  have hi := am_eq hx hy
  exact lv_icmp_eq C.1 C.2.1 hd ht (fun hc => kt (hi.mp hc) h1 h2 h4 H locs ls hP hD hS hl) (fun hc => kf (fun h => hc (hi.mpr h)) h1 h2 h4 H locs ls hP hD hS hl)
theorem av_if_ne (C : am_C p s m args c cc nL own G) {x : Int} {off : Int} {tgt : Nat} (hd : decode cc pc = .ok (.ifCond .ne off, 3)) (ht : (pc : Int) + off = (tgt : Int)) (kt : ¬ x = 0 → am_V p l e R s m args below meth c Q G A0 H0 nL kc ks (tgt) (lv) (st) (S)) (kf : ¬ (¬ x = 0) → am_V p l e R s m args below meth c Q G A0 H0 nL kc ks (pc + 3) (lv) (st) (S)) : am_V p l e R s m args below meth c Q G A0 H0 nL kc ks (pc) (lv) (am_I x :: st) (S) := by
  intro h1 h2 h3 H locs ls hP hD hS hl
  have hx : am_r32 x := av_h h3
  have hy : am_r32 (0 : Int) := am_r0
  have h4 := av_t h3
  have hi := not_congr (am_eq hx hy)
  exact lv_if_ne C.1 C.2.1 hd ht (fun hc => kt (hi.mp hc) h1 h2 h4 H locs ls hP hD hS hl) (fun hc => kf (fun h => h ((am_eq hx hy).mp hc)) h1 h2 h4 H locs ls hP hD hS hl)
theorem av_icmp_ne (C : am_C p s m args c cc nL own G) {x y : Int} {off : Int} {tgt : Nat} (hd : decode cc pc = .ok (.if_icmp .ne off, 3)) (ht : (pc : Int) + off = (tgt : Int)) (kt : ¬ x = y → am_V p l e R s m args below meth c Q G A0 H0 nL kc ks (tgt) (lv) (st) (S)) (kf : ¬ (¬ x = y) → am_V p l e R s m args below meth c Q G A0 H0 nL kc ks (pc + 3) (lv) (st) (S)) : am_V p l e R s m args below meth c Q G A0 H0 nL kc ks (pc) (lv) (am_I y :: am_I x :: st) (S) := by
  intro h1 h2 h3 H locs ls hP hD hS hl
  have hy : am_r32 y := av_h h3
  have hx : am_r32 x := av_h (av_t h3)
  have h4 := av_t (av_t h3)
  have hi := not_congr (am_eq hx hy)
  exact lv_icmp_ne C.1 C.2.1 hd ht (fun hc => kt (hi.mp hc) h1 h2 h4 H locs ls hP hD hS hl) (fun hc => kf (fun h => h ((am_eq hx hy).mp hc)) h1 h2 h4 H locs ls hP hD hS hl)
theorem av_if_lt (C : am_C p s m args c cc nL own G) {x : Int} {off : Int} {tgt : Nat} (hd : decode cc pc = .ok (.ifCond .lt off, 3)) (ht : (pc : Int) + off = (tgt : Int)) (kt : x < 0 → am_V p l e R s m args below meth c Q G A0 H0 nL kc ks (tgt) (lv) (st) (S)) (kf : ¬ (x < 0) → am_V p l e R s m args below meth c Q G A0 H0 nL kc ks (pc + 3) (lv) (st) (S)) : am_V p l e R s m args below meth c Q G A0 H0 nL kc ks (pc) (lv) (am_I x :: st) (S) := by
  intro h1 h2 h3 H locs ls hP hD hS hl
  have hx : am_r32 x := av_h h3
  have hy : am_r32 (0 : Int) := am_r0
  have h4 := av_t h3
  have hi := am_lt hx hy
  exact lv_if_lt C.1 C.2.1 hd ht (fun hc => kt (hi.mp hc) h1 h2 h4 H locs ls hP hD hS hl) (fun hc => kf (fun h => hc (hi.mpr h)) h1 h2 h4 H locs ls hP hD hS hl)
theorem av_icmp_lt (C : am_C p s m args c cc nL own G) {x y : Int} {off : Int} {tgt : Nat} (hd : decode cc pc = .ok (.if_icmp .lt off, 3)) (ht : (pc : Int) + off = (tgt : Int)) (kt : x < y → am_V p l e R s m args below meth c Q G A0 H0 nL kc ks (tgt) (lv) (st) (S)) (kf : ¬ (x < y) → am_V p l e R s m args below meth c Q G A0 H0 nL kc ks (pc + 3) (lv) (st) (S)) : am_V p l e R s m args below meth c Q G A0 H0 nL kc ks (pc) (lv) (am_I y :: am_I x :: st) (S) := by
  intro h1 h2 h3 H locs ls hP hD hS hl
  have hy : am_r32 y := av_h h3
  have hx : am_r32 x := av_h (av_t h3)
  have h4 := av_t (av_t h3)
  have hi := am_lt hx hy
  exact lv_icmp_lt C.1 C.2.1 hd ht (fun hc => kt (hi.mp hc) h1 h2 h4 H locs ls hP hD hS hl) (fun hc => kf (fun h => hc (hi.mpr h)) h1 h2 h4 H locs ls hP hD hS hl)
theorem av_if_ge (C : am_C p s m args c cc nL own G) {x : Int} {off : Int} {tgt : Nat} (hd : decode cc pc = .ok (.ifCond .ge off, 3)) (ht : (pc : Int) + off = (tgt : Int)) (kt : 0 ≤ x → am_V p l e R s m args below meth c Q G A0 H0 nL kc ks (tgt) (lv) (st) (S)) (kf : ¬ (0 ≤ x) → am_V p l e R s m args below meth c Q G A0 H0 nL kc ks (pc + 3) (lv) (st) (S)) : am_V p l e R s m args below meth c Q G A0 H0 nL kc ks (pc) (lv) (am_I x :: st) (S) := by
  intro h1 h2 h3 H locs ls hP hD hS hl
  have hx : am_r32 x := av_h h3
  have hy : am_r32 (0 : Int) := am_r0
  have h4 := av_t h3
  have hi := am_le hy hx
  exact lv_if_ge C.1 C.2.1 hd ht (fun hc => kt (hi.mp hc) h1 h2 h4 H locs ls hP hD hS hl) (fun hc => kf (fun h => hc (hi.mpr h)) h1 h2 h4 H locs ls hP hD hS hl)
theorem av_icmp_ge (C : am_C p s m args c cc nL own G) {x y : Int} {off : Int} {tgt : Nat} (hd : decode cc pc = .ok (.if_icmp .ge off, 3)) (ht : (pc : Int) + off = (tgt : Int)) (kt : y ≤ x → am_V p l e R s m args below meth c Q G A0 H0 nL kc ks (tgt) (lv) (st) (S)) (kf : ¬ (y ≤ x) → am_V p l e R s m args below meth c Q G A0 H0 nL kc ks (pc + 3) (lv) (st) (S)) : am_V p l e R s m args below meth c Q G A0 H0 nL kc ks (pc) (lv) (am_I y :: am_I x :: st) (S) := by
  intro h1 h2 h3 H locs ls hP hD hS hl
  have hy : am_r32 y := av_h h3
  have hx : am_r32 x := av_h (av_t h3)
  have h4 := av_t (av_t h3)
  have hi := am_le hy hx
  exact lv_icmp_ge C.1 C.2.1 hd ht (fun hc => kt (hi.mp hc) h1 h2 h4 H locs ls hP hD hS hl) (fun hc => kf (fun h => hc (hi.mpr h)) h1 h2 h4 H locs ls hP hD hS hl)
theorem av_if_gt (C : am_C p s m args c cc nL own G) {x : Int} {off : Int} {tgt : Nat} (hd : decode cc pc = .ok (.ifCond .gt off, 3)) (ht : (pc : Int) + off = (tgt : Int)) (kt : 0 < x → am_V p l e R s m args below meth c Q G A0 H0 nL kc ks (tgt) (lv) (st) (S)) (kf : ¬ (0 < x) → am_V p l e R s m args below meth c Q G A0 H0 nL kc ks (pc + 3) (lv) (st) (S)) : am_V p l e R s m args below meth c Q G A0 H0 nL kc ks (pc) (lv) (am_I x :: st) (S) := by
  intro h1 h2 h3 H locs ls hP hD hS hl
  have hx : am_r32 x := av_h h3
  have hy : am_r32 (0 : Int) := am_r0
  have h4 := av_t h3
  have hi := am_lt hy hx
  exact lv_if_gt C.1 C.2.1 hd ht (fun hc => kt (hi.mp hc) h1 h2 h4 H locs ls hP hD hS hl) (fun hc => kf (fun h => hc (hi.mpr h)) h1 h2 h4 H locs ls hP hD hS hl)
theorem av_icmp_gt (C : am_C p s m args c cc nL own G) {x y : Int} {off : Int} {tgt : Nat} (hd : decode cc pc = .ok (.if_icmp .gt off, 3)) (ht : (pc : Int) + off = (tgt : Int)) (kt : y < x → am_V p l e R s m args below meth c Q G A0 H0 nL kc ks (tgt) (lv) (st) (S)) (kf : ¬ (y < x) → am_V p l e R s m args below meth c Q G A0 H0 nL kc ks (pc + 3) (lv) (st) (S)) : am_V p l e R s m args below meth c Q G A0 H0 nL kc ks (pc) (lv) (am_I y :: am_I x :: st) (S) := by
  intro h1 h2 h3 H locs ls hP hD hS hl
  have hy : am_r32 y := av_h h3
  have hx : am_r32 x := av_h (av_t h3)
  have h4 := av_t (av_t h3)
  have hi := am_lt hy hx
  exact lv_icmp_gt C.1 C.2.1 hd ht (fun hc => kt (hi.mp hc) h1 h2 h4 H locs ls hP hD hS hl) (fun hc => kf (fun h => hc (hi.mpr h)) h1 h2 h4 H locs ls hP hD hS hl)
theorem av_if_le (C : am_C p s m args c cc nL own G) {x : Int} {off : Int} {tgt : Nat} (hd : decode cc pc = .ok (.ifCond .le off, 3)) (ht : (pc : Int) + off = (tgt : Int)) (kt : x ≤ 0 → am_V p l e R s m args below meth c Q G A0 H0 nL kc ks (tgt) (lv) (st) (S)) (kf : ¬ (x ≤ 0) → am_V p l e R s m args below meth c Q G A0 H0 nL kc ks (pc + 3) (lv) (st) (S)) : am_V p l e R s m args below meth c Q G A0 H0 nL kc ks (pc) (lv) (am_I x :: st) (S) := by
  intro h1 h2 h3 H locs ls hP hD hS hl
  have hx : am_r32 x := av_h h3
  have hy : am_r32 (0 : Int) := am_r0
  have h4 := av_t h3
  have hi := am_le hx hy
  exact lv_if_le C.1 C.2.1 hd ht (fun hc => kt (hi.mp hc) h1 h2 h4 H locs ls hP hD hS hl) (fun hc => kf (fun h => hc (hi.mpr h)) h1 h2 h4 H locs ls hP hD hS hl)
theorem av_icmp_le (C : am_C p s m args c cc nL own G) {x y : Int} {off : Int} {tgt : Nat} (hd : decode cc pc = .ok (.if_icmp .le off, 3)) (ht : (pc : Int) + off = (tgt : Int)) (kt : x ≤ y → am_V p l e R s m args below meth c Q G A0 H0 nL kc ks (tgt) (lv) (st) (S)) (kf : ¬ (x ≤ y) → am_V p l e R s m args below meth c Q G A0 H0 nL kc ks (pc + 3) (lv) (st) (S)) : am_V p l e R s m args below meth c Q G A0 H0 nL kc ks (pc) (lv) (am_I y :: am_I x :: st) (S) := by
  intro h1 h2 h3 H locs ls hP hD hS hl
  have hy : am_r32 y := av_h h3
  have hx : am_r32 x := av_h (av_t h3)
  have h4 := av_t (av_t h3)
  have hi := am_le hx hy
  exact lv_icmp_le C.1 C.2.1 hd ht (fun hc => kt (hi.mp hc) h1 h2 h4 H locs ls hP hD hS hl) (fun hc => kf (fun h => hc (hi.mpr h)) h1 h2 h4 H locs ls hP hD hS hl)
theorem av_swo (C : am_C p s m args c cc nL own G) {x dflt lo hi : Int} {offs : Array Int} {len tgt : Nat} (hd : decode cc pc = .ok (.tableswitch dflt lo hi offs, len)) (h : x < lo ∨ hi < x) (ht : (pc : Int) + dflt = (tgt : Int)) (kk : am_V p l e R s m args below meth c Q G A0 H0 nL kc ks (tgt) (lv) (st) (S)) : am_V p l e R s m args below meth c Q G A0 H0 nL kc ks (pc) (lv) (am_I x :: st) (S) := by
  intro h1 h2 h3 H locs ls hP hD hS hl
  have hx : am_r32 x := av_h h3
  exact lv_tableOut C.1 C.2.1 hd (by rw [am_toInt hx]; exact h) ht (kk h1 h2 (av_t h3) H locs ls hP hD hS hl)
theorem av_swi (C : am_C p s m args c cc nL own G) {x dflt lo hi off : Int} {offs : Array Int} {len tgt k : Nat} (hd : decode cc pc = .ok (.tableswitch dflt lo hi offs, len)) (hx0 : x = lo + k) (hk : ¬ hi < lo + k) (ho : offs[k]? = some off) (ht : (pc : Int) + off = (tgt : Int)) (kk : am_V p l e R s m args below meth c Q G A0 H0 nL kc ks (tgt) (lv) (st) (S)) : am_V p l e R s m args below meth c Q G A0 H0 nL kc ks (pc) (lv) (am_I x :: st) (S) := by
  intro h1 h2 h3 H locs ls hP hD hS hl
  have hx : am_r32 x := av_h h3
  exact lv_tableIn C.1 C.2.1 hd (by rw [am_toInt hx]; omega) (by rw [am_toInt hx]; omega) (by rw [am_toInt hx, show (x - lo).toNat = k by omega]; exact ho) ht (kk h1 h2 (av_t h3) H locs ls hP hD hS hl)
theorem av_ldc (C : am_C p s m args c cc nL own G) {idx : Nat} {x : Int} (hw : Cond.constant own idx (Int32.ofInt x) ∈ am_T) (hr : am_rok x = true) (hd : decode cc pc = .ok (.ldc idx, 2)) (kk : am_V p l e R s m args below meth c Q G A0 H0 nL kc ks (pc + 2) (lv) (am_I x :: st) (S)) : am_V p l e R s m args below meth c Q G A0 H0 nL kc ks (pc) (lv) (st) (S) := by
  intro h1 h2 h3 H locs ls hP hD hS hl
  refine W.ldc C.1 C.2.1 C.2.2.2.1 (C.2.2.2.2.1 _ hw) rfl hd ?_
  exact kk h1 h2 (av_c _ (am_rok_r hr) h3) H locs ls hP hD hS hl
theorem av_ldc2 (C : am_C p s m args c cc nL own G) {idx : Nat} {x : Int} (hw : Cond.constantLong own idx (Int64.ofInt x) ∈ am_T) (hr : am_r64 x) (hd : decode cc pc = .ok (.ldc2_w idx, 3)) (kk : am_V p l e R s m args below meth c Q G A0 H0 nL kc ks (pc + 3) (lv) (am_J x :: st) (S)) : am_V p l e R s m args below meth c Q G A0 H0 nL kc ks (pc) (lv) (st) (S) := by
  intro h1 h2 h3 H locs ls hP hD hS hl
  refine W.ldc2 C.1 C.2.1 C.2.2.2.1 (C.2.2.2.2.1 _ hw) rfl hd ?_
  exact kk h1 h2 (av_c _ hr h3) H locs ls hP hD hS hl
def am_fld (own : String) (ci idx k : Nat) : Prop := ∃ (T : u_T) (N : Nat), vwCl[ci]? = some (own, T, N) ∧ (∀ w ∈ u_ws own T N, w ∈ am_T) ∧ k < N ∧ (T k).1 = own ∧ Cond.fieldLink own idx own (T k).2.1 (T k).2.2.1 ∈ am_T
def am_fldP (own : String) (ci idx k : Nat) (ty : FieldType) : Prop := ∃ (T : u_T) (N : Nat) (ty0 : Nat → FieldType), vwCl[ci]? = some (own, T, N) ∧ (∀ w ∈ u_ws own T N, w ∈ am_T) ∧ k < N ∧ (T k).1 = own ∧ Cond.fieldLink own idx own (T k).2.1 (T k).2.2.1 ∈ am_T ∧ (∀ k, k < N → parseFieldDescriptor (T k).2.2.1 = some (ty0 k)) ∧ (∀ a, a < N → ∀ b, b < N → a ≠ b → (T a).2.1 ≠ (T b).2.1) ∧ (T k).2.2.2 = false ∧ parseFieldDescriptor (T k).2.2.1 = some ty
theorem av_getI (C : am_C p s m args c cc nL own G) {id ci k idx n : Nat} {fl : List (Option Nat)} (hf : am_fld own ci idx k) (hk : am_sk[id]? = some (.inl (ci, fl))) (hl0 : fl[k]? = some none) (hn : 64 * id + k = n) (hd : decode cc pc = .ok (.getfield idx, 3)) (kk : am_V p l e R s m args below meth c Q G A0 H0 nL kc ks (pc + 3) (lv) (am_I (S.1 n) :: st) (S)) : am_V p l e R s m args below meth c Q G A0 H0 nL kc ks (pc) (lv) (am_R id :: st) (S) := by
  intro h1 h2 h3 H locs ls hP hD hS hl
  obtain ⟨T, N, hc, hin, hkN, hT1, hlk⟩ := hf
  subst hn
  refine va_get C.1 C.2.1 C.2.2.2.2.1 hin C.2.2.2.1 C.2.2.2.2.2.1 hP id (am_W_at hk) hc k hkN (C.2.2.2.2.1 _ hlk) (fun x h => by rw [hT1] at h; exact h) (am_fs_int G.1 S id fl 0 k hl0) hd ?_
  rw [Nat.zero_add]
  exact kk h1 h2 (av_c _ (h1.1 _) (av_t h3)) H locs ls hP hD hS hl
theorem av_getR (C : am_C p s m args c cc nL own G) {id ci k idx r : Nat} {fl : List (Option Nat)} (hf : am_fld own ci idx k) (hk : am_sk[id]? = some (.inl (ci, fl))) (hl0 : fl[k]? = some (some r)) (hd : decode cc pc = .ok (.getfield idx, 3)) (kk : am_V p l e R s m args below meth c Q G A0 H0 nL kc ks (pc + 3) (lv) (am_R r :: st) (S)) : am_V p l e R s m args below meth c Q G A0 H0 nL kc ks (pc) (lv) (am_R id :: st) (S) := by
  intro h1 h2 h3 H locs ls hP hD hS hl
  obtain ⟨T, N, hc, hin, hkN, hT1, hlk⟩ := hf
  refine va_get C.1 C.2.1 C.2.2.2.2.1 hin C.2.2.2.1 C.2.2.2.2.2.1 hP id (am_W_at hk) hc k hkN (C.2.2.2.2.1 _ hlk) (fun x h => by rw [hT1] at h; exact h) (am_fs_ref G.1 S id fl 0 k r hl0) hd ?_
  exact kk h1 h2 (av_c _ trivial (av_t h3)) H locs ls hP hD hS hl
theorem av_putI (C : am_C p s m args c cc nL own G) {id ci k idx n : Nat} {fl : List (Option Nat)} {x : Int} (hf : am_fldP own ci idx k .int) (hk : am_sk[id]? = some (.inl (ci, fl))) (hl0 : fl[k]? = some none) (hn : 64 * id + k = n) (hd : decode cc pc = .ok (.putfield idx, 3)) (kk : am_V p l e R s m args below meth c Q G A0 H0 nL kc ks (pc + 3) (lv) (st) (am_sI S n x)) : am_V p l e R s m args below meth c Q G A0 H0 nL kc ks (pc) (lv) (am_I x :: am_R id :: st) (S) := by
  intro h1 h2 h3 H locs ls hP hD hS hl
  obtain ⟨T, N, ty0, hc, hin, hkN, hT1, hlk, hty, hnm, hfin, hpd⟩ := hf
  subst hn
  refine va_put C.1 C.2.1 C.2.2.2.2.1 hin ty0 hty hnm C.2.2.2.1 C.2.2.2.2.2.1 hP hD hS id (am_W_at hk) hc k hkN (C.2.2.2.2.1 _ hlk) (fun x h => by rw [hT1] at h; exact h) hfin hpd (rfl) (rfl) (by rw [am_fs_len]; exact (List.getElem?_eq_some_iff.mp hl0).1) hd (fun H1 locs1 hP1 hD1 hS1 => ?_)
  have e := am_W_setI (G := G) (S := S) x hk hl0
  exact kk (am_rS_I h1 (av_h h3)) h2 (av_t (av_t h3)) H1 locs1 ls (e ▸ hP1) (e ▸ hD1) hS1 hl
theorem av_putZ (C : am_C p s m args c cc nL own G) {id ci k idx n : Nat} {fl : List (Option Nat)} {x : Int} (hf : am_fldP own ci idx k .boolean) (hk : am_sk[id]? = some (.inl (ci, fl))) (hl0 : fl[k]? = some none) (hn : 64 * id + k = n) (hz : x = 0 ∨ x = 1) (hd : decode cc pc = .ok (.putfield idx, 3)) (kk : am_V p l e R s m args below meth c Q G A0 H0 nL kc ks (pc + 3) (lv) (st) (am_sI S n x)) : am_V p l e R s m args below meth c Q G A0 H0 nL kc ks (pc) (lv) (am_I x :: am_R id :: st) (S) := by
  intro h1 h2 h3 H locs ls hP hD hS hl
  obtain ⟨T, N, ty0, hc, hin, hkN, hT1, hlk, hty, hnm, hfin, hpd⟩ := hf
  subst hn
  refine va_put C.1 C.2.1 C.2.2.2.2.1 hin ty0 hty hnm C.2.2.2.1 C.2.2.2.2.2.1 hP hD hS id (am_W_at hk) hc k hkN (C.2.2.2.2.1 _ hlk) (fun x h => by rw [hT1] at h; exact h) hfin hpd (by rcases hz with rfl | rfl <;> rfl) (by rcases hz with rfl | rfl <;> rfl) (by rw [am_fs_len]; exact (List.getElem?_eq_some_iff.mp hl0).1) hd (fun H1 locs1 hP1 hD1 hS1 => ?_)
  have e := am_W_setI (G := G) (S := S) x hk hl0
  exact kk (am_rS_I h1 (av_h h3)) h2 (av_t (av_t h3)) H1 locs1 ls (e ▸ hP1) (e ▸ hD1) hS1 hl
theorem am_in {i : Int} {n : Nat} (hi : am_r32 i) (hb : 0 ≤ i ∧ i < (n : Int)) : vp_in (Int32.ofInt i) n := by
  intro h
  rcases h with h | h
  · rw [am_zero, am_lt hi am_r0] at h; omega
  · rw [am_toNat hi] at h; omega
theorem av_iald (C : am_C p s m args c cc nL own G) {id n : Nat} {i : Int} (hk : am_sk[id]? = some (.inr (0, n))) (hb : 0 ≤ i ∧ i < (n : Int)) (hd : decode cc pc = .ok (.iaload, 1)) (kk : am_V p l e R s m args below meth c Q G A0 H0 nL kc ks (pc + 1) (lv) (am_I (S.2 id i.toNat) :: st) (S)) : am_V p l e R s m args below meth c Q G A0 H0 nL kc ks (pc) (lv) (am_I i :: am_R id :: st) (S) := by
  intro h1 h2 h3 H locs ls hP hD hS hl
  have hi : am_r32 i := av_h h3
  refine va_iald C.1 C.2.1 C.2.2.2.2.2.1 hP id 0 (am_W_at hk) rfl (am_in hi hb) hd ?_
  rw [am_toNat hi]
  exact kk h1 h2 (av_c _ ((h1.2 id i.toNat).2 _ _ hk (by decide)) (av_t (av_t h3))) H locs ls hP hD hS hl
theorem av_zald (C : am_C p s m args c cc nL own G) {id n : Nat} {i : Int} (hk : am_sk[id]? = some (.inr (1, n))) (hb : 0 ≤ i ∧ i < (n : Int)) (hd : decode cc pc = .ok (.baload, 1)) (kk : am_V p l e R s m args below meth c Q G A0 H0 nL kc ks (pc + 1) (lv) (am_I (S.2 id i.toNat) :: st) (S)) : am_V p l e R s m args below meth c Q G A0 H0 nL kc ks (pc) (lv) (am_I i :: am_R id :: st) (S) := by
  intro h1 h2 h3 H locs ls hP hD hS hl
  have hi : am_r32 i := av_h h3
  refine va_zald C.1 C.2.1 C.2.2.2.2.2.1 hP id 1 (am_W_at hk) rfl (am_in hi hb) hd ?_
  rw [am_toNat hi]
  exact kk h1 h2 (av_c _ ((h1.2 id i.toNat).2 _ _ hk (by decide)) (av_t (av_t h3))) H locs ls hP hD hS hl
theorem av_lald (C : am_C p s m args c cc nL own G) {id n : Nat} {i : Int} (hk : am_sk[id]? = some (.inr (2, n))) (hb : 0 ≤ i ∧ i < (n : Int)) (hd : decode cc pc = .ok (.laload, 1)) (kk : am_V p l e R s m args below meth c Q G A0 H0 nL kc ks (pc + 1) (lv) (am_J (S.2 id i.toNat) :: st) (S)) : am_V p l e R s m args below meth c Q G A0 H0 nL kc ks (pc) (lv) (am_I i :: am_R id :: st) (S) := by
  intro h1 h2 h3 H locs ls hP hD hS hl
  have hi : am_r32 i := av_h h3
  refine va_lald C.1 C.2.1 C.2.2.2.2.2.1 hP id 2 (am_W_at hk) rfl (am_in hi hb) hd ?_
  rw [am_toNat hi]
  exact kk h1 h2 (av_c _ (h1.2 id i.toNat).1 (av_t (av_t h3))) H locs ls hP hD hS hl
theorem am_upd_ofInt (f : Nat → Int) (j : Nat) (x : Int) : upd (fun q => Int32.ofInt (f q)) j (Int32.ofInt x) = fun q => Int32.ofInt (am_up f j x q) := by
  funext q
  unfold upd am_up
  split <;> rfl
theorem am_updL_ofInt (f : Nat → Int) (j : Nat) (x : Int) : vp_updL (fun q => Int64.ofInt (f q)) j (Int64.ofInt x) = fun q => Int64.ofInt (am_up f j x q) := by
  funext q
  unfold vp_updL am_up
  split <;> rfl
theorem am_nar_z {x : Int} (hz : x = 0 ∨ x = 1) : vp_nar .boolean (Int32.ofInt x) = Int32.ofInt x := by rcases hz with rfl | rfl <;> rfl
theorem av_iast (C : am_C p s m args c cc nL own G) {id n : Nat} {i x : Int} (hk : am_sk[id]? = some (.inr (0, n))) (hb : 0 ≤ i ∧ i < (n : Int)) (hd : decode cc pc = .ok (.iastore, 1)) (kk : am_V p l e R s m args below meth c Q G A0 H0 nL kc ks (pc + 1) (lv) (st) (am_sA S id i.toNat x)) : am_V p l e R s m args below meth c Q G A0 H0 nL kc ks (pc) (lv) (am_I x :: am_I i :: am_R id :: st) (S) := by
  intro h1 h2 h3 H locs ls hP hD hS hl
  have hx : am_r32 x := av_h h3
  have hi : am_r32 i := av_h (av_t h3)
  refine va_iast C.1 C.2.1 C.2.2.2.2.2.1 hP hD hS id 0 (am_W_at hk) rfl (am_in hi hb) hd (fun H1 locs1 hP1 hD1 hS1 => ?_)
  rw [am_toNat hi, am_upd_ofInt] at hP1 hD1
  have e := am_W_setA (G := G) (S := S) (j := i.toNat) (x := x) (e := .inl (G.2.2.1, n, .inl (fun q => Int32.ofInt (am_up (S.2 id) i.toNat x q)))) hk (by simp [am_cell, am_sA, am_up])
  rw [e] at hP1 hD1
  exact kk (am_rS_A h1 (am_r64_of hx) (fun _ _ _ _ => hx)) h2 (av_t (av_t (av_t h3))) H1 locs1 ls hP1 hD1 hS1 hl
theorem av_zast (C : am_C p s m args c cc nL own G) {id n : Nat} {i x : Int} (hk : am_sk[id]? = some (.inr (1, n))) (hb : 0 ≤ i ∧ i < (n : Int)) (hz : x = 0 ∨ x = 1) (hd : decode cc pc = .ok (.bastore, 1)) (kk : am_V p l e R s m args below meth c Q G A0 H0 nL kc ks (pc + 1) (lv) (st) (am_sA S id i.toNat x)) : am_V p l e R s m args below meth c Q G A0 H0 nL kc ks (pc) (lv) (am_I x :: am_I i :: am_R id :: st) (S) := by
  intro h1 h2 h3 H locs ls hP hD hS hl
  have hx : am_r32 x := av_h h3
  have hi : am_r32 i := av_h (av_t h3)
  refine va_zast C.1 C.2.1 C.2.2.2.2.2.1 hP hD hS id 1 (am_W_at hk) rfl (am_in hi hb) hd (fun H1 locs1 hP1 hD1 hS1 => ?_)
  rw [am_nar_z hz, am_toNat hi, am_upd_ofInt] at hP1 hD1
  have e := am_W_setA (G := G) (S := S) (j := i.toNat) (x := x) (e := .inl (G.2.2.2.1, n, .inl (fun q => Int32.ofInt (am_up (S.2 id) i.toNat x q)))) hk (by simp [am_cell, am_sA, am_up])
  rw [e] at hP1 hD1
  exact kk (am_rS_A h1 (am_r64_of hx) (fun _ _ _ _ => hx)) h2 (av_t (av_t (av_t h3))) H1 locs1 ls hP1 hD1 hS1 hl
theorem av_last (C : am_C p s m args c cc nL own G) {id n : Nat} {i x : Int} (hk : am_sk[id]? = some (.inr (2, n))) (hb : 0 ≤ i ∧ i < (n : Int)) (hd : decode cc pc = .ok (.lastore, 1)) (kk : am_V p l e R s m args below meth c Q G A0 H0 nL kc ks (pc + 1) (lv) (st) (am_sA S id i.toNat x)) : am_V p l e R s m args below meth c Q G A0 H0 nL kc ks (pc) (lv) (am_J x :: am_I i :: am_R id :: st) (S) := by
  intro h1 h2 h3 H locs ls hP hD hS hl
  have hx : am_r64 x := av_h h3
  have hi : am_r32 i := av_h (av_t h3)
  refine va_last C.1 C.2.1 C.2.2.2.2.2.1 hP hD hS id 2 (am_W_at hk) rfl (am_in hi hb) hd (fun H1 locs1 hP1 hD1 hS1 => ?_)
  rw [am_toNat hi, am_updL_ofInt] at hP1 hD1
  have e := am_W_setA (G := G) (S := S) (j := i.toNat) (x := x) (e := .inl (G.2.2.2.2, n, .inr (.inl (fun q => Int64.ofInt (am_up (S.2 id) i.toNat x q))))) hk (by simp [am_cell, am_sA, am_up])
  rw [e] at hP1 hD1
  exact kk (am_rS_A h1 hx (fun t2 n2 h ht => by rw [hk] at h; cases h; omega)) h2 (av_t (av_t (av_t h3))) H1 locs1 ls hP1 hD1 hS1 hl
theorem av_alen (C : am_C p s m args c cc nL own G) {id t n : Nat} (hk : am_sk[id]? = some (.inr (t, n))) (ht : t < 3) (hr : am_rok (n : Int) = true) (hd : decode cc pc = .ok (.arraylength, 1)) (kk : am_V p l e R s m args below meth c Q G A0 H0 nL kc ks (pc + 1) (lv) (am_I (n : Int) :: st) (S)) : am_V p l e R s m args below meth c Q G A0 H0 nL kc ks (pc) (lv) (am_R id :: st) (S) := by
  intro h1 h2 h3 H locs ls hP hD hS hl
  have kk2 := kk h1 h2 (av_c _ (am_rok_r hr) (av_t h3)) H locs ls hP hD hS hl
  rcases (show t = 0 ∨ t = 1 ∨ t = 2 by omega) with rfl | rfl | rfl
  · exact va_alen C.1 C.2.1 C.2.2.2.2.2.1 hP id 0 (am_W_at hk) rfl rfl hd kk2
  · exact va_alen C.1 C.2.1 C.2.2.2.2.2.1 hP id 1 (am_W_at hk) rfl rfl hd kk2
  · exact va_alen C.1 C.2.1 C.2.2.2.2.2.1 hP id 2 (am_W_at hk) rfl rfl hd kk2
/-- a method's end: what it answers, the new state -/
def am_Q (G : am_G) (r : Option am_AV) (S' : am_S) : Array Value → State → Outcome → State → Prop := fun _ st oc t => (oc = .returned (r.map (am_cv G.1)) ∧ am_B G S' t ∧ am_rS S' ∧ ∀ v ∈ r, am_rv v) ∧ va_F (am_A G) st t
def am_Pc (G : am_G) (as : List am_AV) (S : am_S) : Array Value → State → Prop := va_Pc (as.map (am_cv G.1)) (fun U => am_B G S U ∧ am_rS S ∧ ∀ v ∈ as, am_rv v)
def am_ws (y : MethodName) (b : ByteArray) (mL : Nat) (ret : Option FieldType) : List Cond := Cond.code y b mL ret :: am_T
def am_rm (f lo : Nat) : Room := { frames := f, cells := 0, slots := 0, locals := lo }
/-- the contract of a method, started with these values at this state -/
def am_met (l : Launch) (y : MethodName) (b : ByteArray) (mL : Nat) (ret : Option FieldType) (f lo : Nat) (G : am_G) (as : List am_AV) (S : am_S) (r : Option am_AV) (S' : am_S) : Prop := Met l y (am_ws y b mL ret) (am_rm f lo) (am_Pc G as S) (am_Q G r S') 0 0 (am_A G)
theorem am_blind {as : List am_AV} : FrameBlind (am_Pc G as S) := fun a U g mk h => by
  obtain ⟨h0, ⟨hP, hK, hD, hN⟩, h1, h2⟩ := h
  exact ⟨h0, ⟨hP, va_K.moved (u := U) (U := U.calling g mk a) (Vm.Alike.refl U.vm) hK, hD, am_Nw.same (u := U) (U := U.calling g mk a) rfl hN⟩, h1, h2⟩
theorem am_goodin {y : MethodName} {b : ByteArray} {mL : Nat} {ret : Option FieldType} (h : Cond.code y b mL ret ∈ am_T) : GoodIn am_T (am_ws y b mL ret) := by
  intro w hw
  have hm : w ∈ am_T := by
    rcases List.mem_cons.mp hw with rfl | hw
    · exact h
    · exact hw
  exact ⟨hm, good_of_word (am_T_good w hm)⟩
/-- what the words say of a method -/
def am_y (y : MethodName) (b : ByteArray) (mL : Nat) (ret : Option FieldType) (n : Nat) : Prop := Cond.code y b mL ret ∈ am_T ∧ Cond.initialized y.cls ∈ am_T ∧ y.cls ≠ "java/lang/invoke/MethodHandle" ∧ y.cls ≠ "java/lang/invoke/VarHandle" ∧ (parseMethodDescriptor y.desc).map (fun d => d.parameters.length) = some n ∧ plainName y.cls = true
theorem am_D_of {H : Heap} (hD : va_D A0 (am_W G S)) : va_D (am_A G) (am_W G S) := hD.weaken (fun k q hq _ => by
  obtain ⟨k2, h1, h2⟩ := am_W_in hq
  exact ⟨k, k2, h1, by rw [h2]⟩)
theorem am_A_of (hD : va_D A0 (am_W G S)) : ∀ q, am_A G q → A0 q := fun q h => by
  obtain ⟨id, k, h1, rfl⟩ := h
  exact hD.2 id _ (am_W_at h1)
theorem am_D_to {S2 : am_S} (hD : va_D A0 (am_W G S)) (h2 : va_D (am_A G) (am_W G S2)) : va_D A0 (am_W G S2) := h2.weaken (fun _ q _ h => am_A_of hD q.1 h)
theorem av_call {r : Option am_AV} {S2 : am_S} {rest : List am_AV} {a : Array Value} {H : Heap} {locs : List Loc} {ls : Array Slot} {st0 : List Value} (C : am_C p s m args c cc nL own G) (hr : va_Run p l e R s m args below meth c H locs kc ks 0 0 (F0 m pc ls st0) (rest.map (am_cv G.1)) (am_Q G r S2 a) (am_A G))
    (hD : va_D A0 (am_W G S)) (hS : va_S A0 H0 H locs) (h2 : ∀ q ∈ lv, am_rv q.2) (h3 : ∀ v ∈ rest, am_rv v) (hl : lv_has ls nL (lv.map (fun q => (q.1, am_cv G.1 q.2))))
    (kk : (∀ v ∈ r, am_rv v) → am_V p l e R s m args below meth c Q G A0 H0 nL kc ks (pc + 3) (lv) (r.toList ++ rest) (S2)) : W p l e R s m args below meth c H locs kc ks Q (F0 m pc ls st0) := by
  intro T hT X
  obtain ⟨v, st₀, t, T', L, h0, X', hL, e1, e2, ⟨⟨hv, ⟨hP2, hK2, hD2, hN2⟩, hrS, hrv⟩, hz, hk⟩, st⟩ := hr T hT X
  have hv2 : v = r.map (am_cv G.1) := Outcome.returned.inj hv
  subst hv2
  rw [h0] at hz hk
  have hAA := am_A_of hD
  obtain ⟨t2, a1, b1⟩ := kk hrv hrS h2 (by
    cases r with
    | none => exact h3
    | some x => exact av_c x (hrv x rfl) h3) T'.heap (locs ++ L) ls (by rw [e1]; exact hP2) (am_D_to hD hD2)
    ⟨Nat.le_trans hS.1 (by rw [e1]; exact hz), fun q h1 h2 => by rw [e1, hk q (Nat.lt_of_lt_of_le h1 hS.1) (fun z => h2 (hAA q z))]; exact hS.2.1 q h1 h2, fun q hq => by
      rcases List.mem_append.mp hq with h | h
      · exact hS.2.2 q h
      · exact hAA _ (hL q h)⟩ hl T' rfl X'
  refine ⟨t2, st t2 ?_, b1⟩
  cases r <;> exact a1
theorem am_sum (as : List am_AV) : ((as.map (am_cv G.1)).map fun v => v.category) = as.map am_cat := by
  rw [List.map_map]; apply List.map_congr_left; intro a _; exact am_cat_cv G.1 a
theorem av_callV (C : am_C p s m args c cc nL own G) {y : MethodName} {b : ByteArray} {mL f lo n idx : Nat} {ret : Option FieldType} {as rest : List am_AV} {r : Option am_AV} {S2 : am_S} {id ci : Nat} {fl : List (Option Nat)} {T : u_T} {N : Nat} (hM : am_met l y b mL ret f lo G (am_R id :: as) S r S2) (hy : am_y y b mL ret n) (hsite : Cond.methodLink own idx y ∈ am_T) (hi : Cond.instanceMethod y ∈ am_T) (hsel : Cond.selects y.cls y y ∈ am_T) (hkr : am_sk[id]? = some (.inl (ci, fl))) (hcl : vwCl[ci]? = some (y.cls, T, N)) (hR : f + 1 ≤ R.frames ∧ 8 + (mL + 11) + lo ≤ R.locals) (hn : as.length = n) (hst : st = as.reverse ++ am_R id :: rest) (hW : (rest.map am_cat).sum ≤ 8) (hd : decode cc pc = .ok (.invokevirtual idx, 3)) (hcap : kc ≤ R.cells ∧ ks ≤ R.slots) (kk : (∀ v ∈ r, am_rv v) → am_V p l e R s m args below meth c Q G A0 H0 nL kc ks (pc + 3) (lv) (r.toList ++ rest) (S2)) : am_V p l e R s m args below meth c Q G A0 H0 nL kc ks (pc) (lv) (st) (S) := by
  intro h1 h2 h3 H locs ls hP hD hS hl
  subst hst
  have hras : ∀ v ∈ am_R id :: as, am_rv v := by
    intro v hv
    apply h3 v
    simp only [List.mem_cons, List.mem_append, List.mem_reverse] at hv ⊢
    rcases hv with h | h
    · exact Or.inr (Or.inl h)
    · exact Or.inl h
  have hrr : ∀ v ∈ rest, am_rv v := fun v hv => h3 v (by simp [hv])
  have hn2 : ∀ sig, parseMethodDescriptor y.desc = some sig → n = sig.parameters.length := fun sig h => by
    have h5 := hy.2.2.2.2.1
    rw [h] at h5
    exact (Option.some.inj h5).symm
  refine av_call C (hr := va_runV (As := as.map (am_cv G.1)) (rest := rest.map (am_cv G.1)) (Ts := am_T) (n := n) (b := G.1 id) ⟨C.1, C.2.1, C.2.2.1, C.2.2.2.1, C.2.2.2.2.1⟩ hM ⟨⟨rfl, rfl, hR.1, hR.2, pay_in C.2.2.2.2.1 (am_goodin hy.1), List.mem_cons_self, C.2.2.2.2.1 _ hy.1, C.2.2.2.2.1 _ hy.2.1, ⟨hy.2.2.1, hy.2.2.2.1⟩, hn2, C.2.2.2.2.1 _ hsite⟩, C.2.2.2.2.1 _ hi, C.2.2.2.2.1 _ hsel⟩ ⟨am_blind, va_recv (ws := am_W G S) C.2.2.2.2.2.1 hP hcl (am_W_at hkr), fun U hU hW => ⟨rfl, ⟨by rw [hU]; exact hP, va_K.moved hW.alike C.2.2.2.2.2.1, am_D_of (H := H) hD, am_Nw.warm hW C.2.2.2.2.2.2⟩, h1, hras⟩⟩ rfl (by rw [List.length_map]; exact hn) hl.1 (by simp [am_cv]) (lv_room (by rw [am_sum]; exact hW)) hd ⟨hcap.1, hcap.2⟩) hD hS h2 hrr hl kk
theorem av_callS (C : am_C p s m args c cc nL own G) {y : MethodName} {b : ByteArray} {mL f lo n idx : Nat} {ret : Option FieldType} {as rest : List am_AV} {r : Option am_AV} {S2 : am_S} (hM : am_met l y b mL ret f lo G (as) S r S2) (hy : am_y y b mL ret n) (hsite : Cond.methodLink own idx y ∈ am_T) (hi : Cond.static y ∈ am_T) (hR : f + 1 ≤ R.frames ∧ 8 + (mL + 11) + lo ≤ R.locals) (hn : as.length = n) (hst : st = as.reverse ++ rest) (hW : (rest.map am_cat).sum ≤ 8) (hd : decode cc pc = .ok (.invokestatic idx, 3)) (hcap : kc ≤ R.cells ∧ ks ≤ R.slots) (kk : (∀ v ∈ r, am_rv v) → am_V p l e R s m args below meth c Q G A0 H0 nL kc ks (pc + 3) (lv) (r.toList ++ rest) (S2)) : am_V p l e R s m args below meth c Q G A0 H0 nL kc ks (pc) (lv) (st) (S) := by
  intro h1 h2 h3 H locs ls hP hD hS hl
  subst hst
  have hras : ∀ v ∈ as, am_rv v := by
    intro v hv
    apply h3 v
    simp only [List.mem_cons, List.mem_append, List.mem_reverse] at hv ⊢
    exact Or.inl hv
  have hrr : ∀ v ∈ rest, am_rv v := fun v hv => h3 v (by simp [hv])
  have hn2 : ∀ sig, parseMethodDescriptor y.desc = some sig → n = sig.parameters.length := fun sig h => by
    have h5 := hy.2.2.2.2.1
    rw [h] at h5
    exact (Option.some.inj h5).symm
  refine av_call C (hr := va_runS (As := as.map (am_cv G.1)) (rest := rest.map (am_cv G.1)) (Ts := am_T) (n := n) ⟨C.1, C.2.1, C.2.2.1, C.2.2.2.1, C.2.2.2.2.1⟩ hM ⟨⟨rfl, rfl, hR.1, hR.2, pay_in C.2.2.2.2.1 (am_goodin hy.1), List.mem_cons_self, C.2.2.2.2.1 _ hy.1, C.2.2.2.2.1 _ hy.2.1, ⟨hy.2.2.1, hy.2.2.2.1⟩, hn2, C.2.2.2.2.1 _ hsite⟩, C.2.2.2.2.1 _ hi⟩ ⟨am_blind, fun U hU hW => ⟨rfl, ⟨by rw [hU]; exact hP, va_K.moved hW.alike C.2.2.2.2.2.1, am_D_of (H := H) hD, am_Nw.warm hW C.2.2.2.2.2.2⟩, h1, hras⟩⟩ rfl (by rw [List.length_map]; exact hn) hl.1 (by simp [am_cv]) (lv_room (by rw [am_sum]; exact hW)) hd ⟨hcap.1, hcap.2⟩) hD hS h2 hrr hl kk
theorem av_callSN (C : am_C p s m args c cc nL own G) {y : MethodName} {b : ByteArray} {mL f lo n idx : Nat} {ret : Option FieldType} {as rest : List am_AV} {r : Option am_AV} {S2 : am_S} {host : String} (hM : am_met l y b mL ret f lo G (as) S r S2) (hy : am_y y b mL ret n) (hsite : (own, idx, y, host) ∈ am_nest) (hi : Cond.static y ∈ am_T) (hR : f + 1 ≤ R.frames ∧ 8 + (mL + 11) + lo ≤ R.locals) (hn : as.length = n) (hst : st = as.reverse ++ rest) (hW : (rest.map am_cat).sum ≤ 8) (hd : decode cc pc = .ok (.invokestatic idx, 3)) (hcap : kc ≤ R.cells ∧ ks ≤ R.slots) (kk : (∀ v ∈ r, am_rv v) → am_V p l e R s m args below meth c Q G A0 H0 nL kc ks (pc + 3) (lv) (r.toList ++ rest) (S2)) : am_V p l e R s m args below meth c Q G A0 H0 nL kc ks (pc) (lv) (st) (S) := by
  intro h1 h2 h3 H locs ls hP hD hS hl
  subst hst
  have hras : ∀ v ∈ as, am_rv v := by
    intro v hv
    apply h3 v
    simp only [List.mem_cons, List.mem_append, List.mem_reverse] at hv ⊢
    exact Or.inl hv
  have hrr : ∀ v ∈ rest, am_rv v := fun v hv => h3 v (by simp [hv])
  have hn2 : ∀ sig, parseMethodDescriptor y.desc = some sig → n = sig.parameters.length := fun sig h => by
    have h5 := hy.2.2.2.2.1
    rw [h] at h5
    exact (Option.some.inj h5).symm
  refine av_call C (hr := va_runSN (As := as.map (am_cv G.1)) (rest := rest.map (am_cv G.1)) (Ts := am_T) (n := n) ⟨C.1, C.2.1, C.2.2.1, C.2.2.2.1, C.2.2.2.2.1⟩ hM ⟨⟨⟨rfl, rfl, hR.1, hR.2, pay_in C.2.2.2.2.1 (am_goodin hy.1), List.mem_cons_self⟩, C.2.2.2.2.1 _ hy.1, C.2.2.2.2.1 _ hy.2.1, ⟨hy.2.2.1, hy.2.2.2.1⟩, hn2, va_Nw.use rfl (C.2.2.2.2.2.2 _ hsite)⟩, C.2.2.2.2.1 _ hi, trivial⟩ ⟨am_blind, fun U hU hW => ⟨rfl, ⟨by rw [hU]; exact hP, va_K.moved hW.alike C.2.2.2.2.2.1, am_D_of (H := H) hD, am_Nw.warm hW C.2.2.2.2.2.2⟩, h1, hras⟩⟩ rfl (by rw [List.length_map]; exact hn) hl.1 (by simp [am_cv]) (lv_room (by rw [am_sum]; exact hW)) hd ⟨hcap.1, hcap.2⟩) hD hS h2 hrr hl kk
theorem av_mmax (C : am_C p s m args c cc nL own G) {x y : Int} {idx : Nat} (hl1 : Cond.methodLink own idx Lib.Math.max.name ∈ am_T) (hs1 : Cond.static Lib.Math.max.name ∈ am_T) (hi1 : Cond.initialized "java/lang/Math" ∈ am_T) (hc1 : Cond.code Lib.Math.max.name Lib.Math.max.code 2 (some .int) ∈ am_T) (hR : 1 ≤ R.frames ∧ 21 ≤ R.locals) (hW : (st.map am_cat).sum ≤ 8) (hd : decode cc pc = .ok (.invokestatic idx, 3)) (hcap : kc ≤ R.cells ∧ ks ≤ R.slots) (kk : am_V p l e R s m args below meth c Q G A0 H0 nL kc ks (pc + 3) (lv) (am_I (am_max x y) :: st) (S)) : am_V p l e R s m args below meth c Q G A0 H0 nL kc ks (pc) (lv) (am_I y :: am_I x :: st) (S) := by
  intro h1 h2 h3 H locs ls hP hD hS hl
  have hy : am_r32 y := av_h h3
  have hx : am_r32 x := av_h (av_t h3)
  have hr : am_r32 (am_max x y) := by unfold am_max; split <;> assumption
  have kk2 := kk h1 h2 (av_c _ hr (av_t (av_t h3))) H locs ls hP hD hS hl
  refine va_mmax C.1 C.2.1 (C.2.2.1.trans hl.1.symm) C.2.2.2.1 (C.2.2.2.2.1 _ hl1) (C.2.2.2.2.1 _ hs1) (C.2.2.2.2.1 _ hi1) (C.2.2.2.2.1 _ hc1) hR.1 (by rw [am_sum]; omega) hcap.1 hcap.2 hd ?_
  have e : (if Int32.ofInt x < Int32.ofInt y then Int32.ofInt y else Int32.ofInt x) = Int32.ofInt (am_max x y) := by
    unfold am_max
    by_cases h : x < y
    · rw [if_pos h, if_pos ((am_lt hx hy).mpr h)]
    · rw [if_neg h, if_neg (fun q => h ((am_lt hx hy).mp q))]
  rw [e]
  exact kk2
theorem av_mmin (C : am_C p s m args c cc nL own G) {x y : Int} {idx : Nat} (hl1 : Cond.methodLink own idx Lib.Math.min.name ∈ am_T) (hs1 : Cond.static Lib.Math.min.name ∈ am_T) (hi1 : Cond.initialized "java/lang/Math" ∈ am_T) (hc1 : Cond.code Lib.Math.min.name Lib.Math.min.code 2 (some .int) ∈ am_T) (hR : 1 ≤ R.frames ∧ 21 ≤ R.locals) (hW : (st.map am_cat).sum ≤ 8) (hd : decode cc pc = .ok (.invokestatic idx, 3)) (hcap : kc ≤ R.cells ∧ ks ≤ R.slots) (kk : am_V p l e R s m args below meth c Q G A0 H0 nL kc ks (pc + 3) (lv) (am_I (am_min x y) :: st) (S)) : am_V p l e R s m args below meth c Q G A0 H0 nL kc ks (pc) (lv) (am_I y :: am_I x :: st) (S) := by
  intro h1 h2 h3 H locs ls hP hD hS hl
  have hy : am_r32 y := av_h h3
  have hx : am_r32 x := av_h (av_t h3)
  have hr : am_r32 (am_min x y) := by unfold am_min; split <;> assumption
  have kk2 := kk h1 h2 (av_c _ hr (av_t (av_t h3))) H locs ls hP hD hS hl
  refine va_mmin C.1 C.2.1 (C.2.2.1.trans hl.1.symm) C.2.2.2.1 (C.2.2.2.2.1 _ hl1) (C.2.2.2.2.1 _ hs1) (C.2.2.2.2.1 _ hi1) (C.2.2.2.2.1 _ hc1) hR.1 (by rw [am_sum]; omega) hcap.1 hcap.2 hd ?_
  have e : (if Int32.ofInt y < Int32.ofInt x then Int32.ofInt y else Int32.ofInt x) = Int32.ofInt (am_min x y) := by
    unfold am_min
    by_cases h : y < x
    · rw [if_pos h, if_pos ((am_lt hy hx).mpr h)]
    · rw [if_neg h, if_neg (fun q => h ((am_lt hy hx).mp q))]
  rw [e]
  exact kk2
/-! the end of a method -/

theorem av_iret (C : am_C p s m args c cc nL own G) {x : Int} (hr : meth.sig.returnType = some .int) (hlocks : meth.locks = false) (hd : decode cc pc = .ok (.ireturn, 1)) : am_V p l e R s m args below meth c (MQ below (am_Q G (some (am_I x)) S) args s kc ks (am_A G)) G (am_A G) s.heap nL kc ks pc lv [am_I x] S := by
  intro h1 h2 h3 H locs ls hP hD hS hl
  exact W.iret C.1 C.2.1 hr (fun t ht hW => ⟨⟨rfl, ⟨by rw [ht]; exact hP, va_K.moved hW.alike C.2.2.2.2.2.1, hD, am_Nw.warm hW C.2.2.2.2.2.2⟩, h1, fun v hv => by cases hv; exact av_h h3⟩, hS.F ht⟩) hS.2.2 hd hlocks
theorem av_zret (C : am_C p s m args c cc nL own G) {x : Int} (hz : x = 0 ∨ x = 1) (hr : meth.sig.returnType = some .boolean) (hlocks : meth.locks = false) (hd : decode cc pc = .ok (.ireturn, 1)) : am_V p l e R s m args below meth c (MQ below (am_Q G (some (am_I x)) S) args s kc ks (am_A G)) G (am_A G) s.heap nL kc ks pc lv [am_I x] S := by
  intro h1 h2 h3 H locs ls hP hD hS hl
  exact W.zret C.1 C.2.1 hr (by rcases hz with rfl | rfl <;> rfl) (fun t ht hW => ⟨⟨rfl, ⟨by rw [ht]; exact hP, va_K.moved hW.alike C.2.2.2.2.2.1, hD, am_Nw.warm hW C.2.2.2.2.2.2⟩, h1, fun v hv => by cases hv; exact av_h h3⟩, hS.F ht⟩) hS.2.2 hd hlocks
theorem av_lret (C : am_C p s m args c cc nL own G) {x : Int} (hr : meth.sig.returnType = some .long) (hlocks : meth.locks = false) (hd : decode cc pc = .ok (.lreturn, 1)) : am_V p l e R s m args below meth c (MQ below (am_Q G (some (am_J x)) S) args s kc ks (am_A G)) G (am_A G) s.heap nL kc ks pc lv [am_J x] S := by
  intro h1 h2 h3 H locs ls hP hD hS hl
  exact W.lret C.1 C.2.1 hr (fun t ht hW => ⟨⟨rfl, ⟨by rw [ht]; exact hP, va_K.moved hW.alike C.2.2.2.2.2.1, hD, am_Nw.warm hW C.2.2.2.2.2.2⟩, h1, fun v hv => by cases hv; exact av_h h3⟩, hS.F ht⟩) hS.2.2 hd hlocks
theorem av_vret (C : am_C p s m args c cc nL own G) (hr : meth.sig.returnType = none) (hlocks : meth.locks = false) (hd : decode cc pc = .ok (.return_, 1)) : am_V p l e R s m args below meth c (MQ below (am_Q G none S) args s kc ks (am_A G)) G (am_A G) s.heap nL kc ks pc lv [] S := by
  intro h1 h2 h3 H locs ls hP hD hS hl
  exact W.vret C.1 C.2.1 hr (fun t ht hW => ⟨⟨rfl, ⟨by rw [ht]; exact hP, va_K.moved hW.alike C.2.2.2.2.2.1, hD, am_Nw.warm hW C.2.2.2.2.2.2⟩, h1, fun v hv => by cases hv⟩, hS.F ht⟩) hS.2.2 hd hlocks
end AMV
def am_args : Nat → List am_AV → List (Nat × am_AV)
  | _, [] => []
  | i, v :: vs => (i, v) :: am_args (if am_cat v = 2 then i + 2 else i + 1) vs
theorem am_args_map (ad : Nat → Nat) : ∀ (as : List am_AV) (i : Nat), lv_args i (as.map (am_cv ad)) = (am_args i as).map (fun q => (q.1, am_cv ad q.2))
  | [], _ => rfl
  | v :: vs, i => by
    simp only [List.map_cons, lv_args, am_args]
    rw [am_cat_cv, am_args_map ad vs]
theorem am_args_r {as : List am_AV} (h : ∀ v ∈ as, am_rv v) : ∀ (i : Nat), ∀ q ∈ am_args i as, am_rv q.2 := by
  induction as with
  | nil => intro i q hq; cases hq
  | cons v vs ih =>
    intro i q hq
    rcases List.mem_cons.mp hq with rfl | hq
    · exact h v List.mem_cons_self
    · exact ih (fun w hw => h w (List.mem_cons_of_mem _ hw)) _ q hq
theorem am_sl_len (ad : Nat → Nat) : ∀ (as : List am_AV), (lg_sl (as.map (am_cv ad))).length = (as.map am_cat).sum
  | [] => rfl
  | v :: vs => by
    have ih := am_sl_len ad vs
    simp only [List.map_cons, lg_sl, List.flatMap_cons, List.length_append, List.sum_cons] at ih ⊢
    rw [ih, am_cat_cv]
    rcases v with x | x | k <;> rfl
/-- a method's contract, out of the walk of its body -/
theorem am_enter {l : Launch} {y : MethodName} {b : ByteArray} {mL n f lo : Nat} {ret : Option FieldType} {G : am_G} {as : List am_AV} {S : am_S} {r : Option am_AV} {S2 : am_S} (hy : am_y y b mL ret n) (hlen : (as.map am_cat).sum ≤ mL)
    (body : ∀ (p : Program) (e : Env) (s : State) (m : MethodId) (args : Array Value) (below : List Frame) (meth : Method) (c : Code), am_C p s m args c b mL y.cls G → meth.sig.returnType = ret → meth.locks = false → am_V p l e (am_rm f lo) s m args below meth c (MQ below (am_Q G r S2) args s 0 0 (am_A G)) G (am_A G) s.heap mL 0 0 0 (am_args 0 as) [] S) : am_met l y b mL ret f lo G as S r S2 := by
  refine Met.ofW (cc := b) (maxL := mL) (ret := ret) hy.2.2.2.2.2 rfl ?_
  intro p e s m args below meth c s₁ B hml hv
  obtain ⟨rfl, ⟨hP, hK, hD, hN⟩, hrS, hras⟩ := hv
  have hts := atoms_spec (ws := am_ws y b mL ret) B.pre
  have hown : s.vm.findClass y.cls = some m.cls := findClass_of_methodNamed B.named
  have hl := lv_entry (as.map (am_cv G.1)) (n := mL) (by rw [am_sl_len]; exact hlen)
  rw [lg_entry_eq]
  rw [am_args_map] at hl
  exact body p e s m _ below meth c ⟨B.exec, B.bytes, hml, hown, fun w hw => hts w (List.mem_cons_of_mem _ hw), hK, hN⟩ B.returns B.notSynchronized hrS (am_args_r hras 0) (fun v hv => by cases hv) s.heap [] _ hP hD va_S.rf hl
end
section
theorem am_shl (x : Int) : Int64.ofInt x <<< ((Int32.ofInt 32).toInt64 &&& 63) = Int64.ofInt (x * 4294967296) := by
  have e : (Int32.ofInt 32).toInt64 &&& 63 = (32 : Int64) := by decide
  rw [e]
  apply Int64.toBitVec_inj.mp
  rw [Int64.toBitVec_shiftLeft, Int64.toBitVec_ofInt, Int64.toBitVec_ofInt]
  have e2 : (32 : Int64).toBitVec.smod 64 = 32#64 := by decide
  rw [e2]
  apply BitVec.eq_of_toNat_eq
  rw [BitVec.shiftLeft_eq', BitVec.toNat_shiftLeft, BitVec.toNat_ofInt, BitVec.toNat_ofInt]
  simp only [BitVec.toNat_ofNat, Nat.shiftLeft_eq, Nat.reducePow, Nat.reduceMod]
  omega
theorem am_shr {x : Int} (hx : am_r64 x) : Int64.ofInt x >>> ((Int32.ofInt 32).toInt64 &&& 63) = Int64.ofInt (x / 4294967296) := by
  have e : (Int32.ofInt 32).toInt64 &&& 63 = (32 : Int64) := by decide
  rw [e]
  apply Int64.toInt_inj.mp
  have hx2 : am_r64 (x / 4294967296) := by unfold am_r64 at hx ⊢; omega
  rw [am_toInt64 hx2, ← Int64.toInt_toBitVec, Int64.toBitVec_shiftRight]
  have e2 : (32 : Int64).toBitVec.smod 64 = 32#64 := by decide
  rw [e2]
  show (BitVec.sshiftRight (Int64.ofInt x).toBitVec (32#64).toNat).toInt = _
  rw [BitVec.toInt_sshiftRight, Int64.toInt_toBitVec, am_toInt64 hx]
  show x >>> 32 = _
  rw [Int.shiftRight_eq_div_pow]
  rfl
theorem am_and (x : Int) : Int64.ofInt x &&& Int64.ofInt 4294967295 = Int64.ofInt (x % 4294967296) := by
  apply Int64.toBitVec_inj.mp
  rw [Int64.toBitVec_and, Int64.toBitVec_ofInt, Int64.toBitVec_ofInt, Int64.toBitVec_ofInt]
  apply BitVec.eq_of_toNat_eq
  rw [BitVec.toNat_and, BitVec.toNat_ofInt, BitVec.toNat_ofInt, BitVec.toNat_ofInt]
  have e : ((4294967295 : Int) % ((2 ^ 64 : Nat) : Int)).toNat = 2 ^ 32 - 1 := by decide
  rw [e, Nat.and_two_pow_sub_one_eq_mod]
  omega
theorem am_or {x y : Int} (h : x % 4294967296 = 0 ∧ 0 ≤ y ∧ y < 4294967296) : Int64.ofInt x ||| Int64.ofInt y = Int64.ofInt (x + y) := by
  obtain ⟨h1, h2, h3⟩ := h
  apply Int64.toBitVec_inj.mp
  rw [Int64.toBitVec_or, Int64.toBitVec_ofInt, Int64.toBitVec_ofInt, Int64.toBitVec_ofInt]
  apply BitVec.eq_of_toNat_eq
  rw [BitVec.toNat_or, BitVec.toNat_ofInt, BitVec.toNat_ofInt, BitVec.toNat_ofInt]
  obtain ⟨q, hq⟩ : ∃ q : Nat, (x % ((2 ^ 64 : Nat) : Int)).toNat = 2 ^ 32 * q := ⟨(x % ((2 ^ 64 : Nat) : Int)).toNat / 2 ^ 32, by omega⟩
  have hy : (y % ((2 ^ 64 : Nat) : Int)).toNat = y.toNat := by omega
  rw [hq, hy, ← Nat.two_pow_add_eq_or_of_lt (by omega)]
  omega
section AMS
variable {p : Program} {l : Launch} {e : Env} {R : Room} {s : State} {m : MethodId} {args : Array Value} {below : List Frame} {meth : Method} {c : Code} {Q : State → Prop} {G : am_G} {A0 : Nat → Prop} {H0 : Heap} {nL kc ks : Nat} {cc : ByteArray} {own : String}
variable {pc : Nat} {lv : List (Nat × am_AV)} {st : List am_AV} {S : am_S}
theorem av_lshl (C : am_C p s m args c cc nL own G) {x : Int} (hg : am_r32 x) (hd : decode cc pc = .ok (.lshl, 1)) (kk : am_V p l e R s m args below meth c Q G A0 H0 nL kc ks (pc + 1) (lv) (am_J (x * 4294967296) :: st) (S)) : am_V p l e R s m args below meth c Q G A0 H0 nL kc ks (pc) (lv) (am_I 32 :: am_J x :: st) (S) := by
  intro h1 h2 h3 H locs ls hP hD hS hl
  refine lv_lshl C.1 C.2.1 hd (am_shl x) ?_
  exact kk h1 h2 (av_c _ (show am_r64 _ by unfold am_r32 at hg; unfold am_r64; omega) (av_t (av_t h3))) H locs ls hP hD hS hl
theorem av_lshr (C : am_C p s m args c cc nL own G) {x : Int} (hd : decode cc pc = .ok (.lshr, 1)) (kk : am_V p l e R s m args below meth c Q G A0 H0 nL kc ks (pc + 1) (lv) (am_J (x / 4294967296) :: st) (S)) : am_V p l e R s m args below meth c Q G A0 H0 nL kc ks (pc) (lv) (am_I 32 :: am_J x :: st) (S) := by
  intro h1 h2 h3 H locs ls hP hD hS hl
  have hx : am_r64 x := av_h (av_t h3)
  refine lv_lshr C.1 C.2.1 hd (am_shr hx) ?_
  exact kk h1 h2 (av_c _ (show am_r64 _ by unfold am_r64 at hx ⊢; omega) (av_t (av_t h3))) H locs ls hP hD hS hl
theorem av_land (C : am_C p s m args c cc nL own G) {x : Int} (hd : decode cc pc = .ok (.land, 1)) (kk : am_V p l e R s m args below meth c Q G A0 H0 nL kc ks (pc + 1) (lv) (am_J (x % 4294967296) :: st) (S)) : am_V p l e R s m args below meth c Q G A0 H0 nL kc ks (pc) (lv) (am_J 4294967295 :: am_J x :: st) (S) := by
  intro h1 h2 h3 H locs ls hP hD hS hl
  have kk2 := kk h1 h2 (av_c _ (show am_r64 _ by unfold am_r64; omega) (av_t (av_t h3))) H locs ls hP hD hS hl
  refine lv_land C.1 C.2.1 hd ?_
  rw [am_and]
  exact kk2
theorem av_lor (C : am_C p s m args c cc nL own G) {x y : Int} (hg : x % 4294967296 = 0 ∧ 0 ≤ y ∧ y < 4294967296) (hd : decode cc pc = .ok (.lor, 1)) (kk : am_V p l e R s m args below meth c Q G A0 H0 nL kc ks (pc + 1) (lv) (am_J (x + y) :: st) (S)) : am_V p l e R s m args below meth c Q G A0 H0 nL kc ks (pc) (lv) (am_J y :: am_J x :: st) (S) := by
  intro h1 h2 h3 H locs ls hP hD hS hl
  have hy : am_r64 y := av_h h3
  have hx : am_r64 x := av_h (av_t h3)
  have kk2 := kk h1 h2 (av_c _ (show am_r64 _ by unfold am_r64 at hx ⊢; omega) (av_t (av_t h3))) H locs ls hP hD hS hl
  refine lv_lor C.1 C.2.1 hd ?_
  rw [am_or hg]
  exact kk2
end AMS
end
section
def am_gd {α : Type} (i : Int) (n : Nat) (f : Option α) : Option α := if 0 ≤ i ∧ i < (n : Int) then f else none
theorem am_gd_of {α : Type} {i : Int} {n : Nat} {f : Option α} {a : α} (h : am_gd i n f = some a) : (0 ≤ i ∧ i < (n : Int)) ∧ f = some a := by
  unfold am_gd at h
  split at h
  · exact ⟨by assumption, h⟩
  · cases h
def am_gz {α : Type} (x : Int) (f : Option α) : Option α := if x = 0 ∨ x = 1 then f else none
theorem am_gz_of {α : Type} {x : Int} {f : Option α} {a : α} (h : am_gz x f = some a) : (x = 0 ∨ x = 1) ∧ f = some a := by
  unfold am_gz at h
  split at h
  · exact ⟨by assumption, h⟩
  · cases h
def am_g32 {α : Type} (x : Int) (f : Option α) : Option α := if -2147483648 ≤ x ∧ x < 2147483648 then f else none
theorem am_g32_of {α : Type} {x : Int} {f : Option α} {a : α} (h : am_g32 x f = some a) : am_r32 x ∧ f = some a := by
  unfold am_g32 at h
  split at h
  · exact ⟨by assumption, h⟩
  · cases h
def am_glo {α : Type} (x y : Int) (f : Option α) : Option α := if x % 4294967296 = 0 ∧ 0 ≤ y ∧ y < 4294967296 then f else none
theorem am_glo_of {α : Type} {x y : Int} {f : Option α} {a : α} (h : am_glo x y f = some a) : (x % 4294967296 = 0 ∧ 0 ≤ y ∧ y < 4294967296) ∧ f = some a := by
  unfold am_glo at h
  split at h
  · exact ⟨by assumption, h⟩
  · cases h
def am_let {α : Type} (S : am_S) (f : am_S → Option α) : Option α := f S
theorem am_let_of {α : Type} {S : am_S} {f : am_S → Option α} {a : α} (h : am_let S f = some a) : ∃ S1, S = S1 ∧ f S1 = some a := ⟨S, rfl, h⟩
def am_b1 {α : Type} (o : Option am_S) (f : am_S → Option α) : Option α := match o with
  | none => none
  | some S => f S
def am_b2 {α : Type} (o : Option (Int × am_S)) (f : Int → am_S → Option α) : Option α := match o with
  | none => none
  | some q => f q.1 q.2
theorem am_b1_of {α : Type} {o : Option am_S} {f : am_S → Option α} {a : α} (h : am_b1 o f = some a) : ∃ S, o = some S ∧ f S = some a := by
  cases o with
  | none => cases h
  | some S => exact ⟨S, rfl, h⟩
theorem am_b2_of {α : Type} {o : Option (Int × am_S)} {f : Int → am_S → Option α} {a : α} (h : am_b2 o f = some a) : ∃ x S, o = some (x, S) ∧ f x S = some a := by
  cases o with
  | none => cases h
  | some q => exact ⟨q.1, q.2, rfl, h⟩
theorem am_inj1 {S T : am_S} (h : some S = some T) : S = T := Option.some.inj h
theorem am_inj2 {x y : Int} {S T : am_S} (h : some (x, S) = some (y, T)) : x = y ∧ S = T := by
  have h1 := Option.some.inj h
  exact ⟨congrArg Prod.fst h1, congrArg Prod.snd h1⟩
end
section
set_option maxRecDepth 100000 in
theorem si_X0_26 : Cond.methodLink RX0 26 yX8_exists ∈ am_T := am_mem 432 (by decide +kernel) (by decide +kernel)
set_option maxRecDepth 100000 in
theorem si_X0_32 : ((RX0, 32, yX9_isFunction, "JobLoop") : String × Nat × MethodName × String) ∈ am_nest := List.mem_of_getElem? (i := 8) (by decide +kernel)
set_option maxRecDepth 100000 in
theorem si_X0_36 : ((RX0, 36, yX9_isWithin, "JobLoop") : String × Nat × MethodName × String) ∈ am_nest := List.mem_of_getElem? (i := 9) (by decide +kernel)
set_option maxRecDepth 100000 in
theorem si_X0_40 : Cond.methodLink RX0 40 yX4_at ∈ am_T := am_mem 439 (by decide +kernel) (by decide +kernel)
set_option maxRecDepth 100000 in
theorem si_X0_44 : Cond.methodLink RX0 44 yX4_put ∈ am_T := am_mem 444 (by decide +kernel) (by decide +kernel)
set_option maxRecDepth 100000 in
theorem si_X0_48 : Cond.methodLink RX0 48 yX4_valueAt ∈ am_T := am_mem 487 (by decide +kernel) (by decide +kernel)
set_option maxRecDepth 100000 in
theorem si_X0_52 : Cond.methodLink RX0 52 yX0_kindOf ∈ am_T := am_mem 551 (by decide +kernel) (by decide +kernel)
set_option maxRecDepth 100000 in
theorem si_X1_37 : Cond.methodLink RX1 37 yX4_put ∈ am_T := am_mem 574 (by decide +kernel) (by decide +kernel)
set_option maxRecDepth 100000 in
theorem si_X1_41 : Cond.methodLink RX1 41 yX3_made ∈ am_T := am_mem 583 (by decide +kernel) (by decide +kernel)
set_option maxRecDepth 100000 in
theorem si_X1_47 : Cond.methodLink RX1 47 yX4_valueAt ∈ am_T := am_mem 584 (by decide +kernel) (by decide +kernel)
set_option maxRecDepth 100000 in
theorem si_X1_51 : Cond.methodLink RX1 51 yX8_sortOf ∈ am_T := am_mem 585 (by decide +kernel) (by decide +kernel)
set_option maxRecDepth 100000 in
theorem si_X1_57 : Cond.methodLink RX1 57 yX3_make ∈ am_T := am_mem 590 (by decide +kernel) (by decide +kernel)
set_option maxRecDepth 100000 in
theorem si_X1_60 : Cond.methodLink RX1 60 yX3_promiseFor ∈ am_T := am_mem 591 (by decide +kernel) (by decide +kernel)
set_option maxRecDepth 100000 in
theorem si_X1_63 : ((RX1, 63, yX9_jobOf, "JobLoop") : String × Nat × MethodName × String) ∈ am_nest := List.mem_of_getElem? (i := 10) (by decide +kernel)
set_option maxRecDepth 100000 in
theorem si_X1_67 : Cond.methodLink RX1 67 yX3_waitFor ∈ am_T := am_mem 593 (by decide +kernel) (by decide +kernel)
set_option maxRecDepth 100000 in
theorem si_X1_71 : Cond.methodLink RX1 71 yX1_settleIfComplete ∈ am_T := am_mem 594 (by decide +kernel) (by decide +kernel)
set_option maxRecDepth 100000 in
theorem si_X1_74 : Cond.methodLink RX1 74 yX4_at ∈ am_T := am_mem 598 (by decide +kernel) (by decide +kernel)
set_option maxRecDepth 100000 in
theorem si_X1_78 : Cond.methodLink RX1 78 yX8_numberOf ∈ am_T := am_mem 689 (by decide +kernel) (by decide +kernel)
set_option maxRecDepth 100000 in
theorem si_X1_81 : Cond.methodLink RX1 81 yX3_settleBy ∈ am_T := am_mem 600 (by decide +kernel) (by decide +kernel)
set_option maxRecDepth 100000 in
theorem si_X1_85 : Cond.methodLink RX1 85 yX8_of ∈ am_T := am_mem 599 (by decide +kernel) (by decide +kernel)
set_option maxRecDepth 100000 in
theorem si_X2_30 : Cond.methodLink RX2 30 Lib.Math.min.name ∈ am_T := am_mem 768 (by decide +kernel) (by decide +kernel)
set_option maxRecDepth 100000 in
theorem si_X2_36 : Cond.methodLink RX2 36 yX4_put ∈ am_T := am_mem 511 (by decide +kernel) (by decide +kernel)
set_option maxRecDepth 100000 in
theorem si_X2_40 : Cond.methodLink RX2 40 yX4_valueAt ∈ am_T := am_mem 776 (by decide +kernel) (by decide +kernel)
set_option maxRecDepth 100000 in
theorem si_X2_44 : Cond.methodLink RX2 44 yX4_at ∈ am_T := am_mem 781 (by decide +kernel) (by decide +kernel)
set_option maxRecDepth 100000 in
theorem si_X3_63 : ((RX3, 63, yX9_isWithin, "JobLoop") : String × Nat × MethodName × String) ∈ am_nest := List.mem_of_getElem? (i := 4) (by decide +kernel)
set_option maxRecDepth 100000 in
theorem si_X3_67 : Cond.methodLink RX3 67 yX4_at ∈ am_T := am_mem 371 (by decide +kernel) (by decide +kernel)
set_option maxRecDepth 100000 in
theorem si_X3_71 : Cond.methodLink RX3 71 yX4_valueAt ∈ am_T := am_mem 637 (by decide +kernel) (by decide +kernel)
set_option maxRecDepth 100000 in
theorem si_X3_75 : Cond.methodLink RX3 75 yX3_isLoose ∈ am_T := am_mem 802 (by decide +kernel) (by decide +kernel)
set_option maxRecDepth 100000 in
theorem si_X3_79 : Cond.methodLink RX3 79 yX4_put ∈ am_T := am_mem 331 (by decide +kernel) (by decide +kernel)
set_option maxRecDepth 100000 in
theorem si_X3_83 : Cond.methodLink RX3 83 yX8_sortOf ∈ am_T := am_mem 380 (by decide +kernel) (by decide +kernel)
set_option maxRecDepth 100000 in
theorem si_X3_89 : Cond.methodLink RX3 89 yX8_numberOf ∈ am_T := am_mem 540 (by decide +kernel) (by decide +kernel)
set_option maxRecDepth 100000 in
theorem si_X3_92 : Cond.methodLink RX3 92 yX3_make ∈ am_T := am_mem 541 (by decide +kernel) (by decide +kernel)
set_option maxRecDepth 100000 in
theorem si_X3_96 : Cond.methodLink RX3 96 yX3_settleBy ∈ am_T := am_mem 542 (by decide +kernel) (by decide +kernel)
set_option maxRecDepth 100000 in
theorem si_X3_100 : Cond.methodLink RX3 100 yX3_has ∈ am_T := am_mem 370 (by decide +kernel) (by decide +kernel)
set_option maxRecDepth 100000 in
theorem si_X3_103 : Cond.methodLink RX3 103 yX3_isKeyUsed ∈ am_T := am_mem 375 (by decide +kernel) (by decide +kernel)
set_option maxRecDepth 100000 in
theorem si_X3_106 : Cond.methodLink RX3 106 yX8_of ∈ am_T := am_mem 379 (by decide +kernel) (by decide +kernel)
set_option maxRecDepth 100000 in
theorem si_X3_110 : ((RX3, 110, yX9_jobOf, "JobLoop") : String × Nat × MethodName × String) ∈ am_nest := List.mem_of_getElem? (i := 6) (by decide +kernel)
set_option maxRecDepth 100000 in
theorem si_X3_114 : Cond.methodLink RX3 114 yX3_lineUp ∈ am_T := am_mem 386 (by decide +kernel) (by decide +kernel)
set_option maxRecDepth 100000 in
theorem si_X5_64 : Cond.methodLink RX5 64 yX4_fill ∈ am_T := am_mem 742 (by decide +kernel) (by decide +kernel)
set_option maxRecDepth 100000 in
theorem si_X5_68 : Cond.methodLink RX5 68 yX4_at ∈ am_T := am_mem 470 (by decide +kernel) (by decide +kernel)
set_option maxRecDepth 100000 in
theorem si_X5_72 : Cond.methodLink RX5 72 yX3_make ∈ am_T := am_mem 409 (by decide +kernel) (by decide +kernel)
set_option maxRecDepth 100000 in
theorem si_X5_78 : Cond.methodLink RX5 78 yX4_put ∈ am_T := am_mem 410 (by decide +kernel) (by decide +kernel)
set_option maxRecDepth 100000 in
theorem si_X5_82 : ((RX5, 82, yX9_jobOf, "JobLoop") : String × Nat × MethodName × String) ∈ am_nest := List.mem_of_getElem? (i := 7) (by decide +kernel)
set_option maxRecDepth 100000 in
theorem si_X5_86 : Cond.methodLink RX5 86 yX3_waitFor ∈ am_T := am_mem 412 (by decide +kernel) (by decide +kernel)
set_option maxRecDepth 100000 in
theorem si_X5_90 : Cond.methodLink RX5 90 yX3_settleBy ∈ am_T := am_mem 513 (by decide +kernel) (by decide +kernel)
set_option maxRecDepth 100000 in
theorem si_X5_94 : Cond.methodLink RX5 94 yX5_perform ∈ am_T := am_mem 676 (by decide +kernel) (by decide +kernel)
set_option maxRecDepth 100000 in
theorem si_X5_98 : Cond.methodLink RX5 98 yX5_enter ∈ am_T := am_mem 461 (by decide +kernel) (by decide +kernel)
set_option maxRecDepth 100000 in
theorem si_X5_104 : Cond.methodLink RX5 104 yX5_leaveTry ∈ am_T := am_mem 543 (by decide +kernel) (by decide +kernel)
set_option maxRecDepth 100000 in
theorem si_X5_108 : Cond.methodLink RX5 108 yX5_end ∈ am_T := am_mem 552 (by decide +kernel) (by decide +kernel)
set_option maxRecDepth 100000 in
theorem si_X5_112 : Cond.methodLink RX5 112 yX0_sizeOf ∈ am_T := am_mem 471 (by decide +kernel) (by decide +kernel)
set_option maxRecDepth 100000 in
theorem si_X5_117 : Cond.methodLink RX5 117 yX5_doStep ∈ am_T := am_mem 475 (by decide +kernel) (by decide +kernel)
set_option maxRecDepth 100000 in
theorem si_X5_120 : Cond.methodLink RX5 120 yX5_giveZero ∈ am_T := am_mem 528 (by decide +kernel) (by decide +kernel)
set_option maxRecDepth 100000 in
theorem si_X5_123 : Cond.methodLink RX5 123 yX5_stop ∈ am_T := am_mem 532 (by decide +kernel) (by decide +kernel)
set_option maxRecDepth 100000 in
theorem si_X5_126 : Cond.methodLink RX5 126 yX0_kindOf ∈ am_T := am_mem 479 (by decide +kernel) (by decide +kernel)
set_option maxRecDepth 100000 in
theorem si_X5_129 : Cond.methodLink RX5 129 yX0_valueOf ∈ am_T := am_mem 483 (by decide +kernel) (by decide +kernel)
set_option maxRecDepth 100000 in
theorem si_X5_133 : Cond.methodLink RX5 133 yX8_numberOf ∈ am_T := am_mem 491 (by decide +kernel) (by decide +kernel)
set_option maxRecDepth 100000 in
theorem si_X5_139 : Cond.methodLink RX5 139 yX4_valueAt ∈ am_T := am_mem 494 (by decide +kernel) (by decide +kernel)
set_option maxRecDepth 100000 in
theorem si_X5_143 : Cond.methodLink RX5 143 yX5_faultOf ∈ am_T := am_mem 495 (by decide +kernel) (by decide +kernel)
set_option maxRecDepth 100000 in
theorem si_X5_147 : Cond.methodLink RX5 147 yX8_of ∈ am_T := am_mem 506 (by decide +kernel) (by decide +kernel)
set_option maxRecDepth 100000 in
theorem si_X5_150 : Cond.methodLink RX5 150 yX2_add ∈ am_T := am_mem 507 (by decide +kernel) (by decide +kernel)
set_option maxRecDepth 100000 in
theorem si_X5_155 : Cond.methodLink RX5 155 yX5_begin ∈ am_T := am_mem 512 (by decide +kernel) (by decide +kernel)
set_option maxRecDepth 100000 in
theorem si_X5_159 : Cond.methodLink RX5 159 yX5_addHandlers ∈ am_T := am_mem 514 (by decide +kernel) (by decide +kernel)
set_option maxRecDepth 100000 in
theorem si_X5_163 : Cond.methodLink RX5 163 yX6_add ∈ am_T := am_mem 515 (by decide +kernel) (by decide +kernel)
set_option maxRecDepth 100000 in
theorem si_X5_168 : Cond.methodLink RX5 168 yX5_jumpIfZero ∈ am_T := am_mem 520 (by decide +kernel) (by decide +kernel)
set_option maxRecDepth 100000 in
theorem si_X5_171 : Cond.methodLink RX5 171 yX5_jumpIfAbove ∈ am_T := am_mem 524 (by decide +kernel) (by decide +kernel)
set_option maxRecDepth 100000 in
theorem si_X5_174 : Cond.methodLink RX5 174 yX8_sortOf ∈ am_T := am_mem 499 (by decide +kernel) (by decide +kernel)
set_option maxRecDepth 100000 in
theorem si_X5_177 : Cond.methodLink RX5 177 yX3_has ∈ am_T := am_mem 500 (by decide +kernel) (by decide +kernel)
set_option maxRecDepth 100000 in
theorem si_X5_181 : Cond.methodLink RX5 181 yX3_isFull ∈ am_T := am_mem 501 (by decide +kernel) (by decide +kernel)
set_option maxRecDepth 100000 in
theorem si_X5_185 : Cond.methodLink RX5 185 yX6_isFull ∈ am_T := am_mem 502 (by decide +kernel) (by decide +kernel)
set_option maxRecDepth 100000 in
theorem si_X5_186 : Cond.methodLink RX5 186 yX0_behindTry ∈ am_T := am_mem 547 (by decide +kernel) (by decide +kernel)
set_option maxRecDepth 100000 in
theorem si_X5_189 : Cond.methodLink RX5 189 yX3_promiseFor ∈ am_T := am_mem 536 (by decide +kernel) (by decide +kernel)
set_option maxRecDepth 100000 in
theorem si_X6_33 : Cond.methodLink RX6 33 yX4_put ∈ am_T := am_mem 519 (by decide +kernel) (by decide +kernel)
set_option maxRecDepth 100000 in
theorem si_X6_37 : Cond.methodLink RX6 37 yX4_at ∈ am_T := am_mem 695 (by decide +kernel) (by decide +kernel)
set_option maxRecDepth 100000 in
theorem si_X6_41 : Cond.methodLink RX6 41 yX4_valueAt ∈ am_T := am_mem 708 (by decide +kernel) (by decide +kernel)
set_option maxRecDepth 100000 in
theorem si_X6_45 : Cond.methodLink RX6 45 Lib.Math.max.name ∈ am_T := am_mem 714 (by decide +kernel) (by decide +kernel)
set_option maxRecDepth 100000 in
theorem si_X7_31 : Cond.methodLink RX7 31 yX4_fill ∈ am_T := am_mem 142 (by decide +kernel) (by decide +kernel)
set_option maxRecDepth 100000 in
theorem si_X7_35 : Cond.methodLink RX7 35 yX4_put ∈ am_T := am_mem 424 (by decide +kernel) (by decide +kernel)
set_option maxRecDepth 100000 in
theorem si_X7_39 : Cond.methodLink RX7 39 yX4_at ∈ am_T := am_mem 658 (by decide +kernel) (by decide +kernel)
set_option maxRecDepth 100000 in
theorem si_X7_43 : Cond.methodLink RX7 43 yX4_valueAt ∈ am_T := am_mem 663 (by decide +kernel) (by decide +kernel)
set_option maxRecDepth 100000 in
theorem si_X8_11 : ((RX8, 11, yX9_isWithin, "JobLoop") : String × Nat × MethodName × String) ∈ am_nest := List.mem_of_getElem? (i := 5) (by decide +kernel)
set_option maxRecDepth 100000 in
theorem si_X9_62 : Cond.methodLink RX9 62 yX3_isFull ∈ am_T := am_mem 323 (by decide +kernel) (by decide +kernel)
set_option maxRecDepth 100000 in
theorem si_X9_66 : Cond.methodLink RX9 66 yX3_make ∈ am_T := am_mem 327 (by decide +kernel) (by decide +kernel)
set_option maxRecDepth 100000 in
theorem si_X9_70 : Cond.methodLink RX9 70 yX9_settleFromOutside ∈ am_T := am_mem 339 (by decide +kernel) (by decide +kernel)
set_option maxRecDepth 100000 in
theorem si_X9_74 : Cond.methodLink RX9 74 yX3_has ∈ am_T := am_mem 343 (by decide +kernel) (by decide +kernel)
set_option maxRecDepth 100000 in
theorem si_X9_78 : Cond.methodLink RX9 78 yX9_isValue ∈ am_T := am_mem 350 (by decide +kernel) (by decide +kernel)
set_option maxRecDepth 100000 in
theorem si_X9_82 : Cond.methodLink RX9 82 yX8_of ∈ am_T := am_mem 362 (by decide +kernel) (by decide +kernel)
set_option maxRecDepth 100000 in
theorem si_X9_88 : Cond.methodLink RX9 88 yX3_settleBy ∈ am_T := am_mem 366 (by decide +kernel) (by decide +kernel)
set_option maxRecDepth 100000 in
theorem si_X9_92 : Cond.methodLink RX9 92 yX9_isHandler ∈ am_T := am_mem 398 (by decide +kernel) (by decide +kernel)
set_option maxRecDepth 100000 in
theorem si_X9_95 : Cond.methodLink RX9 95 yX5_addHandlers ∈ am_T := am_mem 405 (by decide +kernel) (by decide +kernel)
set_option maxRecDepth 100000 in
theorem si_X9_99 : Cond.methodLink RX9 99 yX9_isWithin ∈ am_T := am_mem 404 (by decide +kernel) (by decide +kernel)
set_option maxRecDepth 100000 in
theorem si_X9_102 : Cond.methodLink RX9 102 yX7_change ∈ am_T := am_mem 420 (by decide +kernel) (by decide +kernel)
set_option maxRecDepth 100000 in
theorem si_X9_106 : Cond.methodLink RX9 106 yX9_isFunction ∈ am_T := am_mem 401 (by decide +kernel) (by decide +kernel)
set_option maxRecDepth 100000 in
theorem si_X9_109 : Cond.methodLink RX9 109 yX0_mayBeStep ∈ am_T := am_mem 429 (by decide +kernel) (by decide +kernel)
set_option maxRecDepth 100000 in
theorem si_X9_113 : Cond.methodLink RX9 113 yX0_isFull ∈ am_T := am_mem 435 (by decide +kernel) (by decide +kernel)
set_option maxRecDepth 100000 in
theorem si_X9_115 : Cond.methodLink RX9 115 yX0_add ∈ am_T := am_mem 440 (by decide +kernel) (by decide +kernel)
set_option maxRecDepth 100000 in
theorem si_X9_119 : Cond.methodLink RX9 119 yX0_removeAll ∈ am_T := am_mem 449 (by decide +kernel) (by decide +kernel)
set_option maxRecDepth 100000 in
theorem si_X9_123 : Cond.methodLink RX9 123 yX5_begin ∈ am_T := am_mem 457 (by decide +kernel) (by decide +kernel)
set_option maxRecDepth 100000 in
theorem si_X9_127 : Cond.methodLink RX9 127 yX5_goOn ∈ am_T := am_mem 465 (by decide +kernel) (by decide +kernel)
set_option maxRecDepth 100000 in
theorem si_X9_130 : Cond.methodLink RX9 130 yX6_isFull ∈ am_T := am_mem 560 (by decide +kernel) (by decide +kernel)
set_option maxRecDepth 100000 in
theorem si_X9_131 : Cond.methodLink RX9 131 yX6_add ∈ am_T := am_mem 561 (by decide +kernel) (by decide +kernel)
set_option maxRecDepth 100000 in
theorem si_X9_134 : Cond.methodLink RX9 134 yX1_isFull ∈ am_T := am_mem 566 (by decide +kernel) (by decide +kernel)
set_option maxRecDepth 100000 in
theorem si_X9_135 : Cond.methodLink RX9 135 yX1_addItem ∈ am_T := am_mem 570 (by decide +kernel) (by decide +kernel)
set_option maxRecDepth 100000 in
theorem si_X9_139 : Cond.methodLink RX9 139 yX1_hasRoom ∈ am_T := am_mem 579 (by decide +kernel) (by decide +kernel)
set_option maxRecDepth 100000 in
theorem si_X9_142 : Cond.methodLink RX9 142 yX1_form ∈ am_T := am_mem 586 (by decide +kernel) (by decide +kernel)
set_option maxRecDepth 100000 in
theorem si_X9_145 : Cond.methodLink RX9 145 yX3_jobs ∈ am_T := am_mem 605 (by decide +kernel) (by decide +kernel)
set_option maxRecDepth 100000 in
theorem si_X9_148 : Cond.methodLink RX9 148 yX6_size ∈ am_T := am_mem 609 (by decide +kernel) (by decide +kernel)
set_option maxRecDepth 100000 in
theorem si_X9_151 : Cond.methodLink RX9 151 yX2_beginTurn ∈ am_T := am_mem 613 (by decide +kernel) (by decide +kernel)
set_option maxRecDepth 100000 in
theorem si_X9_154 : Cond.methodLink RX9 154 yX3_takeJob ∈ am_T := am_mem 617 (by decide +kernel) (by decide +kernel)
set_option maxRecDepth 100000 in
theorem si_X9_157 : Cond.methodLink RX9 157 yX9_doJob ∈ am_T := am_mem 621 (by decide +kernel) (by decide +kernel)
set_option maxRecDepth 100000 in
theorem si_X9_161 : Cond.methodLink RX9 161 yX6_dueFirst ∈ am_T := am_mem 691 (by decide +kernel) (by decide +kernel)
set_option maxRecDepth 100000 in
theorem si_X9_164 : Cond.methodLink RX9 164 yX9_doTask ∈ am_T := am_mem 696 (by decide +kernel) (by decide +kernel)
set_option maxRecDepth 100000 in
theorem si_X9_167 : Cond.methodLink RX9 167 yX3_made ∈ am_T := am_mem 354 (by decide +kernel) (by decide +kernel)
set_option maxRecDepth 100000 in
theorem si_X9_170 : Cond.methodLink RX9 170 yX3_clear ∈ am_T := am_mem 721 (by decide +kernel) (by decide +kernel)
set_option maxRecDepth 100000 in
theorem si_X9_173 : Cond.methodLink RX9 173 yX7_clear ∈ am_T := am_mem 725 (by decide +kernel) (by decide +kernel)
set_option maxRecDepth 100000 in
theorem si_X9_174 : Cond.methodLink RX9 174 yX6_clear ∈ am_T := am_mem 726 (by decide +kernel) (by decide +kernel)
set_option maxRecDepth 100000 in
theorem si_X9_175 : Cond.methodLink RX9 175 yX2_clear ∈ am_T := am_mem 730 (by decide +kernel) (by decide +kernel)
set_option maxRecDepth 100000 in
theorem si_X9_176 : Cond.methodLink RX9 176 yX1_clear ∈ am_T := am_mem 734 (by decide +kernel) (by decide +kernel)
set_option maxRecDepth 100000 in
theorem si_X9_177 : Cond.methodLink RX9 177 yX5_clear ∈ am_T := am_mem 738 (by decide +kernel) (by decide +kernel)
set_option maxRecDepth 100000 in
theorem si_X9_178 : Cond.methodLink RX9 178 yX3_statusOf ∈ am_T := am_mem 629 (by decide +kernel) (by decide +kernel)
set_option maxRecDepth 100000 in
theorem si_X9_181 : Cond.methodLink RX9 181 yX3_valueOf ∈ am_T := am_mem 633 (by decide +kernel) (by decide +kernel)
set_option maxRecDepth 100000 in
theorem si_X9_185 : Cond.methodLink RX9 185 yX8_sortOf ∈ am_T := am_mem 651 (by decide +kernel) (by decide +kernel)
set_option maxRecDepth 100000 in
theorem si_X9_188 : Cond.methodLink RX9 188 yX8_numberOf ∈ am_T := am_mem 650 (by decide +kernel) (by decide +kernel)
set_option maxRecDepth 100000 in
theorem si_X9_191 : Cond.methodLink RX9 191 yX3_isLoose ∈ am_T := am_mem 747 (by decide +kernel) (by decide +kernel)
set_option maxRecDepth 100000 in
theorem si_X9_194 : Cond.methodLink RX9 194 yX3_reactionsOf ∈ am_T := am_mem 751 (by decide +kernel) (by decide +kernel)
set_option maxRecDepth 100000 in
theorem si_X9_197 : Cond.methodLink RX9 197 yX3_lastKeyOf ∈ am_T := am_mem 668 (by decide +kernel) (by decide +kernel)
set_option maxRecDepth 100000 in
theorem si_X9_200 : Cond.methodLink RX9 200 yX3_isKeyUsed ∈ am_T := am_mem 755 (by decide +kernel) (by decide +kernel)
set_option maxRecDepth 100000 in
theorem si_X9_203 : Cond.methodLink RX9 203 yX5_isStopped ∈ am_T := am_mem 756 (by decide +kernel) (by decide +kernel)
set_option maxRecDepth 100000 in
theorem si_X9_206 : Cond.methodLink RX9 206 yX2_kept ∈ am_T := am_mem 764 (by decide +kernel) (by decide +kernel)
set_option maxRecDepth 100000 in
theorem si_X9_211 : Cond.methodLink RX9 211 yX2_valueOf ∈ am_T := am_mem 772 (by decide +kernel) (by decide +kernel)
set_option maxRecDepth 100000 in
theorem si_X9_212 : Cond.methodLink RX9 212 yX2_turnOf ∈ am_T := am_mem 777 (by decide +kernel) (by decide +kernel)
set_option maxRecDepth 100000 in
theorem si_X9_215 : Cond.methodLink RX9 215 yX2_turns ∈ am_T := am_mem 786 (by decide +kernel) (by decide +kernel)
set_option maxRecDepth 100000 in
theorem si_X9_218 : Cond.methodLink RX9 218 yX6_time ∈ am_T := am_mem 790 (by decide +kernel) (by decide +kernel)
set_option maxRecDepth 100000 in
theorem si_X9_221 : Cond.methodLink RX9 221 yX2_total ∈ am_T := am_mem 794 (by decide +kernel) (by decide +kernel)
set_option maxRecDepth 100000 in
theorem si_X9_224 : Cond.methodLink RX9 224 yX3_loose ∈ am_T := am_mem 798 (by decide +kernel) (by decide +kernel)
set_option maxRecDepth 100000 in
theorem si_X9_227 : Cond.methodLink RX9 227 yX1_items ∈ am_T := am_mem 803 (by decide +kernel) (by decide +kernel)
set_option maxRecDepth 100000 in
theorem si_X9_230 : Cond.methodLink RX9 230 yX3_sourceOf ∈ am_T := am_mem 625 (by decide +kernel) (by decide +kernel)
set_option maxRecDepth 100000 in
theorem si_X9_233 : Cond.methodLink RX9 233 yX3_toAdopt ∈ am_T := am_mem 638 (by decide +kernel) (by decide +kernel)
set_option maxRecDepth 100000 in
theorem si_X9_236 : Cond.methodLink RX9 236 yX3_addKey ∈ am_T := am_mem 642 (by decide +kernel) (by decide +kernel)
set_option maxRecDepth 100000 in
theorem si_X9_239 : Cond.methodLink RX9 239 yX9_adopt ∈ am_T := am_mem 646 (by decide +kernel) (by decide +kernel)
set_option maxRecDepth 100000 in
theorem si_X9_243 : Cond.methodLink RX9 243 yX5_handle ∈ am_T := am_mem 672 (by decide +kernel) (by decide +kernel)
set_option maxRecDepth 100000 in
theorem si_X9_247 : Cond.methodLink RX9 247 yX5_resume ∈ am_T := am_mem 680 (by decide +kernel) (by decide +kernel)
set_option maxRecDepth 100000 in
theorem si_X9_250 : Cond.methodLink RX9 250 yX1_settlePlace ∈ am_T := am_mem 685 (by decide +kernel) (by decide +kernel)
set_option maxRecDepth 100000 in
theorem si_X9_254 : Cond.methodLink RX9 254 yX1_settleIfComplete ∈ am_T := am_mem 690 (by decide +kernel) (by decide +kernel)
set_option maxRecDepth 100000 in
theorem si_X9_257 : Cond.methodLink RX9 257 yX9_jobOf ∈ am_T := am_mem 652 (by decide +kernel) (by decide +kernel)
set_option maxRecDepth 100000 in
theorem si_X9_261 : Cond.methodLink RX9 261 yX3_waitFor ∈ am_T := am_mem 653 (by decide +kernel) (by decide +kernel)
set_option maxRecDepth 100000 in
theorem si_X9_265 : Cond.methodLink RX9 265 yX7_kindOf ∈ am_T := am_mem 654 (by decide +kernel) (by decide +kernel)
set_option maxRecDepth 100000 in
theorem si_X9_268 : Cond.methodLink RX9 268 yX7_uOf ∈ am_T := am_mem 659 (by decide +kernel) (by decide +kernel)
set_option maxRecDepth 100000 in
theorem si_X9_271 : Cond.methodLink RX9 271 yX7_wOf ∈ am_T := am_mem 664 (by decide +kernel) (by decide +kernel)
set_option maxRecDepth 100000 in
theorem si_X9_274 : Cond.methodLink RX9 274 yX6_functionOf ∈ am_T := am_mem 700 (by decide +kernel) (by decide +kernel)
set_option maxRecDepth 100000 in
theorem si_X9_277 : Cond.methodLink RX9 277 yX6_valueOf ∈ am_T := am_mem 704 (by decide +kernel) (by decide +kernel)
set_option maxRecDepth 100000 in
theorem si_X9_278 : Cond.methodLink RX9 278 yX5_perform ∈ am_T := am_mem 709 (by decide +kernel) (by decide +kernel)
set_option maxRecDepth 100000 in
theorem si_X9_281 : Cond.methodLink RX9 281 yX6_finish ∈ am_T := am_mem 710 (by decide +kernel) (by decide +kernel)
set_option maxRecDepth 100000 in
theorem si_X9_284 : Cond.methodLink RX9 284 yX8_exists ∈ am_T := am_mem 358 (by decide +kernel) (by decide +kernel)
set_option maxRecDepth 100000 in
theorem si_X10_171 : Cond.methodLink RX10 171 yX10_in ∈ am_T := am_mem 1003 (by decide +kernel) (by decide +kernel)
set_option maxRecDepth 100000 in
theorem si_X10_175 : Cond.methodLink RX10 175 yX10_isPromise ∈ am_T := am_mem 999 (by decide +kernel) (by decide +kernel)
set_option maxRecDepth 100000 in
theorem si_X10_179 : Cond.methodLink RX10 179 yX10_firstOn ∈ am_T := am_mem 1022 (by decide +kernel) (by decide +kernel)
set_option maxRecDepth 100000 in
theorem si_X10_183 : Cond.methodLink RX10 183 yX10_carry ∈ am_T := am_mem 1026 (by decide +kernel) (by decide +kernel)
set_option maxRecDepth 100000 in
theorem si_X10_187 : Cond.methodLink RX10 187 yX10_takes ∈ am_T := am_mem 1014 (by decide +kernel) (by decide +kernel)
set_option maxRecDepth 100000 in
theorem si_X10_191 : Cond.methodLink RX10 191 yX10_settle ∈ am_T := am_mem 1018 (by decide +kernel) (by decide +kernel)
set_option maxRecDepth 100000 in
theorem si_X10_194 : Cond.methodLink RX10 194 yX10_enter ∈ am_T := am_mem 1030 (by decide +kernel) (by decide +kernel)
set_option maxRecDepth 100000 in
theorem si_X10_198 : Cond.methodLink RX10 198 yX10_rejectBy ∈ am_T := am_mem 1038 (by decide +kernel) (by decide +kernel)
set_option maxRecDepth 100000 in
theorem si_X10_201 : Cond.methodLink RX10 201 yX10_resolveBy ∈ am_T := am_mem 1010 (by decide +kernel) (by decide +kernel)
set_option maxRecDepth 100000 in
theorem si_X10_204 : Cond.methodLink RX10 204 yX10_isValue ∈ am_T := am_mem 1006 (by decide +kernel) (by decide +kernel)
set_option maxRecDepth 100000 in
theorem si_X10_207 : Cond.methodLink RX10 207 yX10_promise ∈ am_T := am_mem 1046 (by decide +kernel) (by decide +kernel)
set_option maxRecDepth 100000 in
theorem si_X10_211 : Cond.methodLink RX10 211 yX10_waitFor ∈ am_T := am_mem 1047 (by decide +kernel) (by decide +kernel)
set_option maxRecDepth 100000 in
theorem si_X10_218 : Cond.methodLink RX10 218 yX10_put ∈ am_T := am_mem 1087 (by decide +kernel) (by decide +kernel)
set_option maxRecDepth 100000 in
theorem si_X10_222 : Cond.methodLink RX10 222 yX10_endOf ∈ am_T := am_mem 1091 (by decide +kernel) (by decide +kernel)
set_option maxRecDepth 100000 in
theorem si_X10_226 : Cond.methodLink RX10 226 yX10_finish ∈ am_T := am_mem 1075 (by decide +kernel) (by decide +kernel)
set_option maxRecDepth 100000 in
theorem si_X10_230 : Cond.methodLink RX10 230 yX10_endBy ∈ am_T := am_mem 1079 (by decide +kernel) (by decide +kernel)
set_option maxRecDepth 100000 in
theorem si_X10_244 : Cond.methodLink RX10 244 yX10_fling ∈ am_T := am_mem 1083 (by decide +kernel) (by decide +kernel)
set_option maxRecDepth 100000 in
theorem si_X10_247 : Cond.methodLink RX10 247 yX10_note ∈ am_T := am_mem 1099 (by decide +kernel) (by decide +kernel)
set_option maxRecDepth 100000 in
theorem si_X10_250 : Cond.methodLink RX10 250 yX10_awaits ∈ am_T := am_mem 1103 (by decide +kernel) (by decide +kernel)
set_option maxRecDepth 100000 in
theorem si_X10_253 : Cond.methodLink RX10 253 yX10_make ∈ am_T := am_mem 1107 (by decide +kernel) (by decide +kernel)
set_option maxRecDepth 100000 in
theorem si_X10_256 : Cond.methodLink RX10 256 yX10_begin ∈ am_T := am_mem 1067 (by decide +kernel) (by decide +kernel)
set_option maxRecDepth 100000 in
theorem si_X10_259 : Cond.methodLink RX10 259 yX10_task ∈ am_T := am_mem 1111 (by decide +kernel) (by decide +kernel)
set_option maxRecDepth 100000 in
theorem si_X10_266 : Cond.methodLink RX10 266 yX10_does ∈ am_T := am_mem 1095 (by decide +kernel) (by decide +kernel)
set_option maxRecDepth 100000 in
theorem si_X10_270 : Cond.methodLink RX10 270 yX10_go ∈ am_T := am_mem 1071 (by decide +kernel) (by decide +kernel)
set_option maxRecDepth 100000 in
theorem si_X10_273 : Cond.methodLink RX10 273 yX10_count ∈ am_T := am_mem 1119 (by decide +kernel) (by decide +kernel)
set_option maxRecDepth 100000 in
theorem si_X10_276 : Cond.methodLink RX10 276 yX10_adopt ∈ am_T := am_mem 1151 (by decide +kernel) (by decide +kernel)
set_option maxRecDepth 100000 in
theorem si_X10_279 : Cond.methodLink RX10 279 yX10_placed ∈ am_T := am_mem 1155 (by decide +kernel) (by decide +kernel)
set_option maxRecDepth 100000 in
theorem si_X10_282 : Cond.methodLink RX10 282 yX10_done ∈ am_T := am_mem 1159 (by decide +kernel) (by decide +kernel)
set_option maxRecDepth 100000 in
theorem si_X10_285 : Cond.methodLink RX10 285 yX10_job ∈ am_T := am_mem 1147 (by decide +kernel) (by decide +kernel)
set_option maxRecDepth 100000 in
theorem si_X10_289 : Cond.methodLink RX10 289 yX10_turn ∈ am_T := am_mem 1143 (by decide +kernel) (by decide +kernel)
set_option maxRecDepth 100000 in
theorem si_X10_149 : Cond.methodLink RX10 149 yX10_clear ∈ am_T := am_mem 813 (by decide +kernel) (by decide +kernel)
set_option maxRecDepth 100000 in
theorem si_X10_293 : Cond.methodLink RX10 293 yX10_isLoose ∈ am_T := am_mem 1127 (by decide +kernel) (by decide +kernel)
set_option maxRecDepth 100000 in
theorem si_X10_296 : Cond.methodLink RX10 296 yX10_waiting ∈ am_T := am_mem 1123 (by decide +kernel) (by decide +kernel)
set_option maxRecDepth 100000 in
theorem ym_X9_isWithin : am_y yX9_isWithin cX9_isWithin 2 (some .boolean) 2 := ⟨am_mem 349 (by decide +kernel) (by decide +kernel), am_mem 46 (by decide +kernel) (by decide +kernel), by decide +kernel, by decide +kernel, by decide +kernel, by decide +kernel⟩
set_option maxRecDepth 100000 in
theorem st_X9_isWithin : Cond.static yX9_isWithin ∈ am_T := am_mem 348 (by decide +kernel) (by decide +kernel)
set_option maxRecDepth 100000 in
theorem ym_X8_exists : am_y yX8_exists cX8_exists 3 (some .boolean) 3 := ⟨am_mem 360 (by decide +kernel) (by decide +kernel), am_mem 56 (by decide +kernel) (by decide +kernel), by decide +kernel, by decide +kernel, by decide +kernel, by decide +kernel⟩
set_option maxRecDepth 100000 in
theorem ym_X9_isFunction : am_y yX9_isFunction cX9_isFunction 1 (some .boolean) 1 := ⟨am_mem 403 (by decide +kernel) (by decide +kernel), am_mem 46 (by decide +kernel) (by decide +kernel), by decide +kernel, by decide +kernel, by decide +kernel, by decide +kernel⟩
set_option maxRecDepth 100000 in
theorem st_X8_exists : Cond.static yX8_exists ∈ am_T := am_mem 359 (by decide +kernel) (by decide +kernel)
set_option maxRecDepth 100000 in
theorem st_X9_isFunction : Cond.static yX9_isFunction ∈ am_T := am_mem 402 (by decide +kernel) (by decide +kernel)
set_option maxRecDepth 100000 in
theorem ym_X0_mayBeStep : am_y yX0_mayBeStep cX0_mayBeStep 3 (some .boolean) 3 := ⟨am_mem 431 (by decide +kernel) (by decide +kernel), am_mem 50 (by decide +kernel) (by decide +kernel), by decide +kernel, by decide +kernel, by decide +kernel, by decide +kernel⟩
set_option maxRecDepth 100000 in
theorem fl_X4_7 : am_fld RX4 4 7 0 := ⟨TX4, 1, rfl, am_hin4, by decide, rfl, am_mem 78 (by decide +kernel) (by decide +kernel)⟩
set_option maxRecDepth 100000 in
theorem ym_X4_at : am_y yX4_at cX4_at 2 (some .int) 1 := ⟨am_mem 374 (by decide +kernel) (by decide +kernel), am_mem 48 (by decide +kernel) (by decide +kernel), by decide +kernel, by decide +kernel, by decide +kernel, by decide +kernel⟩
set_option maxRecDepth 100000 in
theorem fl_X0_14 : am_fld RX0 0 14 0 := ⟨TX0, 3, rfl, am_hin0, by decide, rfl, am_mem 164 (by decide +kernel) (by decide +kernel)⟩
set_option maxRecDepth 100000 in
theorem sk_3 : am_sk[3]? = some (.inl (0, am_lf)) := rfl
set_option maxRecDepth 100000 in
theorem sk_22 : am_sk[22]? = some (.inl (4, [some 55])) := rfl
set_option maxRecDepth 100000 in
theorem sk_55 : am_sk[55]? = some (.inr (2, 10)) := rfl
set_option maxRecDepth 100000 in
theorem im_X4_at : Cond.instanceMethod yX4_at ∈ am_T := am_mem 372 (by decide +kernel) (by decide +kernel)
set_option maxRecDepth 100000 in
theorem se_X4_at : Cond.selects yX4_at.cls yX4_at yX4_at ∈ am_T := am_mem 373 (by decide +kernel) (by decide +kernel)
set_option maxRecDepth 100000 in
theorem ym_X0_isFull : am_y yX0_isFull cX0_isFull 2 (some .boolean) 1 := ⟨am_mem 438 (by decide +kernel) (by decide +kernel), am_mem 50 (by decide +kernel) (by decide +kernel), by decide +kernel, by decide +kernel, by decide +kernel, by decide +kernel⟩
set_option maxRecDepth 100000 in
theorem ym_X4_put : am_y yX4_put cX4_put 4 none 2 := ⟨am_mem 334 (by decide +kernel) (by decide +kernel), am_mem 48 (by decide +kernel) (by decide +kernel), by decide +kernel, by decide +kernel, by decide +kernel, by decide +kernel⟩
set_option maxRecDepth 100000 in
theorem fl_X0_20 : am_fld RX0 0 20 1 := ⟨TX0, 3, rfl, am_hin0, by decide, rfl, am_mem 165 (by decide +kernel) (by decide +kernel)⟩
set_option maxRecDepth 100000 in
theorem sk_23 : am_sk[23]? = some (.inl (4, [some 56])) := rfl
set_option maxRecDepth 100000 in
theorem sk_56 : am_sk[56]? = some (.inr (2, 100)) := rfl
set_option maxRecDepth 100000 in
theorem im_X4_put : Cond.instanceMethod yX4_put ∈ am_T := am_mem 332 (by decide +kernel) (by decide +kernel)
set_option maxRecDepth 100000 in
theorem se_X4_put : Cond.selects yX4_put.cls yX4_put yX4_put ∈ am_T := am_mem 333 (by decide +kernel) (by decide +kernel)
set_option maxRecDepth 100000 in
theorem fl_X0_23 : am_fld RX0 0 23 2 := ⟨TX0, 3, rfl, am_hin0, by decide, rfl, am_mem 166 (by decide +kernel) (by decide +kernel)⟩
set_option maxRecDepth 100000 in
theorem sk_24 : am_sk[24]? = some (.inl (4, [some 57])) := rfl
set_option maxRecDepth 100000 in
theorem sk_57 : am_sk[57]? = some (.inr (2, 100)) := rfl
set_option maxRecDepth 100000 in
theorem ym_X0_add : am_y yX0_add cX0_add 6 (some .int) 3 := ⟨am_mem 443 (by decide +kernel) (by decide +kernel), am_mem 50 (by decide +kernel) (by decide +kernel), by decide +kernel, by decide +kernel, by decide +kernel, by decide +kernel⟩
set_option maxRecDepth 100000 in
theorem ym_X0_removeAll : am_y yX0_removeAll cX0_removeAll 3 (some .int) 1 := ⟨am_mem 452 (by decide +kernel) (by decide +kernel), am_mem 50 (by decide +kernel) (by decide +kernel), by decide +kernel, by decide +kernel, by decide +kernel, by decide +kernel⟩
set_option maxRecDepth 100000 in
theorem ym_X0_sizeOf : am_y yX0_sizeOf cX0_sizeOf 2 (some .int) 1 := ⟨am_mem 474 (by decide +kernel) (by decide +kernel), am_mem 50 (by decide +kernel) (by decide +kernel), by decide +kernel, by decide +kernel, by decide +kernel, by decide +kernel⟩
set_option maxRecDepth 100000 in
theorem ym_X0_kindOf : am_y yX0_kindOf cX0_kindOf 3 (some .int) 2 := ⟨am_mem 482 (by decide +kernel) (by decide +kernel), am_mem 50 (by decide +kernel) (by decide +kernel), by decide +kernel, by decide +kernel, by decide +kernel, by decide +kernel⟩
set_option maxRecDepth 100000 in
theorem ym_X4_valueAt : am_y yX4_valueAt cX4_valueAt 2 (some .long) 1 := ⟨am_mem 490 (by decide +kernel) (by decide +kernel), am_mem 48 (by decide +kernel) (by decide +kernel), by decide +kernel, by decide +kernel, by decide +kernel, by decide +kernel⟩
set_option maxRecDepth 100000 in
theorem im_X4_valueAt : Cond.instanceMethod yX4_valueAt ∈ am_T := am_mem 488 (by decide +kernel) (by decide +kernel)
set_option maxRecDepth 100000 in
theorem se_X4_valueAt : Cond.selects yX4_valueAt.cls yX4_valueAt yX4_valueAt ∈ am_T := am_mem 489 (by decide +kernel) (by decide +kernel)
set_option maxRecDepth 100000 in
theorem ym_X0_valueOf : am_y yX0_valueOf cX0_valueOf 3 (some .long) 2 := ⟨am_mem 486 (by decide +kernel) (by decide +kernel), am_mem 50 (by decide +kernel) (by decide +kernel), by decide +kernel, by decide +kernel, by decide +kernel, by decide +kernel⟩
set_option maxRecDepth 100000 in
theorem im_X0_kindOf : Cond.instanceMethod yX0_kindOf ∈ am_T := am_mem 480 (by decide +kernel) (by decide +kernel)
set_option maxRecDepth 100000 in
theorem se_X0_kindOf : Cond.selects yX0_kindOf.cls yX0_kindOf yX0_kindOf ∈ am_T := am_mem 481 (by decide +kernel) (by decide +kernel)
set_option maxRecDepth 100000 in
theorem ym_X0_behindTry : am_y yX0_behindTry cX0_behindTry 7 (some .int) 2 := ⟨am_mem 550 (by decide +kernel) (by decide +kernel), am_mem 50 (by decide +kernel) (by decide +kernel), by decide +kernel, by decide +kernel, by decide +kernel, by decide +kernel⟩
set_option maxRecDepth 100000 in
theorem fp_X1_29 : am_fldP RX1 1 29 5 .int := ⟨TX1, 6, tyX1, rfl, am_hin1, by decide, rfl, am_mem 232 (by decide +kernel) (by decide +kernel), tyX1_ok, nmX1, rfl, rfl⟩
set_option maxRecDepth 100000 in
theorem sk_6 : am_sk[6]? = some (.inl (1, am_lg)) := rfl
set_option maxRecDepth 100000 in
theorem ym_X1_clear : am_y yX1_clear cX1_clear 1 none 0 := ⟨am_mem 737 (by decide +kernel) (by decide +kernel), am_mem 53 (by decide +kernel) (by decide +kernel), by decide +kernel, by decide +kernel, by decide +kernel, by decide +kernel⟩
set_option maxRecDepth 100000 in
theorem fl_X1_29 : am_fld RX1 1 29 5 := ⟨TX1, 6, rfl, am_hin1, by decide, rfl, am_mem 232 (by decide +kernel) (by decide +kernel)⟩
set_option maxRecDepth 100000 in
theorem ym_X1_items : am_y yX1_items cX1_items 1 (some .int) 0 := ⟨am_mem 806 (by decide +kernel) (by decide +kernel), am_mem 53 (by decide +kernel) (by decide +kernel), by decide +kernel, by decide +kernel, by decide +kernel, by decide +kernel⟩
set_option maxRecDepth 100000 in
theorem ym_X1_isFull : am_y yX1_isFull cX1_isFull 1 (some .boolean) 0 := ⟨am_mem 569 (by decide +kernel) (by decide +kernel), am_mem 53 (by decide +kernel) (by decide +kernel), by decide +kernel, by decide +kernel, by decide +kernel, by decide +kernel⟩
set_option maxRecDepth 100000 in
theorem fl_X1_14 : am_fld RX1 1 14 0 := ⟨TX1, 6, rfl, am_hin1, by decide, rfl, am_mem 227 (by decide +kernel) (by decide +kernel)⟩
set_option maxRecDepth 100000 in
theorem sk_30 : am_sk[30]? = some (.inl (4, [some 63])) := rfl
set_option maxRecDepth 100000 in
theorem sk_63 : am_sk[63]? = some (.inr (2, 5)) := rfl
set_option maxRecDepth 100000 in
theorem ym_X1_addItem : am_y yX1_addItem cX1_addItem 3 (some .int) 1 := ⟨am_mem 573 (by decide +kernel) (by decide +kernel), am_mem 53 (by decide +kernel) (by decide +kernel), by decide +kernel, by decide +kernel, by decide +kernel, by decide +kernel⟩
set_option maxRecDepth 100000 in
theorem fl_X3_50 : am_fld RX3 3 50 11 := ⟨TX3, 15, rfl, am_hin3, by decide, rfl, am_mem 94 (by decide +kernel) (by decide +kernel)⟩
set_option maxRecDepth 100000 in
theorem sk_1 : am_sk[1]? = some (.inl (3, am_lp)) := rfl
set_option maxRecDepth 100000 in
theorem ym_X3_made : am_y yX3_made cX3_made 1 (some .int) 0 := ⟨am_mem 357 (by decide +kernel) (by decide +kernel), am_mem 47 (by decide +kernel) (by decide +kernel), by decide +kernel, by decide +kernel, by decide +kernel, by decide +kernel⟩
set_option maxRecDepth 100000 in
theorem ym_X8_sortOf : am_y yX8_sortOf cX8_sortOf 2 (some .int) 1 := ⟨am_mem 382 (by decide +kernel) (by decide +kernel), am_mem 56 (by decide +kernel) (by decide +kernel), by decide +kernel, by decide +kernel, by decide +kernel, by decide +kernel⟩
set_option maxRecDepth 100000 in
theorem fl_X1_33 : am_fld RX1 1 33 4 := ⟨TX1, 6, rfl, am_hin1, by decide, rfl, am_mem 231 (by decide +kernel) (by decide +kernel)⟩
set_option maxRecDepth 100000 in
theorem im_X3_made : Cond.instanceMethod yX3_made ∈ am_T := am_mem 355 (by decide +kernel) (by decide +kernel)
set_option maxRecDepth 100000 in
theorem se_X3_made : Cond.selects yX3_made.cls yX3_made yX3_made ∈ am_T := am_mem 356 (by decide +kernel) (by decide +kernel)
set_option maxRecDepth 100000 in
theorem st_X8_sortOf : Cond.static yX8_sortOf ∈ am_T := am_mem 381 (by decide +kernel) (by decide +kernel)
set_option maxRecDepth 100000 in
theorem ym_X1_hasRoom : am_y yX1_hasRoom cX1_hasRoom 3 (some .boolean) 0 := ⟨am_mem 582 (by decide +kernel) (by decide +kernel), am_mem 53 (by decide +kernel) (by decide +kernel), by decide +kernel, by decide +kernel, by decide +kernel, by decide +kernel⟩
set_option maxRecDepth 100000 in
theorem ym_X3_has : am_y yX3_has cX3_has 2 (some .boolean) 1 := ⟨am_mem 346 (by decide +kernel) (by decide +kernel), am_mem 47 (by decide +kernel) (by decide +kernel), by decide +kernel, by decide +kernel, by decide +kernel, by decide +kernel⟩
set_option maxRecDepth 100000 in
theorem fl_X3_26 : am_fld RX3 3 26 3 := ⟨TX3, 15, rfl, am_hin3, by decide, rfl, am_mem 86 (by decide +kernel) (by decide +kernel)⟩
set_option maxRecDepth 100000 in
theorem sk_11 : am_sk[11]? = some (.inl (4, [some 44])) := rfl
set_option maxRecDepth 100000 in
theorem sk_44 : am_sk[44]? = some (.inr (2, 100)) := rfl
set_option maxRecDepth 100000 in
theorem ym_X3_isKeyUsed : am_y yX3_isKeyUsed cX3_isKeyUsed 2 (some .boolean) 1 := ⟨am_mem 378 (by decide +kernel) (by decide +kernel), am_mem 47 (by decide +kernel) (by decide +kernel), by decide +kernel, by decide +kernel, by decide +kernel, by decide +kernel⟩
set_option maxRecDepth 100000 in
theorem fl_X3_54 : am_fld RX3 3 54 12 := ⟨TX3, 15, rfl, am_hin3, by decide, rfl, am_mem 95 (by decide +kernel) (by decide +kernel)⟩
set_option maxRecDepth 100000 in
theorem fl_X3_44 : am_fld RX3 3 44 9 := ⟨TX3, 15, rfl, am_hin3, by decide, rfl, am_mem 92 (by decide +kernel) (by decide +kernel)⟩
set_option maxRecDepth 100000 in
theorem fl_X3_60 : am_fld RX3 3 60 14 := ⟨TX3, 15, rfl, am_hin3, by decide, rfl, am_mem 97 (by decide +kernel) (by decide +kernel)⟩
set_option maxRecDepth 100000 in
theorem sk_17 : am_sk[17]? = some (.inl (4, [some 50])) := rfl
set_option maxRecDepth 100000 in
theorem sk_50 : am_sk[50]? = some (.inr (2, 900)) := rfl
set_option maxRecDepth 100000 in
theorem fp_X3_60 : am_fldP RX3 3 60 14 .int := ⟨TX3, 15, tyX3, rfl, am_hin3, by decide, rfl, am_mem 97 (by decide +kernel) (by decide +kernel), tyX3_ok, nmX3, rfl, rfl⟩
set_option maxRecDepth 100000 in
theorem fp_X3_54 : am_fldP RX3 3 54 12 .int := ⟨TX3, 15, tyX3, rfl, am_hin3, by decide, rfl, am_mem 95 (by decide +kernel) (by decide +kernel), tyX3_ok, nmX3, rfl, rfl⟩
set_option maxRecDepth 100000 in
theorem fp_X3_57 : am_fldP RX3 3 57 13 .int := ⟨TX3, 15, tyX3, rfl, am_hin3, by decide, rfl, am_mem 96 (by decide +kernel) (by decide +kernel), tyX3_ok, nmX3, rfl, rfl⟩
set_option maxRecDepth 100000 in
theorem ym_X3_lineUp : am_y yX3_lineUp cX3_lineUp 4 none 3 := ⟨am_mem 389 (by decide +kernel) (by decide +kernel), am_mem 47 (by decide +kernel) (by decide +kernel), by decide +kernel, by decide +kernel, by decide +kernel, by decide +kernel⟩
set_option maxRecDepth 100000 in
theorem co_X8_9 : Cond.constantLong RX8 9 (Int64.ofInt 4294967295) ∈ am_T := am_mem 365 (by decide +kernel) (by decide +kernel)
set_option maxRecDepth 100000 in
theorem ym_X8_of : am_y yX8_of cX8_of 2 (some .long) 2 := ⟨am_mem 364 (by decide +kernel) (by decide +kernel), am_mem 56 (by decide +kernel) (by decide +kernel), by decide +kernel, by decide +kernel, by decide +kernel, by decide +kernel⟩
set_option maxRecDepth 100000 in
theorem ym_X9_jobOf : am_y yX9_jobOf cX9_jobOf 2 (some .int) 2 := ⟨am_mem 385 (by decide +kernel) (by decide +kernel), am_mem 46 (by decide +kernel) (by decide +kernel), by decide +kernel, by decide +kernel, by decide +kernel, by decide +kernel⟩
set_option maxRecDepth 100000 in
theorem im_X3_has : Cond.instanceMethod yX3_has ∈ am_T := am_mem 344 (by decide +kernel) (by decide +kernel)
set_option maxRecDepth 100000 in
theorem se_X3_has : Cond.selects yX3_has.cls yX3_has yX3_has ∈ am_T := am_mem 345 (by decide +kernel) (by decide +kernel)
set_option maxRecDepth 100000 in
theorem fl_X3_23 : am_fld RX3 3 23 2 := ⟨TX3, 15, rfl, am_hin3, by decide, rfl, am_mem 85 (by decide +kernel) (by decide +kernel)⟩
set_option maxRecDepth 100000 in
theorem sk_10 : am_sk[10]? = some (.inl (4, [some 43])) := rfl
set_option maxRecDepth 100000 in
theorem sk_43 : am_sk[43]? = some (.inr (2, 100)) := rfl
set_option maxRecDepth 100000 in
theorem im_X3_isKeyUsed : Cond.instanceMethod yX3_isKeyUsed ∈ am_T := am_mem 376 (by decide +kernel) (by decide +kernel)
set_option maxRecDepth 100000 in
theorem se_X3_isKeyUsed : Cond.selects yX3_isKeyUsed.cls yX3_isKeyUsed yX3_isKeyUsed ∈ am_T := am_mem 377 (by decide +kernel) (by decide +kernel)
set_option maxRecDepth 100000 in
theorem st_X8_of : Cond.static yX8_of ∈ am_T := am_mem 363 (by decide +kernel) (by decide +kernel)
set_option maxRecDepth 100000 in
theorem fl_X3_32 : am_fld RX3 3 32 5 := ⟨TX3, 15, rfl, am_hin3, by decide, rfl, am_mem 88 (by decide +kernel) (by decide +kernel)⟩
set_option maxRecDepth 100000 in
theorem sk_13 : am_sk[13]? = some (.inl (4, [some 46])) := rfl
set_option maxRecDepth 100000 in
theorem sk_46 : am_sk[46]? = some (.inr (2, 100)) := rfl
set_option maxRecDepth 100000 in
theorem st_X9_jobOf : Cond.static yX9_jobOf ∈ am_T := am_mem 384 (by decide +kernel) (by decide +kernel)
set_option maxRecDepth 100000 in
theorem im_X3_lineUp : Cond.instanceMethod yX3_lineUp ∈ am_T := am_mem 388 (by decide +kernel) (by decide +kernel)
set_option maxRecDepth 100000 in
theorem se_X3_lineUp : Cond.selects yX3_lineUp.cls yX3_lineUp yX3_lineUp ∈ am_T := am_mem 2 (by decide +kernel) (by decide +kernel)
set_option maxRecDepth 100000 in
theorem fl_X3_14 : am_fld RX3 3 14 0 := ⟨TX3, 15, rfl, am_hin3, by decide, rfl, am_mem 83 (by decide +kernel) (by decide +kernel)⟩
set_option maxRecDepth 100000 in
theorem sk_8 : am_sk[8]? = some (.inl (4, [some 41])) := rfl
set_option maxRecDepth 100000 in
theorem sk_41 : am_sk[41]? = some (.inr (2, 100)) := rfl
set_option maxRecDepth 100000 in
theorem fl_X3_20 : am_fld RX3 3 20 1 := ⟨TX3, 15, rfl, am_hin3, by decide, rfl, am_mem 84 (by decide +kernel) (by decide +kernel)⟩
set_option maxRecDepth 100000 in
theorem sk_9 : am_sk[9]? = some (.inl (4, [some 42])) := rfl
set_option maxRecDepth 100000 in
theorem sk_42 : am_sk[42]? = some (.inr (2, 100)) := rfl
set_option maxRecDepth 100000 in
theorem fl_X3_38 : am_fld RX3 3 38 7 := ⟨TX3, 15, rfl, am_hin3, by decide, rfl, am_mem 90 (by decide +kernel) (by decide +kernel)⟩
set_option maxRecDepth 100000 in
theorem sk_15 : am_sk[15]? = some (.inl (4, [some 48])) := rfl
set_option maxRecDepth 100000 in
theorem sk_48 : am_sk[48]? = some (.inr (2, 100)) := rfl
set_option maxRecDepth 100000 in
theorem fl_X3_41 : am_fld RX3 3 41 8 := ⟨TX3, 15, rfl, am_hin3, by decide, rfl, am_mem 91 (by decide +kernel) (by decide +kernel)⟩
set_option maxRecDepth 100000 in
theorem sk_16 : am_sk[16]? = some (.inl (4, [some 49])) := rfl
set_option maxRecDepth 100000 in
theorem sk_49 : am_sk[49]? = some (.inr (2, 100)) := rfl
set_option maxRecDepth 100000 in
theorem fl_X3_35 : am_fld RX3 3 35 6 := ⟨TX3, 15, rfl, am_hin3, by decide, rfl, am_mem 89 (by decide +kernel) (by decide +kernel)⟩
set_option maxRecDepth 100000 in
theorem sk_14 : am_sk[14]? = some (.inl (4, [some 47])) := rfl
set_option maxRecDepth 100000 in
theorem sk_47 : am_sk[47]? = some (.inr (2, 100)) := rfl
set_option maxRecDepth 100000 in
theorem ym_X3_settleBy : am_y yX3_settleBy cX3_settleBy 8 none 4 := ⟨am_mem 369 (by decide +kernel) (by decide +kernel), am_mem 47 (by decide +kernel) (by decide +kernel), by decide +kernel, by decide +kernel, by decide +kernel, by decide +kernel⟩
set_option maxRecDepth 100000 in
theorem fl_X1_23 : am_fld RX1 1 23 2 := ⟨TX1, 6, rfl, am_hin1, by decide, rfl, am_mem 229 (by decide +kernel) (by decide +kernel)⟩
set_option maxRecDepth 100000 in
theorem sk_32 : am_sk[32]? = some (.inl (4, [some 65])) := rfl
set_option maxRecDepth 100000 in
theorem sk_65 : am_sk[65]? = some (.inr (2, 100)) := rfl
set_option maxRecDepth 100000 in
theorem fl_X1_20 : am_fld RX1 1 20 1 := ⟨TX1, 6, rfl, am_hin1, by decide, rfl, am_mem 228 (by decide +kernel) (by decide +kernel)⟩
set_option maxRecDepth 100000 in
theorem sk_31 : am_sk[31]? = some (.inl (4, [some 64])) := rfl
set_option maxRecDepth 100000 in
theorem sk_64 : am_sk[64]? = some (.inr (2, 100)) := rfl
set_option maxRecDepth 100000 in
theorem fl_X1_26 : am_fld RX1 1 26 3 := ⟨TX1, 6, rfl, am_hin1, by decide, rfl, am_mem 230 (by decide +kernel) (by decide +kernel)⟩
set_option maxRecDepth 100000 in
theorem sk_33 : am_sk[33]? = some (.inl (4, [some 66])) := rfl
set_option maxRecDepth 100000 in
theorem sk_66 : am_sk[66]? = some (.inr (2, 100)) := rfl
set_option maxRecDepth 100000 in
theorem im_X3_settleBy : Cond.instanceMethod yX3_settleBy ∈ am_T := am_mem 367 (by decide +kernel) (by decide +kernel)
set_option maxRecDepth 100000 in
theorem se_X3_settleBy : Cond.selects yX3_settleBy.cls yX3_settleBy yX3_settleBy ∈ am_T := am_mem 368 (by decide +kernel) (by decide +kernel)
set_option maxRecDepth 100000 in
theorem ym_X1_settleIfComplete : am_y yX1_settleIfComplete cX1_settleIfComplete 2 none 1 := ⟨am_mem 597 (by decide +kernel) (by decide +kernel), am_mem 53 (by decide +kernel) (by decide +kernel), by decide +kernel, by decide +kernel, by decide +kernel, by decide +kernel⟩
set_option maxRecDepth 100000 in
theorem fl_X3_29 : am_fld RX3 3 29 4 := ⟨TX3, 15, rfl, am_hin3, by decide, rfl, am_mem 87 (by decide +kernel) (by decide +kernel)⟩
set_option maxRecDepth 100000 in
theorem sk_12 : am_sk[12]? = some (.inl (4, [some 45])) := rfl
set_option maxRecDepth 100000 in
theorem sk_45 : am_sk[45]? = some (.inr (2, 100)) := rfl
set_option maxRecDepth 100000 in
theorem fp_X3_50 : am_fldP RX3 3 50 11 .int := ⟨TX3, 15, tyX3, rfl, am_hin3, by decide, rfl, am_mem 94 (by decide +kernel) (by decide +kernel), tyX3_ok, nmX3, rfl, rfl⟩
set_option maxRecDepth 100000 in
theorem ym_X3_make : am_y yX3_make cX3_make 2 (some .int) 0 := ⟨am_mem 330 (by decide +kernel) (by decide +kernel), am_mem 47 (by decide +kernel) (by decide +kernel), by decide +kernel, by decide +kernel, by decide +kernel, by decide +kernel⟩
set_option maxRecDepth 100000 in
theorem ym_X8_numberOf : am_y yX8_numberOf cX8_numberOf 2 (some .int) 1 := ⟨am_mem 493 (by decide +kernel) (by decide +kernel), am_mem 56 (by decide +kernel) (by decide +kernel), by decide +kernel, by decide +kernel, by decide +kernel, by decide +kernel⟩
set_option maxRecDepth 100000 in
theorem im_X3_make : Cond.instanceMethod yX3_make ∈ am_T := am_mem 328 (by decide +kernel) (by decide +kernel)
set_option maxRecDepth 100000 in
theorem se_X3_make : Cond.selects yX3_make.cls yX3_make yX3_make ∈ am_T := am_mem 329 (by decide +kernel) (by decide +kernel)
set_option maxRecDepth 100000 in
theorem st_X8_numberOf : Cond.static yX8_numberOf ∈ am_T := am_mem 492 (by decide +kernel) (by decide +kernel)
set_option maxRecDepth 100000 in
theorem ym_X3_promiseFor : am_y yX3_promiseFor cX3_promiseFor 4 (some .int) 1 := ⟨am_mem 539 (by decide +kernel) (by decide +kernel), am_mem 47 (by decide +kernel) (by decide +kernel), by decide +kernel, by decide +kernel, by decide +kernel, by decide +kernel⟩
set_option maxRecDepth 100000 in
theorem fl_X3_47 : am_fld RX3 3 47 10 := ⟨TX3, 15, rfl, am_hin3, by decide, rfl, am_mem 93 (by decide +kernel) (by decide +kernel)⟩
set_option maxRecDepth 100000 in
theorem sk_18 : am_sk[18]? = some (.inl (4, [some 51])) := rfl
set_option maxRecDepth 100000 in
theorem sk_51 : am_sk[51]? = some (.inr (2, 900)) := rfl
set_option maxRecDepth 100000 in
theorem ym_X3_waitFor : am_y yX3_waitFor cX3_waitFor 4 none 2 := ⟨am_mem 415 (by decide +kernel) (by decide +kernel), am_mem 47 (by decide +kernel) (by decide +kernel), by decide +kernel, by decide +kernel, by decide +kernel, by decide +kernel⟩
set_option maxRecDepth 100000 in
theorem im_X1_settleIfComplete : Cond.instanceMethod yX1_settleIfComplete ∈ am_T := am_mem 595 (by decide +kernel) (by decide +kernel)
set_option maxRecDepth 100000 in
theorem se_X1_settleIfComplete : Cond.selects yX1_settleIfComplete.cls yX1_settleIfComplete yX1_settleIfComplete ∈ am_T := am_mem 596 (by decide +kernel) (by decide +kernel)
set_option maxRecDepth 100000 in
theorem im_X3_promiseFor : Cond.instanceMethod yX3_promiseFor ∈ am_T := am_mem 537 (by decide +kernel) (by decide +kernel)
set_option maxRecDepth 100000 in
theorem se_X3_promiseFor : Cond.selects yX3_promiseFor.cls yX3_promiseFor yX3_promiseFor ∈ am_T := am_mem 538 (by decide +kernel) (by decide +kernel)
set_option maxRecDepth 100000 in
theorem im_X3_waitFor : Cond.instanceMethod yX3_waitFor ∈ am_T := am_mem 413 (by decide +kernel) (by decide +kernel)
set_option maxRecDepth 100000 in
theorem se_X3_waitFor : Cond.selects yX3_waitFor.cls yX3_waitFor yX3_waitFor ∈ am_T := am_mem 414 (by decide +kernel) (by decide +kernel)
set_option maxRecDepth 100000 in
theorem ym_X1_form : am_y yX1_form cX1_form 5 (some .int) 1 := ⟨am_mem 589 (by decide +kernel) (by decide +kernel), am_mem 53 (by decide +kernel) (by decide +kernel), by decide +kernel, by decide +kernel, by decide +kernel, by decide +kernel⟩
set_option maxRecDepth 100000 in
theorem ym_X1_settlePlace : am_y yX1_settlePlace cX1_settlePlace 8 none 4 := ⟨am_mem 688 (by decide +kernel) (by decide +kernel), am_mem 53 (by decide +kernel) (by decide +kernel), by decide +kernel, by decide +kernel, by decide +kernel, by decide +kernel⟩
set_option maxRecDepth 100000 in
theorem fp_X2_23 : am_fldP RX2 2 23 2 .int := ⟨TX2, 4, tyX2, rfl, am_hin2, by decide, rfl, am_mem 208 (by decide +kernel) (by decide +kernel), tyX2_ok, nmX2, rfl, rfl⟩
set_option maxRecDepth 100000 in
theorem sk_5 : am_sk[5]? = some (.inl (2, am_ln)) := rfl
set_option maxRecDepth 100000 in
theorem fp_X2_27 : am_fldP RX2 2 27 3 .int := ⟨TX2, 4, tyX2, rfl, am_hin2, by decide, rfl, am_mem 209 (by decide +kernel) (by decide +kernel), tyX2_ok, nmX2, rfl, rfl⟩
set_option maxRecDepth 100000 in
theorem ym_X2_clear : am_y yX2_clear cX2_clear 1 none 0 := ⟨am_mem 733 (by decide +kernel) (by decide +kernel), am_mem 52 (by decide +kernel) (by decide +kernel), by decide +kernel, by decide +kernel, by decide +kernel, by decide +kernel⟩
set_option maxRecDepth 100000 in
theorem fl_X2_27 : am_fld RX2 2 27 3 := ⟨TX2, 4, rfl, am_hin2, by decide, rfl, am_mem 209 (by decide +kernel) (by decide +kernel)⟩
set_option maxRecDepth 100000 in
theorem ym_X2_beginTurn : am_y yX2_beginTurn cX2_beginTurn 1 none 0 := ⟨am_mem 616 (by decide +kernel) (by decide +kernel), am_mem 52 (by decide +kernel) (by decide +kernel), by decide +kernel, by decide +kernel, by decide +kernel, by decide +kernel⟩
set_option maxRecDepth 100000 in
theorem ym_X2_turns : am_y yX2_turns cX2_turns 1 (some .int) 0 := ⟨am_mem 789 (by decide +kernel) (by decide +kernel), am_mem 52 (by decide +kernel) (by decide +kernel), by decide +kernel, by decide +kernel, by decide +kernel, by decide +kernel⟩
set_option maxRecDepth 100000 in
theorem fl_X2_23 : am_fld RX2 2 23 2 := ⟨TX2, 4, rfl, am_hin2, by decide, rfl, am_mem 208 (by decide +kernel) (by decide +kernel)⟩
set_option maxRecDepth 100000 in
theorem ym_X2_total : am_y yX2_total cX2_total 1 (some .int) 0 := ⟨am_mem 797 (by decide +kernel) (by decide +kernel), am_mem 52 (by decide +kernel) (by decide +kernel), by decide +kernel, by decide +kernel, by decide +kernel, by decide +kernel⟩
set_option maxRecDepth 100000 in
theorem ym_M_min : am_y yM_min cM_min 2 (some .int) 2 := ⟨am_mem 770 (by decide +kernel) (by decide +kernel), am_mem 57 (by decide +kernel) (by decide +kernel), by decide +kernel, by decide +kernel, by decide +kernel, by decide +kernel⟩
set_option maxRecDepth 100000 in
theorem st_M_min : Cond.static Lib.Math.min.name ∈ am_T := am_mem 769 (by decide +kernel) (by decide +kernel)
set_option maxRecDepth 100000 in
theorem ini_M : Cond.initialized "java/lang/Math" ∈ am_T := am_mem 57 (by decide +kernel) (by decide +kernel)
set_option maxRecDepth 100000 in
theorem cod_M_min : Cond.code Lib.Math.min.name Lib.Math.min.code 2 (some .int) ∈ am_T := am_mem 770 (by decide +kernel) (by decide +kernel)
set_option maxRecDepth 100000 in
theorem ym_X2_kept : am_y yX2_kept cX2_kept 1 (some .int) 0 := ⟨am_mem 767 (by decide +kernel) (by decide +kernel), am_mem 52 (by decide +kernel) (by decide +kernel), by decide +kernel, by decide +kernel, by decide +kernel, by decide +kernel⟩
set_option maxRecDepth 100000 in
theorem fl_X2_14 : am_fld RX2 2 14 0 := ⟨TX2, 4, rfl, am_hin2, by decide, rfl, am_mem 206 (by decide +kernel) (by decide +kernel)⟩
set_option maxRecDepth 100000 in
theorem sk_28 : am_sk[28]? = some (.inl (4, [some 61])) := rfl
set_option maxRecDepth 100000 in
theorem sk_61 : am_sk[61]? = some (.inr (2, 60)) := rfl
set_option maxRecDepth 100000 in
theorem fl_X2_20 : am_fld RX2 2 20 1 := ⟨TX2, 4, rfl, am_hin2, by decide, rfl, am_mem 207 (by decide +kernel) (by decide +kernel)⟩
set_option maxRecDepth 100000 in
theorem sk_29 : am_sk[29]? = some (.inl (4, [some 62])) := rfl
set_option maxRecDepth 100000 in
theorem sk_62 : am_sk[62]? = some (.inr (2, 60)) := rfl
set_option maxRecDepth 100000 in
theorem ym_X2_add : am_y yX2_add cX2_add 3 none 1 := ⟨am_mem 510 (by decide +kernel) (by decide +kernel), am_mem 52 (by decide +kernel) (by decide +kernel), by decide +kernel, by decide +kernel, by decide +kernel, by decide +kernel⟩
set_option maxRecDepth 100000 in
theorem ym_X2_valueOf : am_y yX2_valueOf cX2_valueOf 2 (some .long) 1 := ⟨am_mem 775 (by decide +kernel) (by decide +kernel), am_mem 52 (by decide +kernel) (by decide +kernel), by decide +kernel, by decide +kernel, by decide +kernel, by decide +kernel⟩
set_option maxRecDepth 100000 in
theorem ym_X2_turnOf : am_y yX2_turnOf cX2_turnOf 2 (some .int) 1 := ⟨am_mem 780 (by decide +kernel) (by decide +kernel), am_mem 52 (by decide +kernel) (by decide +kernel), by decide +kernel, by decide +kernel, by decide +kernel, by decide +kernel⟩
set_option maxRecDepth 100000 in
theorem ym_X3_clear : am_y yX3_clear cX3_clear 1 none 0 := ⟨am_mem 724 (by decide +kernel) (by decide +kernel), am_mem 47 (by decide +kernel) (by decide +kernel), by decide +kernel, by decide +kernel, by decide +kernel, by decide +kernel⟩
set_option maxRecDepth 100000 in
theorem ym_X3_isFull : am_y yX3_isFull cX3_isFull 1 (some .boolean) 0 := ⟨am_mem 326 (by decide +kernel) (by decide +kernel), am_mem 47 (by decide +kernel) (by decide +kernel), by decide +kernel, by decide +kernel, by decide +kernel, by decide +kernel⟩
set_option maxRecDepth 100000 in
theorem ym_X3_statusOf : am_y yX3_statusOf cX3_statusOf 2 (some .int) 1 := ⟨am_mem 632 (by decide +kernel) (by decide +kernel), am_mem 47 (by decide +kernel) (by decide +kernel), by decide +kernel, by decide +kernel, by decide +kernel, by decide +kernel⟩
set_option maxRecDepth 100000 in
theorem ym_X3_valueOf : am_y yX3_valueOf cX3_valueOf 2 (some .long) 1 := ⟨am_mem 636 (by decide +kernel) (by decide +kernel), am_mem 47 (by decide +kernel) (by decide +kernel), by decide +kernel, by decide +kernel, by decide +kernel, by decide +kernel⟩
set_option maxRecDepth 100000 in
theorem ym_X3_lastKeyOf : am_y yX3_lastKeyOf cX3_lastKeyOf 2 (some .int) 1 := ⟨am_mem 671 (by decide +kernel) (by decide +kernel), am_mem 47 (by decide +kernel) (by decide +kernel), by decide +kernel, by decide +kernel, by decide +kernel, by decide +kernel⟩
set_option maxRecDepth 100000 in
theorem ym_X3_reactionsOf : am_y yX3_reactionsOf cX3_reactionsOf 2 (some .int) 1 := ⟨am_mem 754 (by decide +kernel) (by decide +kernel), am_mem 47 (by decide +kernel) (by decide +kernel), by decide +kernel, by decide +kernel, by decide +kernel, by decide +kernel⟩
set_option maxRecDepth 100000 in
theorem ym_X3_isLoose : am_y yX3_isLoose cX3_isLoose 2 (some .boolean) 1 := ⟨am_mem 750 (by decide +kernel) (by decide +kernel), am_mem 47 (by decide +kernel) (by decide +kernel), by decide +kernel, by decide +kernel, by decide +kernel, by decide +kernel⟩
set_option maxRecDepth 100000 in
theorem im_X3_isLoose : Cond.instanceMethod yX3_isLoose ∈ am_T := am_mem 748 (by decide +kernel) (by decide +kernel)
set_option maxRecDepth 100000 in
theorem se_X3_isLoose : Cond.selects yX3_isLoose.cls yX3_isLoose yX3_isLoose ∈ am_T := am_mem 749 (by decide +kernel) (by decide +kernel)
set_option maxRecDepth 100000 in
theorem ym_X3_loose : am_y yX3_loose cX3_loose 3 (some .int) 0 := ⟨am_mem 801 (by decide +kernel) (by decide +kernel), am_mem 47 (by decide +kernel) (by decide +kernel), by decide +kernel, by decide +kernel, by decide +kernel, by decide +kernel⟩
set_option maxRecDepth 100000 in
theorem ym_X3_addKey : am_y yX3_addKey cX3_addKey 3 (some .int) 1 := ⟨am_mem 645 (by decide +kernel) (by decide +kernel), am_mem 47 (by decide +kernel) (by decide +kernel), by decide +kernel, by decide +kernel, by decide +kernel, by decide +kernel⟩
set_option maxRecDepth 100000 in
theorem ym_X3_toAdopt : am_y yX3_toAdopt cX3_toAdopt 2 (some .long) 1 := ⟨am_mem 641 (by decide +kernel) (by decide +kernel), am_mem 47 (by decide +kernel) (by decide +kernel), by decide +kernel, by decide +kernel, by decide +kernel, by decide +kernel⟩
set_option maxRecDepth 100000 in
theorem ym_X3_jobs : am_y yX3_jobs cX3_jobs 1 (some .int) 0 := ⟨am_mem 608 (by decide +kernel) (by decide +kernel), am_mem 47 (by decide +kernel) (by decide +kernel), by decide +kernel, by decide +kernel, by decide +kernel, by decide +kernel⟩
set_option maxRecDepth 100000 in
theorem fl_X3_57 : am_fld RX3 3 57 13 := ⟨TX3, 15, rfl, am_hin3, by decide, rfl, am_mem 96 (by decide +kernel) (by decide +kernel)⟩
set_option maxRecDepth 100000 in
theorem ym_X3_takeJob : am_y yX3_takeJob cX3_takeJob 2 (some .int) 0 := ⟨am_mem 620 (by decide +kernel) (by decide +kernel), am_mem 47 (by decide +kernel) (by decide +kernel), by decide +kernel, by decide +kernel, by decide +kernel, by decide +kernel⟩
set_option maxRecDepth 100000 in
theorem ym_X3_sourceOf : am_y yX3_sourceOf cX3_sourceOf 2 (some .int) 1 := ⟨am_mem 628 (by decide +kernel) (by decide +kernel), am_mem 47 (by decide +kernel) (by decide +kernel), by decide +kernel, by decide +kernel, by decide +kernel, by decide +kernel⟩
set_option maxRecDepth 100000 in
theorem ym_X4_fill : am_y yX4_fill cX4_fill 4 none 1 := ⟨am_mem 145 (by decide +kernel) (by decide +kernel), am_mem 48 (by decide +kernel) (by decide +kernel), by decide +kernel, by decide +kernel, by decide +kernel, by decide +kernel⟩
set_option maxRecDepth 100000 in
theorem fl_X5_29 : am_fld RX5 5 29 8 := ⟨TX5, 14, rfl, am_hin5, by decide, rfl, am_mem 262 (by decide +kernel) (by decide +kernel)⟩
set_option maxRecDepth 100000 in
theorem sk_7 : am_sk[7]? = some (.inl (5, am_lr)) := rfl
set_option maxRecDepth 100000 in
theorem sk_38 : am_sk[38]? = some (.inl (4, [some 71])) := rfl
set_option maxRecDepth 100000 in
theorem sk_71 : am_sk[71]? = some (.inr (2, 100)) := rfl
set_option maxRecDepth 100000 in
theorem im_X4_fill : Cond.instanceMethod yX4_fill ∈ am_T := am_mem 143 (by decide +kernel) (by decide +kernel)
set_option maxRecDepth 100000 in
theorem se_X4_fill : Cond.selects yX4_fill.cls yX4_fill yX4_fill ∈ am_T := am_mem 144 (by decide +kernel) (by decide +kernel)
set_option maxRecDepth 100000 in
theorem ym_X5_clear : am_y yX5_clear cX5_clear 1 none 0 := ⟨am_mem 741 (by decide +kernel) (by decide +kernel), am_mem 54 (by decide +kernel) (by decide +kernel), by decide +kernel, by decide +kernel, by decide +kernel, by decide +kernel⟩
set_option maxRecDepth 100000 in
theorem ym_X5_isStopped : am_y yX5_isStopped cX5_isStopped 2 (some .boolean) 1 := ⟨am_mem 759 (by decide +kernel) (by decide +kernel), am_mem 54 (by decide +kernel) (by decide +kernel), by decide +kernel, by decide +kernel, by decide +kernel, by decide +kernel⟩
set_option maxRecDepth 100000 in
theorem fl_X5_52 : am_fld RX5 5 52 1 := ⟨TX5, 14, rfl, am_hin5, by decide, rfl, am_mem 255 (by decide +kernel) (by decide +kernel)⟩
set_option maxRecDepth 100000 in
theorem fl_X5_32 : am_fld RX5 5 32 9 := ⟨TX5, 14, rfl, am_hin5, by decide, rfl, am_mem 263 (by decide +kernel) (by decide +kernel)⟩
set_option maxRecDepth 100000 in
theorem sk_39 : am_sk[39]? = some (.inl (4, [some 72])) := rfl
set_option maxRecDepth 100000 in
theorem sk_72 : am_sk[72]? = some (.inr (2, 100)) := rfl
set_option maxRecDepth 100000 in
theorem fl_X5_35 : am_fld RX5 5 35 10 := ⟨TX5, 14, rfl, am_hin5, by decide, rfl, am_mem 264 (by decide +kernel) (by decide +kernel)⟩
set_option maxRecDepth 100000 in
theorem sk_40 : am_sk[40]? = some (.inl (4, [some 73])) := rfl
set_option maxRecDepth 100000 in
theorem sk_73 : am_sk[73]? = some (.inr (2, 100)) := rfl
set_option maxRecDepth 100000 in
theorem ym_X5_addHandlers : am_y yX5_addHandlers cX5_addHandlers 5 (some .int) 3 := ⟨am_mem 408 (by decide +kernel) (by decide +kernel), am_mem 54 (by decide +kernel) (by decide +kernel), by decide +kernel, by decide +kernel, by decide +kernel, by decide +kernel⟩
set_option maxRecDepth 100000 in
theorem fl_X5_14 : am_fld RX5 5 14 4 := ⟨TX5, 14, rfl, am_hin5, by decide, rfl, am_mem 258 (by decide +kernel) (by decide +kernel)⟩
set_option maxRecDepth 100000 in
theorem sk_34 : am_sk[34]? = some (.inl (4, [some 67])) := rfl
set_option maxRecDepth 100000 in
theorem sk_67 : am_sk[67]? = some (.inr (2, 101)) := rfl
set_option maxRecDepth 100000 in
theorem fl_X5_20 : am_fld RX5 5 20 5 := ⟨TX5, 14, rfl, am_hin5, by decide, rfl, am_mem 259 (by decide +kernel) (by decide +kernel)⟩
set_option maxRecDepth 100000 in
theorem sk_35 : am_sk[35]? = some (.inl (4, [some 68])) := rfl
set_option maxRecDepth 100000 in
theorem sk_68 : am_sk[68]? = some (.inr (2, 101)) := rfl
set_option maxRecDepth 100000 in
theorem fl_X5_23 : am_fld RX5 5 23 6 := ⟨TX5, 14, rfl, am_hin5, by decide, rfl, am_mem 260 (by decide +kernel) (by decide +kernel)⟩
set_option maxRecDepth 100000 in
theorem sk_36 : am_sk[36]? = some (.inl (4, [some 69])) := rfl
set_option maxRecDepth 100000 in
theorem sk_69 : am_sk[69]? = some (.inr (2, 101)) := rfl
set_option maxRecDepth 100000 in
theorem fl_X5_26 : am_fld RX5 5 26 7 := ⟨TX5, 14, rfl, am_hin5, by decide, rfl, am_mem 261 (by decide +kernel) (by decide +kernel)⟩
set_option maxRecDepth 100000 in
theorem fl_X5_38 : am_fld RX5 5 38 11 := ⟨TX5, 14, rfl, am_hin5, by decide, rfl, am_mem 265 (by decide +kernel) (by decide +kernel)⟩
set_option maxRecDepth 100000 in
theorem sk_37 : am_sk[37]? = some (.inl (4, [some 70])) := rfl
set_option maxRecDepth 100000 in
theorem sk_70 : am_sk[70]? = some (.inr (2, 101)) := rfl
set_option maxRecDepth 100000 in
theorem fp_X5_38 : am_fldP RX5 5 38 11 .int := ⟨TX5, 14, tyX5, rfl, am_hin5, by decide, rfl, am_mem 265 (by decide +kernel) (by decide +kernel), tyX5_ok, nmX5, rfl, rfl⟩
set_option maxRecDepth 100000 in
theorem ym_X5_enter : am_y yX5_enter cX5_enter 5 none 3 := ⟨am_mem 464 (by decide +kernel) (by decide +kernel), am_mem 54 (by decide +kernel) (by decide +kernel), by decide +kernel, by decide +kernel, by decide +kernel, by decide +kernel⟩
set_option maxRecDepth 100000 in
theorem fp_X5_42 : am_fldP RX5 5 42 12 .int := ⟨TX5, 14, tyX5, rfl, am_hin5, by decide, rfl, am_mem 266 (by decide +kernel) (by decide +kernel), tyX5_ok, nmX5, rfl, rfl⟩
set_option maxRecDepth 100000 in
theorem im_X5_enter : Cond.instanceMethod yX5_enter ∈ am_T := am_mem 463 (by decide +kernel) (by decide +kernel)
set_option maxRecDepth 100000 in
theorem se_X5_enter : Cond.selects yX5_enter.cls yX5_enter yX5_enter ∈ am_T := am_mem 3 (by decide +kernel) (by decide +kernel)
set_option maxRecDepth 100000 in
theorem ym_X5_perform : am_y yX5_perform cX5_perform 5 none 3 := ⟨am_mem 679 (by decide +kernel) (by decide +kernel), am_mem 54 (by decide +kernel) (by decide +kernel), by decide +kernel, by decide +kernel, by decide +kernel, by decide +kernel⟩
set_option maxRecDepth 100000 in
theorem im_X5_perform : Cond.instanceMethod yX5_perform ∈ am_T := am_mem 677 (by decide +kernel) (by decide +kernel)
set_option maxRecDepth 100000 in
theorem se_X5_perform : Cond.selects yX5_perform.cls yX5_perform yX5_perform ∈ am_T := am_mem 678 (by decide +kernel) (by decide +kernel)
set_option maxRecDepth 100000 in
theorem ym_X5_handle : am_y yX5_handle cX5_handle 6 none 3 := ⟨am_mem 675 (by decide +kernel) (by decide +kernel), am_mem 54 (by decide +kernel) (by decide +kernel), by decide +kernel, by decide +kernel, by decide +kernel, by decide +kernel⟩
set_option maxRecDepth 100000 in
theorem ym_X5_begin : am_y yX5_begin cX5_begin 5 (some .int) 2 := ⟨am_mem 460 (by decide +kernel) (by decide +kernel), am_mem 54 (by decide +kernel) (by decide +kernel), by decide +kernel, by decide +kernel, by decide +kernel, by decide +kernel⟩
set_option maxRecDepth 100000 in
theorem fl_X5_42 : am_fld RX5 5 42 12 := ⟨TX5, 14, rfl, am_hin5, by decide, rfl, am_mem 266 (by decide +kernel) (by decide +kernel)⟩
set_option maxRecDepth 100000 in
theorem ym_X5_end : am_y yX5_end cX5_end 3 none 2 := ⟨am_mem 555 (by decide +kernel) (by decide +kernel), am_mem 54 (by decide +kernel) (by decide +kernel), by decide +kernel, by decide +kernel, by decide +kernel, by decide +kernel⟩
set_option maxRecDepth 100000 in
theorem fl_X5_48 : am_fld RX5 5 48 0 := ⟨TX5, 14, rfl, am_hin5, by decide, rfl, am_mem 254 (by decide +kernel) (by decide +kernel)⟩
set_option maxRecDepth 100000 in
theorem im_X0_behindTry : Cond.instanceMethod yX0_behindTry ∈ am_T := am_mem 548 (by decide +kernel) (by decide +kernel)
set_option maxRecDepth 100000 in
theorem se_X0_behindTry : Cond.selects yX0_behindTry.cls yX0_behindTry yX0_behindTry ∈ am_T := am_mem 549 (by decide +kernel) (by decide +kernel)
set_option maxRecDepth 100000 in
theorem ym_X5_leaveTry : am_y yX5_leaveTry cX5_leaveTry 4 (some .boolean) 2 := ⟨am_mem 546 (by decide +kernel) (by decide +kernel), am_mem 54 (by decide +kernel) (by decide +kernel), by decide +kernel, by decide +kernel, by decide +kernel, by decide +kernel⟩
set_option maxRecDepth 100000 in
theorem co_X5_102 : Cond.constantLong RX5 102 (Int64.ofInt (-1)) ∈ am_T := am_mem 684 (by decide +kernel) (by decide +kernel)
set_option maxRecDepth 100000 in
theorem im_X5_leaveTry : Cond.instanceMethod yX5_leaveTry ∈ am_T := am_mem 545 (by decide +kernel) (by decide +kernel)
set_option maxRecDepth 100000 in
theorem se_X5_leaveTry : Cond.selects yX5_leaveTry.cls yX5_leaveTry yX5_leaveTry ∈ am_T := am_mem 10 (by decide +kernel) (by decide +kernel)
set_option maxRecDepth 100000 in
theorem im_X5_end : Cond.instanceMethod yX5_end ∈ am_T := am_mem 554 (by decide +kernel) (by decide +kernel)
set_option maxRecDepth 100000 in
theorem se_X5_end : Cond.selects yX5_end.cls yX5_end yX5_end ∈ am_T := am_mem 11 (by decide +kernel) (by decide +kernel)
set_option maxRecDepth 100000 in
theorem ym_X5_resume : am_y yX5_resume cX5_resume 5 none 3 := ⟨am_mem 683 (by decide +kernel) (by decide +kernel), am_mem 54 (by decide +kernel) (by decide +kernel), by decide +kernel, by decide +kernel, by decide +kernel, by decide +kernel⟩
set_option maxRecDepth 100000 in
theorem fl_X6_26 : am_fld RX6 6 26 3 := ⟨TX6, 5, rfl, am_hin6, by decide, rfl, am_mem 185 (by decide +kernel) (by decide +kernel)⟩
set_option maxRecDepth 100000 in
theorem sk_4 : am_sk[4]? = some (.inl (6, am_ltk)) := rfl
set_option maxRecDepth 100000 in
theorem ym_X6_isFull : am_y yX6_isFull cX6_isFull 1 (some .boolean) 0 := ⟨am_mem 505 (by decide +kernel) (by decide +kernel), am_mem 51 (by decide +kernel) (by decide +kernel), by decide +kernel, by decide +kernel, by decide +kernel, by decide +kernel⟩
set_option maxRecDepth 100000 in
theorem fl_X5_45 : am_fld RX5 5 45 13 := ⟨TX5, 14, rfl, am_hin5, by decide, rfl, am_mem 267 (by decide +kernel) (by decide +kernel)⟩
set_option maxRecDepth 100000 in
theorem im_X3_isFull : Cond.instanceMethod yX3_isFull ∈ am_T := am_mem 324 (by decide +kernel) (by decide +kernel)
set_option maxRecDepth 100000 in
theorem se_X3_isFull : Cond.selects yX3_isFull.cls yX3_isFull yX3_isFull ∈ am_T := am_mem 325 (by decide +kernel) (by decide +kernel)
set_option maxRecDepth 100000 in
theorem fl_X5_56 : am_fld RX5 5 56 2 := ⟨TX5, 14, rfl, am_hin5, by decide, rfl, am_mem 256 (by decide +kernel) (by decide +kernel)⟩
set_option maxRecDepth 100000 in
theorem im_X6_isFull : Cond.instanceMethod yX6_isFull ∈ am_T := am_mem 503 (by decide +kernel) (by decide +kernel)
set_option maxRecDepth 100000 in
theorem se_X6_isFull : Cond.selects yX6_isFull.cls yX6_isFull yX6_isFull ∈ am_T := am_mem 504 (by decide +kernel) (by decide +kernel)
set_option maxRecDepth 100000 in
theorem ym_X5_faultOf : am_y yX5_faultOf cX5_faultOf 7 (some .int) 3 := ⟨am_mem 498 (by decide +kernel) (by decide +kernel), am_mem 54 (by decide +kernel) (by decide +kernel), by decide +kernel, by decide +kernel, by decide +kernel, by decide +kernel⟩
set_option maxRecDepth 100000 in
theorem ym_X5_jumpIfAbove : am_y yX5_jumpIfAbove cX5_jumpIfAbove 4 none 2 := ⟨am_mem 527 (by decide +kernel) (by decide +kernel), am_mem 54 (by decide +kernel) (by decide +kernel), by decide +kernel, by decide +kernel, by decide +kernel, by decide +kernel⟩
set_option maxRecDepth 100000 in
theorem ym_X5_jumpIfZero : am_y yX5_jumpIfZero cX5_jumpIfZero 3 none 2 := ⟨am_mem 523 (by decide +kernel) (by decide +kernel), am_mem 54 (by decide +kernel) (by decide +kernel), by decide +kernel, by decide +kernel, by decide +kernel, by decide +kernel⟩
set_option maxRecDepth 100000 in
theorem fl_X6_14 : am_fld RX6 6 14 0 := ⟨TX6, 5, rfl, am_hin6, by decide, rfl, am_mem 182 (by decide +kernel) (by decide +kernel)⟩
set_option maxRecDepth 100000 in
theorem sk_25 : am_sk[25]? = some (.inl (4, [some 58])) := rfl
set_option maxRecDepth 100000 in
theorem sk_58 : am_sk[58]? = some (.inr (2, 32)) := rfl
set_option maxRecDepth 100000 in
theorem fl_X6_20 : am_fld RX6 6 20 1 := ⟨TX6, 5, rfl, am_hin6, by decide, rfl, am_mem 183 (by decide +kernel) (by decide +kernel)⟩
set_option maxRecDepth 100000 in
theorem sk_26 : am_sk[26]? = some (.inl (4, [some 59])) := rfl
set_option maxRecDepth 100000 in
theorem sk_59 : am_sk[59]? = some (.inr (2, 32)) := rfl
set_option maxRecDepth 100000 in
theorem fl_X6_23 : am_fld RX6 6 23 2 := ⟨TX6, 5, rfl, am_hin6, by decide, rfl, am_mem 184 (by decide +kernel) (by decide +kernel)⟩
set_option maxRecDepth 100000 in
theorem fl_X6_30 : am_fld RX6 6 30 4 := ⟨TX6, 5, rfl, am_hin6, by decide, rfl, am_mem 186 (by decide +kernel) (by decide +kernel)⟩
set_option maxRecDepth 100000 in
theorem sk_27 : am_sk[27]? = some (.inl (4, [some 60])) := rfl
set_option maxRecDepth 100000 in
theorem sk_60 : am_sk[60]? = some (.inr (2, 32)) := rfl
set_option maxRecDepth 100000 in
theorem fp_X6_26 : am_fldP RX6 6 26 3 .int := ⟨TX6, 5, tyX6, rfl, am_hin6, by decide, rfl, am_mem 185 (by decide +kernel) (by decide +kernel), tyX6_ok, nmX6, rfl, rfl⟩
set_option maxRecDepth 100000 in
theorem ym_X6_add : am_y yX6_add cX6_add 5 (some .int) 3 := ⟨am_mem 518 (by decide +kernel) (by decide +kernel), am_mem 51 (by decide +kernel) (by decide +kernel), by decide +kernel, by decide +kernel, by decide +kernel, by decide +kernel⟩
set_option maxRecDepth 100000 in
theorem im_X0_valueOf : Cond.instanceMethod yX0_valueOf ∈ am_T := am_mem 484 (by decide +kernel) (by decide +kernel)
set_option maxRecDepth 100000 in
theorem se_X0_valueOf : Cond.selects yX0_valueOf.cls yX0_valueOf yX0_valueOf ∈ am_T := am_mem 485 (by decide +kernel) (by decide +kernel)
set_option maxRecDepth 100000 in
theorem fp_X5_45 : am_fldP RX5 5 45 13 .int := ⟨TX5, 14, tyX5, rfl, am_hin5, by decide, rfl, am_mem 267 (by decide +kernel) (by decide +kernel), tyX5_ok, nmX5, rfl, rfl⟩
set_option maxRecDepth 100000 in
theorem im_X5_faultOf : Cond.instanceMethod yX5_faultOf ∈ am_T := am_mem 497 (by decide +kernel) (by decide +kernel)
set_option maxRecDepth 100000 in
theorem se_X5_faultOf : Cond.selects yX5_faultOf.cls yX5_faultOf yX5_faultOf ∈ am_T := am_mem 5 (by decide +kernel) (by decide +kernel)
set_option maxRecDepth 100000 in
theorem fl_X5_60 : am_fld RX5 5 60 3 := ⟨TX5, 14, rfl, am_hin5, by decide, rfl, am_mem 257 (by decide +kernel) (by decide +kernel)⟩
set_option maxRecDepth 100000 in
theorem im_X2_add : Cond.instanceMethod yX2_add ∈ am_T := am_mem 508 (by decide +kernel) (by decide +kernel)
set_option maxRecDepth 100000 in
theorem se_X2_add : Cond.selects yX2_add.cls yX2_add yX2_add ∈ am_T := am_mem 509 (by decide +kernel) (by decide +kernel)
set_option maxRecDepth 100000 in
theorem im_X5_begin : Cond.instanceMethod yX5_begin ∈ am_T := am_mem 458 (by decide +kernel) (by decide +kernel)
set_option maxRecDepth 100000 in
theorem se_X5_begin : Cond.selects yX5_begin.cls yX5_begin yX5_begin ∈ am_T := am_mem 459 (by decide +kernel) (by decide +kernel)
set_option maxRecDepth 100000 in
theorem im_X5_addHandlers : Cond.instanceMethod yX5_addHandlers ∈ am_T := am_mem 406 (by decide +kernel) (by decide +kernel)
set_option maxRecDepth 100000 in
theorem se_X5_addHandlers : Cond.selects yX5_addHandlers.cls yX5_addHandlers yX5_addHandlers ∈ am_T := am_mem 407 (by decide +kernel) (by decide +kernel)
set_option maxRecDepth 100000 in
theorem im_X6_add : Cond.instanceMethod yX6_add ∈ am_T := am_mem 516 (by decide +kernel) (by decide +kernel)
set_option maxRecDepth 100000 in
theorem se_X6_add : Cond.selects yX6_add.cls yX6_add yX6_add ∈ am_T := am_mem 517 (by decide +kernel) (by decide +kernel)
set_option maxRecDepth 100000 in
theorem im_X5_jumpIfZero : Cond.instanceMethod yX5_jumpIfZero ∈ am_T := am_mem 522 (by decide +kernel) (by decide +kernel)
set_option maxRecDepth 100000 in
theorem se_X5_jumpIfZero : Cond.selects yX5_jumpIfZero.cls yX5_jumpIfZero yX5_jumpIfZero ∈ am_T := am_mem 6 (by decide +kernel) (by decide +kernel)
set_option maxRecDepth 100000 in
theorem im_X5_jumpIfAbove : Cond.instanceMethod yX5_jumpIfAbove ∈ am_T := am_mem 526 (by decide +kernel) (by decide +kernel)
set_option maxRecDepth 100000 in
theorem se_X5_jumpIfAbove : Cond.selects yX5_jumpIfAbove.cls yX5_jumpIfAbove yX5_jumpIfAbove ∈ am_T := am_mem 7 (by decide +kernel) (by decide +kernel)
set_option maxRecDepth 100000 in
theorem ym_X5_doStep : am_y yX5_doStep cX5_doStep 10 (some .int) 2 := ⟨am_mem 478 (by decide +kernel) (by decide +kernel), am_mem 54 (by decide +kernel) (by decide +kernel), by decide +kernel, by decide +kernel, by decide +kernel, by decide +kernel⟩
set_option maxRecDepth 100000 in
theorem ym_X5_giveZero : am_y yX5_giveZero cX5_giveZero 2 (some .int) 1 := ⟨am_mem 531 (by decide +kernel) (by decide +kernel), am_mem 54 (by decide +kernel) (by decide +kernel), by decide +kernel, by decide +kernel, by decide +kernel, by decide +kernel⟩
set_option maxRecDepth 100000 in
theorem ym_X5_stop : am_y yX5_stop cX5_stop 2 none 1 := ⟨am_mem 535 (by decide +kernel) (by decide +kernel), am_mem 54 (by decide +kernel) (by decide +kernel), by decide +kernel, by decide +kernel, by decide +kernel, by decide +kernel⟩
set_option maxRecDepth 100000 in
theorem co_X5_111 : Cond.constant RX5 111 (Int32.ofInt 1000000) ∈ am_T := am_mem 469 (by decide +kernel) (by decide +kernel)
set_option maxRecDepth 100000 in
theorem im_X0_sizeOf : Cond.instanceMethod yX0_sizeOf ∈ am_T := am_mem 472 (by decide +kernel) (by decide +kernel)
set_option maxRecDepth 100000 in
theorem se_X0_sizeOf : Cond.selects yX0_sizeOf.cls yX0_sizeOf yX0_sizeOf ∈ am_T := am_mem 473 (by decide +kernel) (by decide +kernel)
set_option maxRecDepth 100000 in
theorem im_X5_giveZero : Cond.instanceMethod yX5_giveZero ∈ am_T := am_mem 530 (by decide +kernel) (by decide +kernel)
set_option maxRecDepth 100000 in
theorem se_X5_giveZero : Cond.selects yX5_giveZero.cls yX5_giveZero yX5_giveZero ∈ am_T := am_mem 8 (by decide +kernel) (by decide +kernel)
set_option maxRecDepth 100000 in
theorem im_X5_stop : Cond.instanceMethod yX5_stop ∈ am_T := am_mem 534 (by decide +kernel) (by decide +kernel)
set_option maxRecDepth 100000 in
theorem se_X5_stop : Cond.selects yX5_stop.cls yX5_stop yX5_stop ∈ am_T := am_mem 9 (by decide +kernel) (by decide +kernel)
set_option maxRecDepth 100000 in
theorem im_X5_doStep : Cond.instanceMethod yX5_doStep ∈ am_T := am_mem 477 (by decide +kernel) (by decide +kernel)
set_option maxRecDepth 100000 in
theorem se_X5_doStep : Cond.selects yX5_doStep.cls yX5_doStep yX5_doStep ∈ am_T := am_mem 4 (by decide +kernel) (by decide +kernel)
set_option maxRecDepth 100000 in
theorem ym_X5_goOn : am_y yX5_goOn cX5_goOn 5 none 0 := ⟨am_mem 468 (by decide +kernel) (by decide +kernel), am_mem 54 (by decide +kernel) (by decide +kernel), by decide +kernel, by decide +kernel, by decide +kernel, by decide +kernel⟩
set_option maxRecDepth 100000 in
theorem fp_X6_30 : am_fldP RX6 6 30 4 .int := ⟨TX6, 5, tyX6, rfl, am_hin6, by decide, rfl, am_mem 186 (by decide +kernel) (by decide +kernel), tyX6_ok, nmX6, rfl, rfl⟩
set_option maxRecDepth 100000 in
theorem ym_X6_clear : am_y yX6_clear cX6_clear 1 none 0 := ⟨am_mem 729 (by decide +kernel) (by decide +kernel), am_mem 51 (by decide +kernel) (by decide +kernel), by decide +kernel, by decide +kernel, by decide +kernel, by decide +kernel⟩
set_option maxRecDepth 100000 in
theorem ym_X6_size : am_y yX6_size cX6_size 1 (some .int) 0 := ⟨am_mem 612 (by decide +kernel) (by decide +kernel), am_mem 51 (by decide +kernel) (by decide +kernel), by decide +kernel, by decide +kernel, by decide +kernel, by decide +kernel⟩
set_option maxRecDepth 100000 in
theorem ym_X6_time : am_y yX6_time cX6_time 1 (some .int) 0 := ⟨am_mem 793 (by decide +kernel) (by decide +kernel), am_mem 51 (by decide +kernel) (by decide +kernel), by decide +kernel, by decide +kernel, by decide +kernel, by decide +kernel⟩
set_option maxRecDepth 100000 in
theorem ym_X6_dueFirst : am_y yX6_dueFirst cX6_dueFirst 3 (some .int) 0 := ⟨am_mem 694 (by decide +kernel) (by decide +kernel), am_mem 51 (by decide +kernel) (by decide +kernel), by decide +kernel, by decide +kernel, by decide +kernel, by decide +kernel⟩
set_option maxRecDepth 100000 in
theorem ym_X6_functionOf : am_y yX6_functionOf cX6_functionOf 2 (some .int) 1 := ⟨am_mem 703 (by decide +kernel) (by decide +kernel), am_mem 51 (by decide +kernel) (by decide +kernel), by decide +kernel, by decide +kernel, by decide +kernel, by decide +kernel⟩
set_option maxRecDepth 100000 in
theorem ym_X6_valueOf : am_y yX6_valueOf cX6_valueOf 2 (some .long) 1 := ⟨am_mem 707 (by decide +kernel) (by decide +kernel), am_mem 51 (by decide +kernel) (by decide +kernel), by decide +kernel, by decide +kernel, by decide +kernel, by decide +kernel⟩
set_option maxRecDepth 100000 in
theorem ym_M_max : am_y yM_max cM_max 2 (some .int) 2 := ⟨am_mem 716 (by decide +kernel) (by decide +kernel), am_mem 57 (by decide +kernel) (by decide +kernel), by decide +kernel, by decide +kernel, by decide +kernel, by decide +kernel⟩
set_option maxRecDepth 100000 in
theorem st_M_max : Cond.static Lib.Math.max.name ∈ am_T := am_mem 715 (by decide +kernel) (by decide +kernel)
set_option maxRecDepth 100000 in
theorem cod_M_max : Cond.code Lib.Math.max.name Lib.Math.max.code 2 (some .int) ∈ am_T := am_mem 716 (by decide +kernel) (by decide +kernel)
set_option maxRecDepth 100000 in
theorem ym_X6_finish : am_y yX6_finish cX6_finish 3 none 1 := ⟨am_mem 713 (by decide +kernel) (by decide +kernel), am_mem 51 (by decide +kernel) (by decide +kernel), by decide +kernel, by decide +kernel, by decide +kernel, by decide +kernel⟩
set_option maxRecDepth 100000 in
theorem fl_X7_14 : am_fld RX7 7 14 0 := ⟨TX7, 3, rfl, am_hin7, by decide, rfl, am_mem 146 (by decide +kernel) (by decide +kernel)⟩
set_option maxRecDepth 100000 in
theorem sk_2 : am_sk[2]? = some (.inl (7, am_lt9)) := rfl
set_option maxRecDepth 100000 in
theorem co_X7_29 : Cond.constantLong RX7 29 (Int64.ofInt 3) ∈ am_T := am_mem 141 (by decide +kernel) (by decide +kernel)
set_option maxRecDepth 100000 in
theorem sk_19 : am_sk[19]? = some (.inl (4, [some 52])) := rfl
set_option maxRecDepth 100000 in
theorem sk_52 : am_sk[52]? = some (.inr (2, 4)) := rfl
set_option maxRecDepth 100000 in
theorem ym_X7_clear : am_y yX7_clear cX7_clear 1 none 0 := ⟨am_mem 140 (by decide +kernel) (by decide +kernel), am_mem 49 (by decide +kernel) (by decide +kernel), by decide +kernel, by decide +kernel, by decide +kernel, by decide +kernel⟩
set_option maxRecDepth 100000 in
theorem fl_X7_20 : am_fld RX7 7 20 1 := ⟨TX7, 3, rfl, am_hin7, by decide, rfl, am_mem 147 (by decide +kernel) (by decide +kernel)⟩
set_option maxRecDepth 100000 in
theorem sk_20 : am_sk[20]? = some (.inl (4, [some 53])) := rfl
set_option maxRecDepth 100000 in
theorem sk_53 : am_sk[53]? = some (.inr (2, 4)) := rfl
set_option maxRecDepth 100000 in
theorem fl_X7_23 : am_fld RX7 7 23 2 := ⟨TX7, 3, rfl, am_hin7, by decide, rfl, am_mem 148 (by decide +kernel) (by decide +kernel)⟩
set_option maxRecDepth 100000 in
theorem sk_21 : am_sk[21]? = some (.inl (4, [some 54])) := rfl
set_option maxRecDepth 100000 in
theorem sk_54 : am_sk[54]? = some (.inr (2, 4)) := rfl
set_option maxRecDepth 100000 in
theorem ym_X7_change : am_y yX7_change cX7_change 7 none 4 := ⟨am_mem 423 (by decide +kernel) (by decide +kernel), am_mem 49 (by decide +kernel) (by decide +kernel), by decide +kernel, by decide +kernel, by decide +kernel, by decide +kernel⟩
set_option maxRecDepth 100000 in
theorem ym_X7_kindOf : am_y yX7_kindOf cX7_kindOf 2 (some .int) 1 := ⟨am_mem 657 (by decide +kernel) (by decide +kernel), am_mem 49 (by decide +kernel) (by decide +kernel), by decide +kernel, by decide +kernel, by decide +kernel, by decide +kernel⟩
set_option maxRecDepth 100000 in
theorem ym_X7_uOf : am_y yX7_uOf cX7_uOf 2 (some .long) 1 := ⟨am_mem 662 (by decide +kernel) (by decide +kernel), am_mem 49 (by decide +kernel) (by decide +kernel), by decide +kernel, by decide +kernel, by decide +kernel, by decide +kernel⟩
set_option maxRecDepth 100000 in
theorem ym_X7_wOf : am_y yX7_wOf cX7_wOf 2 (some .long) 1 := ⟨am_mem 667 (by decide +kernel) (by decide +kernel), am_mem 49 (by decide +kernel) (by decide +kernel), by decide +kernel, by decide +kernel, by decide +kernel, by decide +kernel⟩
set_option maxRecDepth 100000 in
theorem fl_X9_12 : am_fld RX9 8 12 0 := ⟨TX9, 7, rfl, am_hin9, by decide, rfl, am_mem 297 (by decide +kernel) (by decide +kernel)⟩
set_option maxRecDepth 100000 in
theorem sk_0 : am_sk[0]? = some (.inl (8, am_lj)) := rfl
set_option maxRecDepth 100000 in
theorem ym_X9_promise : am_y yX9_promise cX9_promise 1 (some .int) 0 := ⟨am_mem 322 (by decide +kernel) (by decide +kernel), am_mem 46 (by decide +kernel) (by decide +kernel), by decide +kernel, by decide +kernel, by decide +kernel, by decide +kernel⟩
set_option maxRecDepth 100000 in
theorem ym_X9_isValue : am_y yX9_isValue cX9_isValue 3 (some .boolean) 2 := ⟨am_mem 353 (by decide +kernel) (by decide +kernel), am_mem 46 (by decide +kernel) (by decide +kernel), by decide +kernel, by decide +kernel, by decide +kernel, by decide +kernel⟩
set_option maxRecDepth 100000 in
theorem im_X9_isValue : Cond.instanceMethod yX9_isValue ∈ am_T := am_mem 352 (by decide +kernel) (by decide +kernel)
set_option maxRecDepth 100000 in
theorem se_X9_isValue : Cond.selects yX9_isValue.cls yX9_isValue yX9_isValue ∈ am_T := am_mem 1 (by decide +kernel) (by decide +kernel)
set_option maxRecDepth 100000 in
theorem ym_X9_settleFromOutside : am_y yX9_settleFromOutside cX9_settleFromOutside 5 (some .boolean) 4 := ⟨am_mem 342 (by decide +kernel) (by decide +kernel), am_mem 46 (by decide +kernel) (by decide +kernel), by decide +kernel, by decide +kernel, by decide +kernel, by decide +kernel⟩
set_option maxRecDepth 100000 in
theorem im_X9_settleFromOutside : Cond.instanceMethod yX9_settleFromOutside ∈ am_T := am_mem 341 (by decide +kernel) (by decide +kernel)
set_option maxRecDepth 100000 in
theorem se_X9_settleFromOutside : Cond.selects yX9_settleFromOutside.cls yX9_settleFromOutside yX9_settleFromOutside ∈ am_T := am_mem 0 (by decide +kernel) (by decide +kernel)
set_option maxRecDepth 100000 in
theorem ym_X9_resolve : am_y yX9_resolve cX9_resolve 4 (some .boolean) 3 := ⟨am_mem 338 (by decide +kernel) (by decide +kernel), am_mem 46 (by decide +kernel) (by decide +kernel), by decide +kernel, by decide +kernel, by decide +kernel, by decide +kernel⟩
set_option maxRecDepth 100000 in
theorem ym_X9_reject : am_y yX9_reject cX9_reject 4 (some .boolean) 3 := ⟨am_mem 393 (by decide +kernel) (by decide +kernel), am_mem 46 (by decide +kernel) (by decide +kernel), by decide +kernel, by decide +kernel, by decide +kernel, by decide +kernel⟩
set_option maxRecDepth 100000 in
theorem ym_X9_isHandler : am_y yX9_isHandler cX9_isHandler 1 (some .boolean) 1 := ⟨am_mem 400 (by decide +kernel) (by decide +kernel), am_mem 46 (by decide +kernel) (by decide +kernel), by decide +kernel, by decide +kernel, by decide +kernel, by decide +kernel⟩
set_option maxRecDepth 100000 in
theorem st_X9_isHandler : Cond.static yX9_isHandler ∈ am_T := am_mem 399 (by decide +kernel) (by decide +kernel)
set_option maxRecDepth 100000 in
theorem fl_X9_58 : am_fld RX9 8 58 6 := ⟨TX9, 7, rfl, am_hin9, by decide, rfl, am_mem 303 (by decide +kernel) (by decide +kernel)⟩
set_option maxRecDepth 100000 in
theorem ym_X9_then : am_y yX9_then cX9_then 4 (some .int) 3 := ⟨am_mem 397 (by decide +kernel) (by decide +kernel), am_mem 46 (by decide +kernel) (by decide +kernel), by decide +kernel, by decide +kernel, by decide +kernel, by decide +kernel⟩
set_option maxRecDepth 100000 in
theorem fl_X9_19 : am_fld RX9 8 19 1 := ⟨TX9, 7, rfl, am_hin9, by decide, rfl, am_mem 298 (by decide +kernel) (by decide +kernel)⟩
set_option maxRecDepth 100000 in
theorem im_X7_change : Cond.instanceMethod yX7_change ∈ am_T := am_mem 421 (by decide +kernel) (by decide +kernel)
set_option maxRecDepth 100000 in
theorem se_X7_change : Cond.selects yX7_change.cls yX7_change yX7_change ∈ am_T := am_mem 422 (by decide +kernel) (by decide +kernel)
set_option maxRecDepth 100000 in
theorem ym_X9_thenable : am_y yX9_thenable cX9_thenable 7 (some .boolean) 6 := ⟨am_mem 419 (by decide +kernel) (by decide +kernel), am_mem 46 (by decide +kernel) (by decide +kernel), by decide +kernel, by decide +kernel, by decide +kernel, by decide +kernel⟩
set_option maxRecDepth 100000 in
theorem st_X0_mayBeStep : Cond.static yX0_mayBeStep ∈ am_T := am_mem 430 (by decide +kernel) (by decide +kernel)
set_option maxRecDepth 100000 in
theorem fl_X9_26 : am_fld RX9 8 26 2 := ⟨TX9, 7, rfl, am_hin9, by decide, rfl, am_mem 299 (by decide +kernel) (by decide +kernel)⟩
set_option maxRecDepth 100000 in
theorem im_X0_isFull : Cond.instanceMethod yX0_isFull ∈ am_T := am_mem 436 (by decide +kernel) (by decide +kernel)
set_option maxRecDepth 100000 in
theorem se_X0_isFull : Cond.selects yX0_isFull.cls yX0_isFull yX0_isFull ∈ am_T := am_mem 437 (by decide +kernel) (by decide +kernel)
set_option maxRecDepth 100000 in
theorem im_X0_add : Cond.instanceMethod yX0_add ∈ am_T := am_mem 441 (by decide +kernel) (by decide +kernel)
set_option maxRecDepth 100000 in
theorem se_X0_add : Cond.selects yX0_add.cls yX0_add yX0_add ∈ am_T := am_mem 442 (by decide +kernel) (by decide +kernel)
set_option maxRecDepth 100000 in
theorem ym_X9_step : am_y yX9_step cX9_step 5 (some .int) 4 := ⟨am_mem 428 (by decide +kernel) (by decide +kernel), am_mem 46 (by decide +kernel) (by decide +kernel), by decide +kernel, by decide +kernel, by decide +kernel, by decide +kernel⟩
set_option maxRecDepth 100000 in
theorem im_X0_removeAll : Cond.instanceMethod yX0_removeAll ∈ am_T := am_mem 450 (by decide +kernel) (by decide +kernel)
set_option maxRecDepth 100000 in
theorem se_X0_removeAll : Cond.selects yX0_removeAll.cls yX0_removeAll yX0_removeAll ∈ am_T := am_mem 451 (by decide +kernel) (by decide +kernel)
set_option maxRecDepth 100000 in
theorem ym_X9_empty : am_y yX9_empty cX9_empty 2 (some .int) 1 := ⟨am_mem 448 (by decide +kernel) (by decide +kernel), am_mem 46 (by decide +kernel) (by decide +kernel), by decide +kernel, by decide +kernel, by decide +kernel, by decide +kernel⟩
set_option maxRecDepth 100000 in
theorem im_X5_goOn : Cond.instanceMethod yX5_goOn ∈ am_T := am_mem 466 (by decide +kernel) (by decide +kernel)
set_option maxRecDepth 100000 in
theorem se_X5_goOn : Cond.selects yX5_goOn.cls yX5_goOn yX5_goOn ∈ am_T := am_mem 467 (by decide +kernel) (by decide +kernel)
set_option maxRecDepth 100000 in
theorem ym_X9_start : am_y yX9_start cX9_start 5 (some .int) 3 := ⟨am_mem 456 (by decide +kernel) (by decide +kernel), am_mem 46 (by decide +kernel) (by decide +kernel), by decide +kernel, by decide +kernel, by decide +kernel, by decide +kernel⟩
set_option maxRecDepth 100000 in
theorem fl_X9_33 : am_fld RX9 8 33 3 := ⟨TX9, 7, rfl, am_hin9, by decide, rfl, am_mem 300 (by decide +kernel) (by decide +kernel)⟩
set_option maxRecDepth 100000 in
theorem ym_X9_later : am_y yX9_later cX9_later 5 (some .int) 4 := ⟨am_mem 559 (by decide +kernel) (by decide +kernel), am_mem 46 (by decide +kernel) (by decide +kernel), by decide +kernel, by decide +kernel, by decide +kernel, by decide +kernel⟩
set_option maxRecDepth 100000 in
theorem fl_X9_49 : am_fld RX9 8 49 5 := ⟨TX9, 7, rfl, am_hin9, by decide, rfl, am_mem 302 (by decide +kernel) (by decide +kernel)⟩
set_option maxRecDepth 100000 in
theorem im_X1_isFull : Cond.instanceMethod yX1_isFull ∈ am_T := am_mem 567 (by decide +kernel) (by decide +kernel)
set_option maxRecDepth 100000 in
theorem se_X1_isFull : Cond.selects yX1_isFull.cls yX1_isFull yX1_isFull ∈ am_T := am_mem 568 (by decide +kernel) (by decide +kernel)
set_option maxRecDepth 100000 in
theorem im_X1_addItem : Cond.instanceMethod yX1_addItem ∈ am_T := am_mem 571 (by decide +kernel) (by decide +kernel)
set_option maxRecDepth 100000 in
theorem se_X1_addItem : Cond.selects yX1_addItem.cls yX1_addItem yX1_addItem ∈ am_T := am_mem 572 (by decide +kernel) (by decide +kernel)
set_option maxRecDepth 100000 in
theorem ym_X9_item : am_y yX9_item cX9_item 3 (some .int) 2 := ⟨am_mem 565 (by decide +kernel) (by decide +kernel), am_mem 46 (by decide +kernel) (by decide +kernel), by decide +kernel, by decide +kernel, by decide +kernel, by decide +kernel⟩
set_option maxRecDepth 100000 in
theorem im_X1_hasRoom : Cond.instanceMethod yX1_hasRoom ∈ am_T := am_mem 580 (by decide +kernel) (by decide +kernel)
set_option maxRecDepth 100000 in
theorem se_X1_hasRoom : Cond.selects yX1_hasRoom.cls yX1_hasRoom yX1_hasRoom ∈ am_T := am_mem 581 (by decide +kernel) (by decide +kernel)
set_option maxRecDepth 100000 in
theorem im_X1_form : Cond.instanceMethod yX1_form ∈ am_T := am_mem 587 (by decide +kernel) (by decide +kernel)
set_option maxRecDepth 100000 in
theorem se_X1_form : Cond.selects yX1_form.cls yX1_form yX1_form ∈ am_T := am_mem 588 (by decide +kernel) (by decide +kernel)
set_option maxRecDepth 100000 in
theorem ym_X9_group : am_y yX9_group cX9_group 2 (some .int) 1 := ⟨am_mem 578 (by decide +kernel) (by decide +kernel), am_mem 46 (by decide +kernel) (by decide +kernel), by decide +kernel, by decide +kernel, by decide +kernel, by decide +kernel⟩
set_option maxRecDepth 100000 in
theorem im_X7_kindOf : Cond.instanceMethod yX7_kindOf ∈ am_T := am_mem 655 (by decide +kernel) (by decide +kernel)
set_option maxRecDepth 100000 in
theorem se_X7_kindOf : Cond.selects yX7_kindOf.cls yX7_kindOf yX7_kindOf ∈ am_T := am_mem 656 (by decide +kernel) (by decide +kernel)
set_option maxRecDepth 100000 in
theorem im_X7_uOf : Cond.instanceMethod yX7_uOf ∈ am_T := am_mem 660 (by decide +kernel) (by decide +kernel)
set_option maxRecDepth 100000 in
theorem se_X7_uOf : Cond.selects yX7_uOf.cls yX7_uOf yX7_uOf ∈ am_T := am_mem 661 (by decide +kernel) (by decide +kernel)
set_option maxRecDepth 100000 in
theorem im_X7_wOf : Cond.instanceMethod yX7_wOf ∈ am_T := am_mem 665 (by decide +kernel) (by decide +kernel)
set_option maxRecDepth 100000 in
theorem se_X7_wOf : Cond.selects yX7_wOf.cls yX7_wOf yX7_wOf ∈ am_T := am_mem 666 (by decide +kernel) (by decide +kernel)
set_option maxRecDepth 100000 in
theorem ym_X9_adopt : am_y yX9_adopt cX9_adopt 6 none 3 := ⟨am_mem 649 (by decide +kernel) (by decide +kernel), am_mem 46 (by decide +kernel) (by decide +kernel), by decide +kernel, by decide +kernel, by decide +kernel, by decide +kernel⟩
set_option maxRecDepth 100000 in
theorem im_X3_sourceOf : Cond.instanceMethod yX3_sourceOf ∈ am_T := am_mem 626 (by decide +kernel) (by decide +kernel)
set_option maxRecDepth 100000 in
theorem se_X3_sourceOf : Cond.selects yX3_sourceOf.cls yX3_sourceOf yX3_sourceOf ∈ am_T := am_mem 627 (by decide +kernel) (by decide +kernel)
set_option maxRecDepth 100000 in
theorem im_X3_statusOf : Cond.instanceMethod yX3_statusOf ∈ am_T := am_mem 630 (by decide +kernel) (by decide +kernel)
set_option maxRecDepth 100000 in
theorem se_X3_statusOf : Cond.selects yX3_statusOf.cls yX3_statusOf yX3_statusOf ∈ am_T := am_mem 631 (by decide +kernel) (by decide +kernel)
set_option maxRecDepth 100000 in
theorem im_X3_valueOf : Cond.instanceMethod yX3_valueOf ∈ am_T := am_mem 634 (by decide +kernel) (by decide +kernel)
set_option maxRecDepth 100000 in
theorem se_X3_valueOf : Cond.selects yX3_valueOf.cls yX3_valueOf yX3_valueOf ∈ am_T := am_mem 635 (by decide +kernel) (by decide +kernel)
set_option maxRecDepth 100000 in
theorem im_X1_settlePlace : Cond.instanceMethod yX1_settlePlace ∈ am_T := am_mem 686 (by decide +kernel) (by decide +kernel)
set_option maxRecDepth 100000 in
theorem se_X1_settlePlace : Cond.selects yX1_settlePlace.cls yX1_settlePlace yX1_settlePlace ∈ am_T := am_mem 687 (by decide +kernel) (by decide +kernel)
set_option maxRecDepth 100000 in
theorem im_X3_toAdopt : Cond.instanceMethod yX3_toAdopt ∈ am_T := am_mem 639 (by decide +kernel) (by decide +kernel)
set_option maxRecDepth 100000 in
theorem se_X3_toAdopt : Cond.selects yX3_toAdopt.cls yX3_toAdopt yX3_toAdopt ∈ am_T := am_mem 640 (by decide +kernel) (by decide +kernel)
set_option maxRecDepth 100000 in
theorem im_X3_addKey : Cond.instanceMethod yX3_addKey ∈ am_T := am_mem 643 (by decide +kernel) (by decide +kernel)
set_option maxRecDepth 100000 in
theorem se_X3_addKey : Cond.selects yX3_addKey.cls yX3_addKey yX3_addKey ∈ am_T := am_mem 644 (by decide +kernel) (by decide +kernel)
set_option maxRecDepth 100000 in
theorem im_X9_adopt : Cond.instanceMethod yX9_adopt ∈ am_T := am_mem 648 (by decide +kernel) (by decide +kernel)
set_option maxRecDepth 100000 in
theorem se_X9_adopt : Cond.selects yX9_adopt.cls yX9_adopt yX9_adopt ∈ am_T := am_mem 13 (by decide +kernel) (by decide +kernel)
set_option maxRecDepth 100000 in
theorem im_X3_lastKeyOf : Cond.instanceMethod yX3_lastKeyOf ∈ am_T := am_mem 669 (by decide +kernel) (by decide +kernel)
set_option maxRecDepth 100000 in
theorem se_X3_lastKeyOf : Cond.selects yX3_lastKeyOf.cls yX3_lastKeyOf yX3_lastKeyOf ∈ am_T := am_mem 670 (by decide +kernel) (by decide +kernel)
set_option maxRecDepth 100000 in
theorem im_X5_handle : Cond.instanceMethod yX5_handle ∈ am_T := am_mem 673 (by decide +kernel) (by decide +kernel)
set_option maxRecDepth 100000 in
theorem se_X5_handle : Cond.selects yX5_handle.cls yX5_handle yX5_handle ∈ am_T := am_mem 674 (by decide +kernel) (by decide +kernel)
set_option maxRecDepth 100000 in
theorem im_X5_resume : Cond.instanceMethod yX5_resume ∈ am_T := am_mem 681 (by decide +kernel) (by decide +kernel)
set_option maxRecDepth 100000 in
theorem se_X5_resume : Cond.selects yX5_resume.cls yX5_resume yX5_resume ∈ am_T := am_mem 682 (by decide +kernel) (by decide +kernel)
set_option maxRecDepth 100000 in
theorem ym_X9_doJob : am_y yX9_doJob cX9_doJob 8 none 1 := ⟨am_mem 624 (by decide +kernel) (by decide +kernel), am_mem 46 (by decide +kernel) (by decide +kernel), by decide +kernel, by decide +kernel, by decide +kernel, by decide +kernel⟩
set_option maxRecDepth 100000 in
theorem im_X6_functionOf : Cond.instanceMethod yX6_functionOf ∈ am_T := am_mem 701 (by decide +kernel) (by decide +kernel)
set_option maxRecDepth 100000 in
theorem se_X6_functionOf : Cond.selects yX6_functionOf.cls yX6_functionOf yX6_functionOf ∈ am_T := am_mem 702 (by decide +kernel) (by decide +kernel)
set_option maxRecDepth 100000 in
theorem im_X6_valueOf : Cond.instanceMethod yX6_valueOf ∈ am_T := am_mem 705 (by decide +kernel) (by decide +kernel)
set_option maxRecDepth 100000 in
theorem se_X6_valueOf : Cond.selects yX6_valueOf.cls yX6_valueOf yX6_valueOf ∈ am_T := am_mem 706 (by decide +kernel) (by decide +kernel)
set_option maxRecDepth 100000 in
theorem im_X6_finish : Cond.instanceMethod yX6_finish ∈ am_T := am_mem 711 (by decide +kernel) (by decide +kernel)
set_option maxRecDepth 100000 in
theorem se_X6_finish : Cond.selects yX6_finish.cls yX6_finish yX6_finish ∈ am_T := am_mem 712 (by decide +kernel) (by decide +kernel)
set_option maxRecDepth 100000 in
theorem ym_X9_doTask : am_y yX9_doTask cX9_doTask 2 none 1 := ⟨am_mem 699 (by decide +kernel) (by decide +kernel), am_mem 46 (by decide +kernel) (by decide +kernel), by decide +kernel, by decide +kernel, by decide +kernel, by decide +kernel⟩
set_option maxRecDepth 100000 in
theorem im_X3_jobs : Cond.instanceMethod yX3_jobs ∈ am_T := am_mem 606 (by decide +kernel) (by decide +kernel)
set_option maxRecDepth 100000 in
theorem se_X3_jobs : Cond.selects yX3_jobs.cls yX3_jobs yX3_jobs ∈ am_T := am_mem 607 (by decide +kernel) (by decide +kernel)
set_option maxRecDepth 100000 in
theorem fl_X9_40 : am_fld RX9 8 40 4 := ⟨TX9, 7, rfl, am_hin9, by decide, rfl, am_mem 301 (by decide +kernel) (by decide +kernel)⟩
set_option maxRecDepth 100000 in
theorem im_X2_beginTurn : Cond.instanceMethod yX2_beginTurn ∈ am_T := am_mem 614 (by decide +kernel) (by decide +kernel)
set_option maxRecDepth 100000 in
theorem se_X2_beginTurn : Cond.selects yX2_beginTurn.cls yX2_beginTurn yX2_beginTurn ∈ am_T := am_mem 615 (by decide +kernel) (by decide +kernel)
set_option maxRecDepth 100000 in
theorem im_X6_dueFirst : Cond.instanceMethod yX6_dueFirst ∈ am_T := am_mem 692 (by decide +kernel) (by decide +kernel)
set_option maxRecDepth 100000 in
theorem se_X6_dueFirst : Cond.selects yX6_dueFirst.cls yX6_dueFirst yX6_dueFirst ∈ am_T := am_mem 693 (by decide +kernel) (by decide +kernel)
set_option maxRecDepth 100000 in
theorem im_X9_doTask : Cond.instanceMethod yX9_doTask ∈ am_T := am_mem 698 (by decide +kernel) (by decide +kernel)
set_option maxRecDepth 100000 in
theorem se_X9_doTask : Cond.selects yX9_doTask.cls yX9_doTask yX9_doTask ∈ am_T := am_mem 14 (by decide +kernel) (by decide +kernel)
set_option maxRecDepth 100000 in
theorem im_X3_takeJob : Cond.instanceMethod yX3_takeJob ∈ am_T := am_mem 618 (by decide +kernel) (by decide +kernel)
set_option maxRecDepth 100000 in
theorem se_X3_takeJob : Cond.selects yX3_takeJob.cls yX3_takeJob yX3_takeJob ∈ am_T := am_mem 619 (by decide +kernel) (by decide +kernel)
set_option maxRecDepth 100000 in
theorem im_X9_doJob : Cond.instanceMethod yX9_doJob ∈ am_T := am_mem 623 (by decide +kernel) (by decide +kernel)
set_option maxRecDepth 100000 in
theorem se_X9_doJob : Cond.selects yX9_doJob.cls yX9_doJob yX9_doJob ∈ am_T := am_mem 12 (by decide +kernel) (by decide +kernel)
set_option maxRecDepth 100000 in
theorem im_X6_size : Cond.instanceMethod yX6_size ∈ am_T := am_mem 610 (by decide +kernel) (by decide +kernel)
set_option maxRecDepth 100000 in
theorem se_X6_size : Cond.selects yX6_size.cls yX6_size yX6_size ∈ am_T := am_mem 611 (by decide +kernel) (by decide +kernel)
set_option maxRecDepth 100000 in
theorem ym_X9_run : am_y yX9_run cX9_run 3 (some .int) 1 := ⟨am_mem 604 (by decide +kernel) (by decide +kernel), am_mem 46 (by decide +kernel) (by decide +kernel), by decide +kernel, by decide +kernel, by decide +kernel, by decide +kernel⟩
set_option maxRecDepth 100000 in
theorem im_X3_clear : Cond.instanceMethod yX3_clear ∈ am_T := am_mem 722 (by decide +kernel) (by decide +kernel)
set_option maxRecDepth 100000 in
theorem se_X3_clear : Cond.selects yX3_clear.cls yX3_clear yX3_clear ∈ am_T := am_mem 723 (by decide +kernel) (by decide +kernel)
set_option maxRecDepth 100000 in
theorem im_X7_clear : Cond.instanceMethod yX7_clear ∈ am_T := am_mem 138 (by decide +kernel) (by decide +kernel)
set_option maxRecDepth 100000 in
theorem se_X7_clear : Cond.selects yX7_clear.cls yX7_clear yX7_clear ∈ am_T := am_mem 139 (by decide +kernel) (by decide +kernel)
set_option maxRecDepth 100000 in
theorem im_X6_clear : Cond.instanceMethod yX6_clear ∈ am_T := am_mem 727 (by decide +kernel) (by decide +kernel)
set_option maxRecDepth 100000 in
theorem se_X6_clear : Cond.selects yX6_clear.cls yX6_clear yX6_clear ∈ am_T := am_mem 728 (by decide +kernel) (by decide +kernel)
set_option maxRecDepth 100000 in
theorem im_X2_clear : Cond.instanceMethod yX2_clear ∈ am_T := am_mem 731 (by decide +kernel) (by decide +kernel)
set_option maxRecDepth 100000 in
theorem se_X2_clear : Cond.selects yX2_clear.cls yX2_clear yX2_clear ∈ am_T := am_mem 732 (by decide +kernel) (by decide +kernel)
set_option maxRecDepth 100000 in
theorem im_X1_clear : Cond.instanceMethod yX1_clear ∈ am_T := am_mem 735 (by decide +kernel) (by decide +kernel)
set_option maxRecDepth 100000 in
theorem se_X1_clear : Cond.selects yX1_clear.cls yX1_clear yX1_clear ∈ am_T := am_mem 736 (by decide +kernel) (by decide +kernel)
set_option maxRecDepth 100000 in
theorem im_X5_clear : Cond.instanceMethod yX5_clear ∈ am_T := am_mem 739 (by decide +kernel) (by decide +kernel)
set_option maxRecDepth 100000 in
theorem se_X5_clear : Cond.selects yX5_clear.cls yX5_clear yX5_clear ∈ am_T := am_mem 740 (by decide +kernel) (by decide +kernel)
set_option maxRecDepth 100000 in
theorem ym_X9_forget : am_y yX9_forget cX9_forget 2 (some .int) 0 := ⟨am_mem 720 (by decide +kernel) (by decide +kernel), am_mem 46 (by decide +kernel) (by decide +kernel), by decide +kernel, by decide +kernel, by decide +kernel, by decide +kernel⟩
set_option maxRecDepth 100000 in
theorem im_X3_reactionsOf : Cond.instanceMethod yX3_reactionsOf ∈ am_T := am_mem 752 (by decide +kernel) (by decide +kernel)
set_option maxRecDepth 100000 in
theorem se_X3_reactionsOf : Cond.selects yX3_reactionsOf.cls yX3_reactionsOf yX3_reactionsOf ∈ am_T := am_mem 753 (by decide +kernel) (by decide +kernel)
set_option maxRecDepth 100000 in
theorem im_X5_isStopped : Cond.instanceMethod yX5_isStopped ∈ am_T := am_mem 757 (by decide +kernel) (by decide +kernel)
set_option maxRecDepth 100000 in
theorem se_X5_isStopped : Cond.selects yX5_isStopped.cls yX5_isStopped yX5_isStopped ∈ am_T := am_mem 758 (by decide +kernel) (by decide +kernel)
set_option maxRecDepth 100000 in
theorem ym_X9_state : am_y yX9_state cX9_state 4 (some .int) 2 := ⟨am_mem 746 (by decide +kernel) (by decide +kernel), am_mem 46 (by decide +kernel) (by decide +kernel), by decide +kernel, by decide +kernel, by decide +kernel, by decide +kernel⟩
set_option maxRecDepth 100000 in
theorem im_X2_kept : Cond.instanceMethod yX2_kept ∈ am_T := am_mem 765 (by decide +kernel) (by decide +kernel)
set_option maxRecDepth 100000 in
theorem se_X2_kept : Cond.selects yX2_kept.cls yX2_kept yX2_kept ∈ am_T := am_mem 766 (by decide +kernel) (by decide +kernel)
set_option maxRecDepth 100000 in
theorem co_X9_209 : Cond.constantLong RX9 209 (Int64.ofInt 1099511627776) ∈ am_T := am_mem 771 (by decide +kernel) (by decide +kernel)
set_option maxRecDepth 100000 in
theorem im_X2_valueOf : Cond.instanceMethod yX2_valueOf ∈ am_T := am_mem 773 (by decide +kernel) (by decide +kernel)
set_option maxRecDepth 100000 in
theorem se_X2_valueOf : Cond.selects yX2_valueOf.cls yX2_valueOf yX2_valueOf ∈ am_T := am_mem 774 (by decide +kernel) (by decide +kernel)
set_option maxRecDepth 100000 in
theorem im_X2_turnOf : Cond.instanceMethod yX2_turnOf ∈ am_T := am_mem 778 (by decide +kernel) (by decide +kernel)
set_option maxRecDepth 100000 in
theorem se_X2_turnOf : Cond.selects yX2_turnOf.cls yX2_turnOf yX2_turnOf ∈ am_T := am_mem 779 (by decide +kernel) (by decide +kernel)
set_option maxRecDepth 100000 in
theorem ym_X9_noted : am_y yX9_noted cX9_noted 3 (some .long) 2 := ⟨am_mem 763 (by decide +kernel) (by decide +kernel), am_mem 46 (by decide +kernel) (by decide +kernel), by decide +kernel, by decide +kernel, by decide +kernel, by decide +kernel⟩
set_option maxRecDepth 100000 in
theorem im_X2_turns : Cond.instanceMethod yX2_turns ∈ am_T := am_mem 787 (by decide +kernel) (by decide +kernel)
set_option maxRecDepth 100000 in
theorem se_X2_turns : Cond.selects yX2_turns.cls yX2_turns yX2_turns ∈ am_T := am_mem 788 (by decide +kernel) (by decide +kernel)
set_option maxRecDepth 100000 in
theorem im_X6_time : Cond.instanceMethod yX6_time ∈ am_T := am_mem 791 (by decide +kernel) (by decide +kernel)
set_option maxRecDepth 100000 in
theorem se_X6_time : Cond.selects yX6_time.cls yX6_time yX6_time ∈ am_T := am_mem 792 (by decide +kernel) (by decide +kernel)
set_option maxRecDepth 100000 in
theorem im_X2_total : Cond.instanceMethod yX2_total ∈ am_T := am_mem 795 (by decide +kernel) (by decide +kernel)
set_option maxRecDepth 100000 in
theorem se_X2_total : Cond.selects yX2_total.cls yX2_total yX2_total ∈ am_T := am_mem 796 (by decide +kernel) (by decide +kernel)
set_option maxRecDepth 100000 in
theorem im_X3_loose : Cond.instanceMethod yX3_loose ∈ am_T := am_mem 799 (by decide +kernel) (by decide +kernel)
set_option maxRecDepth 100000 in
theorem se_X3_loose : Cond.selects yX3_loose.cls yX3_loose yX3_loose ∈ am_T := am_mem 800 (by decide +kernel) (by decide +kernel)
set_option maxRecDepth 100000 in
theorem im_X1_items : Cond.instanceMethod yX1_items ∈ am_T := am_mem 804 (by decide +kernel) (by decide +kernel)
set_option maxRecDepth 100000 in
theorem se_X1_items : Cond.selects yX1_items.cls yX1_items yX1_items ∈ am_T := am_mem 805 (by decide +kernel) (by decide +kernel)
set_option maxRecDepth 100000 in
theorem ym_X9_count : am_y yX9_count cX9_count 2 (some .int) 1 := ⟨am_mem 785 (by decide +kernel) (by decide +kernel), am_mem 46 (by decide +kernel) (by decide +kernel), by decide +kernel, by decide +kernel, by decide +kernel, by decide +kernel⟩
set_option maxRecDepth 100000 in
theorem fp_X10_152 : am_fldP RX10 9 152 9 .int := ⟨TX10, 57, tyX10, rfl, am_hin10, by decide, rfl, am_mem 826 (by decide +kernel) (by decide +kernel), tyX10_ok, nmX10, rfl, rfl⟩
set_option maxRecDepth 100000 in
theorem sk_74 : am_sk[74]? = some (.inl (9, am_lm)) := rfl
set_option maxRecDepth 100000 in
theorem fp_X10_156 : am_fldP RX10 9 156 19 .int := ⟨TX10, 57, tyX10, rfl, am_hin10, by decide, rfl, am_mem 836 (by decide +kernel) (by decide +kernel), tyX10_ok, nmX10, rfl, rfl⟩
set_option maxRecDepth 100000 in
theorem fp_X10_159 : am_fldP RX10 9 159 35 .int := ⟨TX10, 57, tyX10, rfl, am_hin10, by decide, rfl, am_mem 852 (by decide +kernel) (by decide +kernel), tyX10_ok, nmX10, rfl, rfl⟩
set_option maxRecDepth 100000 in
theorem fp_X10_162 : am_fldP RX10 9 162 41 .int := ⟨TX10, 57, tyX10, rfl, am_hin10, by decide, rfl, am_mem 858 (by decide +kernel) (by decide +kernel), tyX10_ok, nmX10, rfl, rfl⟩
set_option maxRecDepth 100000 in
theorem fp_X10_165 : am_fldP RX10 9 165 42 .int := ⟨TX10, 57, tyX10, rfl, am_hin10, by decide, rfl, am_mem 859 (by decide +kernel) (by decide +kernel), tyX10_ok, nmX10, rfl, rfl⟩
set_option maxRecDepth 100000 in
theorem fp_X10_168 : am_fldP RX10 9 168 46 .int := ⟨TX10, 57, tyX10, rfl, am_hin10, by decide, rfl, am_mem 863 (by decide +kernel) (by decide +kernel), tyX10_ok, nmX10, rfl, rfl⟩
set_option maxRecDepth 100000 in
theorem fl_X10_38 : am_fld RX10 9 38 10 := ⟨TX10, 57, rfl, am_hin10, by decide, rfl, am_mem 827 (by decide +kernel) (by decide +kernel)⟩
set_option maxRecDepth 100000 in
theorem sk_84 : am_sk[84]? = some (.inr (0, 800)) := rfl
set_option maxRecDepth 100000 in
theorem fl_X10_110 : am_fld RX10 9 110 36 := ⟨TX10, 57, rfl, am_hin10, by decide, rfl, am_mem 853 (by decide +kernel) (by decide +kernel)⟩
set_option maxRecDepth 100000 in
theorem sk_108 : am_sk[108]? = some (.inr (0, 32)) := rfl
set_option maxRecDepth 100000 in
theorem fl_X10_65 : am_fld RX10 9 65 20 := ⟨TX10, 57, rfl, am_hin10, by decide, rfl, am_mem 837 (by decide +kernel) (by decide +kernel)⟩
set_option maxRecDepth 100000 in
theorem sk_93 : am_sk[93]? = some (.inr (0, 4)) := rfl
set_option maxRecDepth 100000 in
theorem ym_X10_clear : am_y yX10_clear cX10_clear 2 none 0 := ⟨am_mem 816 (by decide +kernel) (by decide +kernel), am_mem 55 (by decide +kernel) (by decide +kernel), by decide +kernel, by decide +kernel, by decide +kernel, by decide +kernel⟩
set_option maxRecDepth 100000 in
theorem ym_X10_in : am_y yX10_in cX10_in 3 (some .boolean) 3 := ⟨am_mem 1005 (by decide +kernel) (by decide +kernel), am_mem 55 (by decide +kernel) (by decide +kernel), by decide +kernel, by decide +kernel, by decide +kernel, by decide +kernel⟩
set_option maxRecDepth 100000 in
theorem fl_X10_152 : am_fld RX10 9 152 9 := ⟨TX10, 57, rfl, am_hin10, by decide, rfl, am_mem 826 (by decide +kernel) (by decide +kernel)⟩
set_option maxRecDepth 100000 in
theorem st_X10_in : Cond.static yX10_in ∈ am_T := am_mem 1004 (by decide +kernel) (by decide +kernel)
set_option maxRecDepth 100000 in
theorem ym_X10_isPromise : am_y yX10_isPromise cX10_isPromise 2 (some .boolean) 1 := ⟨am_mem 1002 (by decide +kernel) (by decide +kernel), am_mem 55 (by decide +kernel) (by decide +kernel), by decide +kernel, by decide +kernel, by decide +kernel, by decide +kernel⟩
set_option maxRecDepth 100000 in
theorem im_X10_isPromise : Cond.instanceMethod yX10_isPromise ∈ am_T := am_mem 1001 (by decide +kernel) (by decide +kernel)
set_option maxRecDepth 100000 in
theorem se_X10_isPromise : Cond.selects yX10_isPromise.cls yX10_isPromise yX10_isPromise ∈ am_T := am_mem 16 (by decide +kernel) (by decide +kernel)
set_option maxRecDepth 100000 in
theorem ym_X10_isValue : am_y yX10_isValue cX10_isValue 3 (some .boolean) 2 := ⟨am_mem 1009 (by decide +kernel) (by decide +kernel), am_mem 55 (by decide +kernel) (by decide +kernel), by decide +kernel, by decide +kernel, by decide +kernel, by decide +kernel⟩
set_option maxRecDepth 100000 in
theorem fl_X10_7 : am_fld RX10 9 7 0 := ⟨TX10, 57, rfl, am_hin10, by decide, rfl, am_mem 817 (by decide +kernel) (by decide +kernel)⟩
set_option maxRecDepth 100000 in
theorem sk_75 : am_sk[75]? = some (.inr (0, 100)) := rfl
set_option maxRecDepth 100000 in
theorem fl_X10_19 : am_fld RX10 9 19 3 := ⟨TX10, 57, rfl, am_hin10, by decide, rfl, am_mem 820 (by decide +kernel) (by decide +kernel)⟩
set_option maxRecDepth 100000 in
theorem sk_78 : am_sk[78]? = some (.inr (0, 100)) := rfl
set_option maxRecDepth 100000 in
theorem fl_X10_28 : am_fld RX10 9 28 6 := ⟨TX10, 57, rfl, am_hin10, by decide, rfl, am_mem 823 (by decide +kernel) (by decide +kernel)⟩
set_option maxRecDepth 100000 in
theorem sk_81 : am_sk[81]? = some (.inr (1, 100)) := rfl
set_option maxRecDepth 100000 in
theorem fl_X10_32 : am_fld RX10 9 32 7 := ⟨TX10, 57, rfl, am_hin10, by decide, rfl, am_mem 824 (by decide +kernel) (by decide +kernel)⟩
set_option maxRecDepth 100000 in
theorem sk_82 : am_sk[82]? = some (.inr (1, 100)) := rfl
set_option maxRecDepth 100000 in
theorem fl_X10_35 : am_fld RX10 9 35 8 := ⟨TX10, 57, rfl, am_hin10, by decide, rfl, am_mem 825 (by decide +kernel) (by decide +kernel)⟩
set_option maxRecDepth 100000 in
theorem sk_83 : am_sk[83]? = some (.inr (1, 100)) := rfl
set_option maxRecDepth 100000 in
theorem ym_X10_promise : am_y yX10_promise cX10_promise 2 (some .int) 0 := ⟨am_mem 994 (by decide +kernel) (by decide +kernel), am_mem 55 (by decide +kernel) (by decide +kernel), by decide +kernel, by decide +kernel, by decide +kernel, by decide +kernel⟩
set_option maxRecDepth 100000 in
theorem fl_X10_41 : am_fld RX10 9 41 11 := ⟨TX10, 57, rfl, am_hin10, by decide, rfl, am_mem 828 (by decide +kernel) (by decide +kernel)⟩
set_option maxRecDepth 100000 in
theorem sk_85 : am_sk[85]? = some (.inr (0, 800)) := rfl
set_option maxRecDepth 100000 in
theorem fl_X10_44 : am_fld RX10 9 44 12 := ⟨TX10, 57, rfl, am_hin10, by decide, rfl, am_mem 829 (by decide +kernel) (by decide +kernel)⟩
set_option maxRecDepth 100000 in
theorem fl_X10_156 : am_fld RX10 9 156 19 := ⟨TX10, 57, rfl, am_hin10, by decide, rfl, am_mem 836 (by decide +kernel) (by decide +kernel)⟩
set_option maxRecDepth 100000 in
theorem sk_86 : am_sk[86]? = some (.inr (0, 800)) := rfl
set_option maxRecDepth 100000 in
theorem fl_X10_47 : am_fld RX10 9 47 13 := ⟨TX10, 57, rfl, am_hin10, by decide, rfl, am_mem 830 (by decide +kernel) (by decide +kernel)⟩
set_option maxRecDepth 100000 in
theorem sk_87 : am_sk[87]? = some (.inr (0, 800)) := rfl
set_option maxRecDepth 100000 in
theorem fl_X10_50 : am_fld RX10 9 50 14 := ⟨TX10, 57, rfl, am_hin10, by decide, rfl, am_mem 831 (by decide +kernel) (by decide +kernel)⟩
set_option maxRecDepth 100000 in
theorem sk_88 : am_sk[88]? = some (.inr (0, 800)) := rfl
set_option maxRecDepth 100000 in
theorem fl_X10_53 : am_fld RX10 9 53 15 := ⟨TX10, 57, rfl, am_hin10, by decide, rfl, am_mem 832 (by decide +kernel) (by decide +kernel)⟩
set_option maxRecDepth 100000 in
theorem sk_89 : am_sk[89]? = some (.inr (0, 800)) := rfl
set_option maxRecDepth 100000 in
theorem ym_X10_enter : am_y yX10_enter cX10_enter 7 (some .int) 5 := ⟨am_mem 1033 (by decide +kernel) (by decide +kernel), am_mem 55 (by decide +kernel) (by decide +kernel), by decide +kernel, by decide +kernel, by decide +kernel, by decide +kernel⟩
set_option maxRecDepth 100000 in
theorem fl_X10_56 : am_fld RX10 9 56 16 := ⟨TX10, 57, rfl, am_hin10, by decide, rfl, am_mem 833 (by decide +kernel) (by decide +kernel)⟩
set_option maxRecDepth 100000 in
theorem sk_90 : am_sk[90]? = some (.inr (0, 800)) := rfl
set_option maxRecDepth 100000 in
theorem fl_X10_59 : am_fld RX10 9 59 17 := ⟨TX10, 57, rfl, am_hin10, by decide, rfl, am_mem 834 (by decide +kernel) (by decide +kernel)⟩
set_option maxRecDepth 100000 in
theorem sk_91 : am_sk[91]? = some (.inr (0, 800)) := rfl
set_option maxRecDepth 100000 in
theorem fl_X10_62 : am_fld RX10 9 62 18 := ⟨TX10, 57, rfl, am_hin10, by decide, rfl, am_mem 835 (by decide +kernel) (by decide +kernel)⟩
set_option maxRecDepth 100000 in
theorem sk_92 : am_sk[92]? = some (.inr (0, 800)) := rfl
set_option maxRecDepth 100000 in
theorem ym_X10_carry : am_y yX10_carry cX10_carry 5 none 4 := ⟨am_mem 1029 (by decide +kernel) (by decide +kernel), am_mem 55 (by decide +kernel) (by decide +kernel), by decide +kernel, by decide +kernel, by decide +kernel, by decide +kernel⟩
set_option maxRecDepth 100000 in
theorem ym_X10_firstOn : am_y yX10_firstOn cX10_firstOn 4 (some .int) 1 := ⟨am_mem 1025 (by decide +kernel) (by decide +kernel), am_mem 55 (by decide +kernel) (by decide +kernel), by decide +kernel, by decide +kernel, by decide +kernel, by decide +kernel⟩
set_option maxRecDepth 100000 in
theorem fl_X10_13 : am_fld RX10 9 13 1 := ⟨TX10, 57, rfl, am_hin10, by decide, rfl, am_mem 818 (by decide +kernel) (by decide +kernel)⟩
set_option maxRecDepth 100000 in
theorem sk_76 : am_sk[76]? = some (.inr (0, 100)) := rfl
set_option maxRecDepth 100000 in
theorem fl_X10_16 : am_fld RX10 9 16 2 := ⟨TX10, 57, rfl, am_hin10, by decide, rfl, am_mem 819 (by decide +kernel) (by decide +kernel)⟩
set_option maxRecDepth 100000 in
theorem sk_77 : am_sk[77]? = some (.inr (0, 100)) := rfl
set_option maxRecDepth 100000 in
theorem im_X10_firstOn : Cond.instanceMethod yX10_firstOn ∈ am_T := am_mem 1024 (by decide +kernel) (by decide +kernel)
set_option maxRecDepth 100000 in
theorem se_X10_firstOn : Cond.selects yX10_firstOn.cls yX10_firstOn yX10_firstOn ∈ am_T := am_mem 21 (by decide +kernel) (by decide +kernel)
set_option maxRecDepth 100000 in
theorem im_X10_carry : Cond.instanceMethod yX10_carry ∈ am_T := am_mem 1028 (by decide +kernel) (by decide +kernel)
set_option maxRecDepth 100000 in
theorem se_X10_carry : Cond.selects yX10_carry.cls yX10_carry yX10_carry ∈ am_T := am_mem 22 (by decide +kernel) (by decide +kernel)
set_option maxRecDepth 100000 in
theorem ym_X10_settle : am_y yX10_settle cX10_settle 6 none 4 := ⟨am_mem 1021 (by decide +kernel) (by decide +kernel), am_mem 55 (by decide +kernel) (by decide +kernel), by decide +kernel, by decide +kernel, by decide +kernel, by decide +kernel⟩
set_option maxRecDepth 100000 in
theorem ym_X10_takes : am_y yX10_takes cX10_takes 4 (some .boolean) 2 := ⟨am_mem 1017 (by decide +kernel) (by decide +kernel), am_mem 55 (by decide +kernel) (by decide +kernel), by decide +kernel, by decide +kernel, by decide +kernel, by decide +kernel⟩
set_option maxRecDepth 100000 in
theorem im_X10_takes : Cond.instanceMethod yX10_takes ∈ am_T := am_mem 1016 (by decide +kernel) (by decide +kernel)
set_option maxRecDepth 100000 in
theorem se_X10_takes : Cond.selects yX10_takes.cls yX10_takes yX10_takes ∈ am_T := am_mem 19 (by decide +kernel) (by decide +kernel)
set_option maxRecDepth 100000 in
theorem im_X10_settle : Cond.instanceMethod yX10_settle ∈ am_T := am_mem 1020 (by decide +kernel) (by decide +kernel)
set_option maxRecDepth 100000 in
theorem se_X10_settle : Cond.selects yX10_settle.cls yX10_settle yX10_settle ∈ am_T := am_mem 20 (by decide +kernel) (by decide +kernel)
set_option maxRecDepth 100000 in
theorem im_X10_enter : Cond.instanceMethod yX10_enter ∈ am_T := am_mem 1032 (by decide +kernel) (by decide +kernel)
set_option maxRecDepth 100000 in
theorem se_X10_enter : Cond.selects yX10_enter.cls yX10_enter yX10_enter ∈ am_T := am_mem 23 (by decide +kernel) (by decide +kernel)
set_option maxRecDepth 100000 in
theorem ym_X10_resolveBy : am_y yX10_resolveBy cX10_resolveBy 7 none 4 := ⟨am_mem 1013 (by decide +kernel) (by decide +kernel), am_mem 55 (by decide +kernel) (by decide +kernel), by decide +kernel, by decide +kernel, by decide +kernel, by decide +kernel⟩
set_option maxRecDepth 100000 in
theorem ym_X10_rejectBy : am_y yX10_rejectBy cX10_rejectBy 6 none 4 := ⟨am_mem 1041 (by decide +kernel) (by decide +kernel), am_mem 55 (by decide +kernel) (by decide +kernel), by decide +kernel, by decide +kernel, by decide +kernel, by decide +kernel⟩
set_option maxRecDepth 100000 in
theorem im_X10_resolveBy : Cond.instanceMethod yX10_resolveBy ∈ am_T := am_mem 1012 (by decide +kernel) (by decide +kernel)
set_option maxRecDepth 100000 in
theorem se_X10_resolveBy : Cond.selects yX10_resolveBy.cls yX10_resolveBy yX10_resolveBy ∈ am_T := am_mem 18 (by decide +kernel) (by decide +kernel)
set_option maxRecDepth 100000 in
theorem im_X10_rejectBy : Cond.instanceMethod yX10_rejectBy ∈ am_T := am_mem 1040 (by decide +kernel) (by decide +kernel)
set_option maxRecDepth 100000 in
theorem se_X10_rejectBy : Cond.selects yX10_rejectBy.cls yX10_rejectBy yX10_rejectBy ∈ am_T := am_mem 24 (by decide +kernel) (by decide +kernel)
set_option maxRecDepth 100000 in
theorem ym_X10_endBy : am_y yX10_endBy cX10_endBy 6 none 5 := ⟨am_mem 1082 (by decide +kernel) (by decide +kernel), am_mem 55 (by decide +kernel) (by decide +kernel), by decide +kernel, by decide +kernel, by decide +kernel, by decide +kernel⟩
set_option maxRecDepth 100000 in
theorem ym_X10_waitFor : am_y yX10_waitFor cX10_waitFor 7 none 5 := ⟨am_mem 1050 (by decide +kernel) (by decide +kernel), am_mem 55 (by decide +kernel) (by decide +kernel), by decide +kernel, by decide +kernel, by decide +kernel, by decide +kernel⟩
set_option maxRecDepth 100000 in
theorem im_X10_isValue : Cond.instanceMethod yX10_isValue ∈ am_T := am_mem 1008 (by decide +kernel) (by decide +kernel)
set_option maxRecDepth 100000 in
theorem se_X10_isValue : Cond.selects yX10_isValue.cls yX10_isValue yX10_isValue ∈ am_T := am_mem 17 (by decide +kernel) (by decide +kernel)
set_option maxRecDepth 100000 in
theorem ym_X10_resolve : am_y yX10_resolve cX10_resolve 4 (some .boolean) 3 := ⟨am_mem 998 (by decide +kernel) (by decide +kernel), am_mem 55 (by decide +kernel) (by decide +kernel), by decide +kernel, by decide +kernel, by decide +kernel, by decide +kernel⟩
set_option maxRecDepth 100000 in
theorem ym_X10_reject : am_y yX10_reject cX10_reject 4 (some .boolean) 3 := ⟨am_mem 1037 (by decide +kernel) (by decide +kernel), am_mem 55 (by decide +kernel) (by decide +kernel), by decide +kernel, by decide +kernel, by decide +kernel, by decide +kernel⟩
set_option maxRecDepth 100000 in
theorem im_X10_promise : Cond.instanceMethod yX10_promise ∈ am_T := am_mem 992 (by decide +kernel) (by decide +kernel)
set_option maxRecDepth 100000 in
theorem se_X10_promise : Cond.selects yX10_promise.cls yX10_promise yX10_promise ∈ am_T := am_mem 993 (by decide +kernel) (by decide +kernel)
set_option maxRecDepth 100000 in
theorem im_X10_waitFor : Cond.instanceMethod yX10_waitFor ∈ am_T := am_mem 1049 (by decide +kernel) (by decide +kernel)
set_option maxRecDepth 100000 in
theorem se_X10_waitFor : Cond.selects yX10_waitFor.cls yX10_waitFor yX10_waitFor ∈ am_T := am_mem 25 (by decide +kernel) (by decide +kernel)
set_option maxRecDepth 100000 in
theorem ym_X10_then : am_y yX10_then cX10_then 5 (some .int) 3 := ⟨am_mem 1045 (by decide +kernel) (by decide +kernel), am_mem 55 (by decide +kernel) (by decide +kernel), by decide +kernel, by decide +kernel, by decide +kernel, by decide +kernel⟩
set_option maxRecDepth 100000 in
theorem fl_X10_68 : am_fld RX10 9 68 21 := ⟨TX10, 57, rfl, am_hin10, by decide, rfl, am_mem 838 (by decide +kernel) (by decide +kernel)⟩
set_option maxRecDepth 100000 in
theorem sk_94 : am_sk[94]? = some (.inr (0, 4)) := rfl
set_option maxRecDepth 100000 in
theorem fl_X10_71 : am_fld RX10 9 71 22 := ⟨TX10, 57, rfl, am_hin10, by decide, rfl, am_mem 839 (by decide +kernel) (by decide +kernel)⟩
set_option maxRecDepth 100000 in
theorem sk_95 : am_sk[95]? = some (.inr (0, 4)) := rfl
set_option maxRecDepth 100000 in
theorem fl_X10_74 : am_fld RX10 9 74 23 := ⟨TX10, 57, rfl, am_hin10, by decide, rfl, am_mem 840 (by decide +kernel) (by decide +kernel)⟩
set_option maxRecDepth 100000 in
theorem sk_96 : am_sk[96]? = some (.inr (0, 4)) := rfl
set_option maxRecDepth 100000 in
theorem fl_X10_77 : am_fld RX10 9 77 24 := ⟨TX10, 57, rfl, am_hin10, by decide, rfl, am_mem 841 (by decide +kernel) (by decide +kernel)⟩
set_option maxRecDepth 100000 in
theorem sk_97 : am_sk[97]? = some (.inr (0, 4)) := rfl
set_option maxRecDepth 100000 in
theorem ym_X10_thenable : am_y yX10_thenable cX10_thenable 7 (some .boolean) 6 := ⟨am_mem 1054 (by decide +kernel) (by decide +kernel), am_mem 55 (by decide +kernel) (by decide +kernel), by decide +kernel, by decide +kernel, by decide +kernel, by decide +kernel⟩
set_option maxRecDepth 100000 in
theorem fl_X10_80 : am_fld RX10 9 80 25 := ⟨TX10, 57, rfl, am_hin10, by decide, rfl, am_mem 842 (by decide +kernel) (by decide +kernel)⟩
set_option maxRecDepth 100000 in
theorem sk_98 : am_sk[98]? = some (.inr (0, 10)) := rfl
set_option maxRecDepth 100000 in
theorem fl_X10_83 : am_fld RX10 9 83 26 := ⟨TX10, 57, rfl, am_hin10, by decide, rfl, am_mem 843 (by decide +kernel) (by decide +kernel)⟩
set_option maxRecDepth 100000 in
theorem sk_99 : am_sk[99]? = some (.inr (0, 100)) := rfl
set_option maxRecDepth 100000 in
theorem fl_X10_86 : am_fld RX10 9 86 27 := ⟨TX10, 57, rfl, am_hin10, by decide, rfl, am_mem 844 (by decide +kernel) (by decide +kernel)⟩
set_option maxRecDepth 100000 in
theorem sk_100 : am_sk[100]? = some (.inr (0, 100)) := rfl
set_option maxRecDepth 100000 in
theorem fl_X10_89 : am_fld RX10 9 89 28 := ⟨TX10, 57, rfl, am_hin10, by decide, rfl, am_mem 845 (by decide +kernel) (by decide +kernel)⟩
set_option maxRecDepth 100000 in
theorem sk_101 : am_sk[101]? = some (.inr (0, 100)) := rfl
set_option maxRecDepth 100000 in
theorem ym_X10_step : am_y yX10_step cX10_step 7 (some .int) 4 := ⟨am_mem 1058 (by decide +kernel) (by decide +kernel), am_mem 55 (by decide +kernel) (by decide +kernel), by decide +kernel, by decide +kernel, by decide +kernel, by decide +kernel⟩
set_option maxRecDepth 100000 in
theorem ym_X10_empty : am_y yX10_empty cX10_empty 3 (some .int) 1 := ⟨am_mem 1062 (by decide +kernel) (by decide +kernel), am_mem 55 (by decide +kernel) (by decide +kernel), by decide +kernel, by decide +kernel, by decide +kernel, by decide +kernel⟩
set_option maxRecDepth 100000 in
theorem fl_X10_215 : am_fld RX10 9 215 52 := ⟨TX10, 57, rfl, am_hin10, by decide, rfl, am_mem 869 (by decide +kernel) (by decide +kernel)⟩
set_option maxRecDepth 100000 in
theorem fp_X10_215 : am_fldP RX10 9 215 52 .int := ⟨TX10, 57, tyX10, rfl, am_hin10, by decide, rfl, am_mem 869 (by decide +kernel) (by decide +kernel), tyX10_ok, nmX10, rfl, rfl⟩
set_option maxRecDepth 100000 in
theorem fl_X10_134 : am_fld RX10 9 134 47 := ⟨TX10, 57, rfl, am_hin10, by decide, rfl, am_mem 864 (by decide +kernel) (by decide +kernel)⟩
set_option maxRecDepth 100000 in
theorem sk_116 : am_sk[116]? = some (.inr (0, 110)) := rfl
set_option maxRecDepth 100000 in
theorem fl_X10_137 : am_fld RX10 9 137 48 := ⟨TX10, 57, rfl, am_hin10, by decide, rfl, am_mem 865 (by decide +kernel) (by decide +kernel)⟩
set_option maxRecDepth 100000 in
theorem sk_117 : am_sk[117]? = some (.inr (0, 110)) := rfl
set_option maxRecDepth 100000 in
theorem fl_X10_140 : am_fld RX10 9 140 49 := ⟨TX10, 57, rfl, am_hin10, by decide, rfl, am_mem 866 (by decide +kernel) (by decide +kernel)⟩
set_option maxRecDepth 100000 in
theorem sk_118 : am_sk[118]? = some (.inr (0, 110)) := rfl
set_option maxRecDepth 100000 in
theorem fl_X10_143 : am_fld RX10 9 143 50 := ⟨TX10, 57, rfl, am_hin10, by decide, rfl, am_mem 867 (by decide +kernel) (by decide +kernel)⟩
set_option maxRecDepth 100000 in
theorem sk_119 : am_sk[119]? = some (.inr (0, 110)) := rfl
set_option maxRecDepth 100000 in
theorem fl_X10_146 : am_fld RX10 9 146 51 := ⟨TX10, 57, rfl, am_hin10, by decide, rfl, am_mem 868 (by decide +kernel) (by decide +kernel)⟩
set_option maxRecDepth 100000 in
theorem sk_120 : am_sk[120]? = some (.inr (0, 110)) := rfl
set_option maxRecDepth 100000 in
theorem ym_X10_begin : am_y yX10_begin cX10_begin 6 none 5 := ⟨am_mem 1070 (by decide +kernel) (by decide +kernel), am_mem 55 (by decide +kernel) (by decide +kernel), by decide +kernel, by decide +kernel, by decide +kernel, by decide +kernel⟩
set_option maxRecDepth 100000 in
theorem ym_X10_put : am_y yX10_put cX10_put 3 none 2 := ⟨am_mem 1090 (by decide +kernel) (by decide +kernel), am_mem 55 (by decide +kernel) (by decide +kernel), by decide +kernel, by decide +kernel, by decide +kernel, by decide +kernel⟩
set_option maxRecDepth 100000 in
theorem ym_X10_endOf : am_y yX10_endOf cX10_endOf 6 (some .int) 2 := ⟨am_mem 1094 (by decide +kernel) (by decide +kernel), am_mem 55 (by decide +kernel) (by decide +kernel), by decide +kernel, by decide +kernel, by decide +kernel, by decide +kernel⟩
set_option maxRecDepth 100000 in
theorem fp_X10_234 : am_fldP RX10 9 234 56 .boolean := ⟨TX10, 57, tyX10, rfl, am_hin10, by decide, rfl, am_mem 873 (by decide +kernel) (by decide +kernel), tyX10_ok, nmX10, rfl, rfl⟩
set_option maxRecDepth 100000 in
theorem fp_X10_238 : am_fldP RX10 9 238 54 .int := ⟨TX10, 57, tyX10, rfl, am_hin10, by decide, rfl, am_mem 871 (by decide +kernel) (by decide +kernel), tyX10_ok, nmX10, rfl, rfl⟩
set_option maxRecDepth 100000 in
theorem fp_X10_241 : am_fldP RX10 9 241 55 .int := ⟨TX10, 57, tyX10, rfl, am_hin10, by decide, rfl, am_mem 872 (by decide +kernel) (by decide +kernel), tyX10_ok, nmX10, rfl, rfl⟩
set_option maxRecDepth 100000 in
theorem im_X10_endBy : Cond.instanceMethod yX10_endBy ∈ am_T := am_mem 1081 (by decide +kernel) (by decide +kernel)
set_option maxRecDepth 100000 in
theorem se_X10_endBy : Cond.selects yX10_endBy.cls yX10_endBy yX10_endBy ∈ am_T := am_mem 29 (by decide +kernel) (by decide +kernel)
set_option maxRecDepth 100000 in
theorem ym_X10_finish : am_y yX10_finish cX10_finish 5 none 3 := ⟨am_mem 1078 (by decide +kernel) (by decide +kernel), am_mem 55 (by decide +kernel) (by decide +kernel), by decide +kernel, by decide +kernel, by decide +kernel, by decide +kernel⟩
set_option maxRecDepth 100000 in
theorem im_X10_put : Cond.instanceMethod yX10_put ∈ am_T := am_mem 1089 (by decide +kernel) (by decide +kernel)
set_option maxRecDepth 100000 in
theorem se_X10_put : Cond.selects yX10_put.cls yX10_put yX10_put ∈ am_T := am_mem 31 (by decide +kernel) (by decide +kernel)
set_option maxRecDepth 100000 in
theorem im_X10_finish : Cond.instanceMethod yX10_finish ∈ am_T := am_mem 1077 (by decide +kernel) (by decide +kernel)
set_option maxRecDepth 100000 in
theorem se_X10_finish : Cond.selects yX10_finish.cls yX10_finish yX10_finish ∈ am_T := am_mem 28 (by decide +kernel) (by decide +kernel)
set_option maxRecDepth 100000 in
theorem im_X10_endOf : Cond.instanceMethod yX10_endOf ∈ am_T := am_mem 1093 (by decide +kernel) (by decide +kernel)
set_option maxRecDepth 100000 in
theorem se_X10_endOf : Cond.selects yX10_endOf.cls yX10_endOf yX10_endOf ∈ am_T := am_mem 32 (by decide +kernel) (by decide +kernel)
set_option maxRecDepth 100000 in
theorem ym_X10_fling : am_y yX10_fling cX10_fling 7 none 2 := ⟨am_mem 1086 (by decide +kernel) (by decide +kernel), am_mem 55 (by decide +kernel) (by decide +kernel), by decide +kernel, by decide +kernel, by decide +kernel, by decide +kernel⟩
set_option maxRecDepth 100000 in
theorem fl_X10_125 : am_fld RX10 9 125 43 := ⟨TX10, 57, rfl, am_hin10, by decide, rfl, am_mem 860 (by decide +kernel) (by decide +kernel)⟩
set_option maxRecDepth 100000 in
theorem fl_X10_168 : am_fld RX10 9 168 46 := ⟨TX10, 57, rfl, am_hin10, by decide, rfl, am_mem 863 (by decide +kernel) (by decide +kernel)⟩
set_option maxRecDepth 100000 in
theorem sk_113 : am_sk[113]? = some (.inr (0, 60)) := rfl
set_option maxRecDepth 100000 in
theorem fl_X10_128 : am_fld RX10 9 128 44 := ⟨TX10, 57, rfl, am_hin10, by decide, rfl, am_mem 861 (by decide +kernel) (by decide +kernel)⟩
set_option maxRecDepth 100000 in
theorem sk_114 : am_sk[114]? = some (.inr (0, 60)) := rfl
set_option maxRecDepth 100000 in
theorem fl_X10_131 : am_fld RX10 9 131 45 := ⟨TX10, 57, rfl, am_hin10, by decide, rfl, am_mem 862 (by decide +kernel) (by decide +kernel)⟩
set_option maxRecDepth 100000 in
theorem fl_X10_165 : am_fld RX10 9 165 42 := ⟨TX10, 57, rfl, am_hin10, by decide, rfl, am_mem 859 (by decide +kernel) (by decide +kernel)⟩
set_option maxRecDepth 100000 in
theorem sk_115 : am_sk[115]? = some (.inr (0, 60)) := rfl
set_option maxRecDepth 100000 in
theorem ym_X10_note : am_y yX10_note cX10_note 3 none 2 := ⟨am_mem 1102 (by decide +kernel) (by decide +kernel), am_mem 55 (by decide +kernel) (by decide +kernel), by decide +kernel, by decide +kernel, by decide +kernel, by decide +kernel⟩
set_option maxRecDepth 100000 in
theorem im_X10_fling : Cond.instanceMethod yX10_fling ∈ am_T := am_mem 1085 (by decide +kernel) (by decide +kernel)
set_option maxRecDepth 100000 in
theorem se_X10_fling : Cond.selects yX10_fling.cls yX10_fling yX10_fling ∈ am_T := am_mem 30 (by decide +kernel) (by decide +kernel)
set_option maxRecDepth 100000 in
theorem fl_X10_22 : am_fld RX10 9 22 4 := ⟨TX10, 57, rfl, am_hin10, by decide, rfl, am_mem 821 (by decide +kernel) (by decide +kernel)⟩
set_option maxRecDepth 100000 in
theorem sk_79 : am_sk[79]? = some (.inr (0, 100)) := rfl
set_option maxRecDepth 100000 in
theorem fl_X10_25 : am_fld RX10 9 25 5 := ⟨TX10, 57, rfl, am_hin10, by decide, rfl, am_mem 822 (by decide +kernel) (by decide +kernel)⟩
set_option maxRecDepth 100000 in
theorem sk_80 : am_sk[80]? = some (.inr (0, 100)) := rfl
set_option maxRecDepth 100000 in
theorem ym_X10_awaits : am_y yX10_awaits cX10_awaits 3 none 0 := ⟨am_mem 1106 (by decide +kernel) (by decide +kernel), am_mem 55 (by decide +kernel) (by decide +kernel), by decide +kernel, by decide +kernel, by decide +kernel, by decide +kernel⟩
set_option maxRecDepth 100000 in
theorem ym_X10_make : am_y yX10_make cX10_make 2 (some .int) 0 := ⟨am_mem 1110 (by decide +kernel) (by decide +kernel), am_mem 55 (by decide +kernel) (by decide +kernel), by decide +kernel, by decide +kernel, by decide +kernel, by decide +kernel⟩
set_option maxRecDepth 100000 in
theorem fl_X10_162 : am_fld RX10 9 162 41 := ⟨TX10, 57, rfl, am_hin10, by decide, rfl, am_mem 858 (by decide +kernel) (by decide +kernel)⟩
set_option maxRecDepth 100000 in
theorem fl_X10_113 : am_fld RX10 9 113 37 := ⟨TX10, 57, rfl, am_hin10, by decide, rfl, am_mem 854 (by decide +kernel) (by decide +kernel)⟩
set_option maxRecDepth 100000 in
theorem sk_109 : am_sk[109]? = some (.inr (0, 32)) := rfl
set_option maxRecDepth 100000 in
theorem fl_X10_116 : am_fld RX10 9 116 38 := ⟨TX10, 57, rfl, am_hin10, by decide, rfl, am_mem 855 (by decide +kernel) (by decide +kernel)⟩
set_option maxRecDepth 100000 in
theorem sk_110 : am_sk[110]? = some (.inr (0, 32)) := rfl
set_option maxRecDepth 100000 in
theorem fl_X10_119 : am_fld RX10 9 119 39 := ⟨TX10, 57, rfl, am_hin10, by decide, rfl, am_mem 856 (by decide +kernel) (by decide +kernel)⟩
set_option maxRecDepth 100000 in
theorem sk_111 : am_sk[111]? = some (.inr (0, 32)) := rfl
set_option maxRecDepth 100000 in
theorem fl_X10_122 : am_fld RX10 9 122 40 := ⟨TX10, 57, rfl, am_hin10, by decide, rfl, am_mem 857 (by decide +kernel) (by decide +kernel)⟩
set_option maxRecDepth 100000 in
theorem sk_112 : am_sk[112]? = some (.inr (0, 32)) := rfl
set_option maxRecDepth 100000 in
theorem ym_X10_task : am_y yX10_task cX10_task 6 (some .boolean) 4 := ⟨am_mem 1114 (by decide +kernel) (by decide +kernel), am_mem 55 (by decide +kernel) (by decide +kernel), by decide +kernel, by decide +kernel, by decide +kernel, by decide +kernel⟩
set_option maxRecDepth 100000 in
theorem im_X10_note : Cond.instanceMethod yX10_note ∈ am_T := am_mem 1101 (by decide +kernel) (by decide +kernel)
set_option maxRecDepth 100000 in
theorem se_X10_note : Cond.selects yX10_note.cls yX10_note yX10_note ∈ am_T := am_mem 34 (by decide +kernel) (by decide +kernel)
set_option maxRecDepth 100000 in
theorem im_X10_awaits : Cond.instanceMethod yX10_awaits ∈ am_T := am_mem 1105 (by decide +kernel) (by decide +kernel)
set_option maxRecDepth 100000 in
theorem se_X10_awaits : Cond.selects yX10_awaits.cls yX10_awaits yX10_awaits ∈ am_T := am_mem 35 (by decide +kernel) (by decide +kernel)
set_option maxRecDepth 100000 in
theorem im_X10_make : Cond.instanceMethod yX10_make ∈ am_T := am_mem 1109 (by decide +kernel) (by decide +kernel)
set_option maxRecDepth 100000 in
theorem se_X10_make : Cond.selects yX10_make.cls yX10_make yX10_make ∈ am_T := am_mem 36 (by decide +kernel) (by decide +kernel)
set_option maxRecDepth 100000 in
theorem im_X10_begin : Cond.instanceMethod yX10_begin ∈ am_T := am_mem 1069 (by decide +kernel) (by decide +kernel)
set_option maxRecDepth 100000 in
theorem se_X10_begin : Cond.selects yX10_begin.cls yX10_begin yX10_begin ∈ am_T := am_mem 26 (by decide +kernel) (by decide +kernel)
set_option maxRecDepth 100000 in
theorem im_X10_task : Cond.instanceMethod yX10_task ∈ am_T := am_mem 1113 (by decide +kernel) (by decide +kernel)
set_option maxRecDepth 100000 in
theorem se_X10_task : Cond.selects yX10_task.cls yX10_task yX10_task ∈ am_T := am_mem 37 (by decide +kernel) (by decide +kernel)
set_option maxRecDepth 100000 in
theorem ym_X10_does : am_y yX10_does cX10_does 9 none 3 := ⟨am_mem 1098 (by decide +kernel) (by decide +kernel), am_mem 55 (by decide +kernel) (by decide +kernel), by decide +kernel, by decide +kernel, by decide +kernel, by decide +kernel⟩
set_option maxRecDepth 100000 in
theorem fl_X10_263 : am_fld RX10 9 263 53 := ⟨TX10, 57, rfl, am_hin10, by decide, rfl, am_mem 870 (by decide +kernel) (by decide +kernel)⟩
set_option maxRecDepth 100000 in
theorem fp_X10_263 : am_fldP RX10 9 263 53 .int := ⟨TX10, 57, tyX10, rfl, am_hin10, by decide, rfl, am_mem 870 (by decide +kernel) (by decide +kernel), tyX10_ok, nmX10, rfl, rfl⟩
set_option maxRecDepth 100000 in
theorem im_X10_does : Cond.instanceMethod yX10_does ∈ am_T := am_mem 1097 (by decide +kernel) (by decide +kernel)
set_option maxRecDepth 100000 in
theorem se_X10_does : Cond.selects yX10_does.cls yX10_does yX10_does ∈ am_T := am_mem 33 (by decide +kernel) (by decide +kernel)
set_option maxRecDepth 100000 in
theorem ym_X10_go : am_y yX10_go cX10_go 4 none 0 := ⟨am_mem 1074 (by decide +kernel) (by decide +kernel), am_mem 55 (by decide +kernel) (by decide +kernel), by decide +kernel, by decide +kernel, by decide +kernel, by decide +kernel⟩
set_option maxRecDepth 100000 in
theorem im_X10_go : Cond.instanceMethod yX10_go ∈ am_T := am_mem 1073 (by decide +kernel) (by decide +kernel)
set_option maxRecDepth 100000 in
theorem se_X10_go : Cond.selects yX10_go.cls yX10_go yX10_go ∈ am_T := am_mem 27 (by decide +kernel) (by decide +kernel)
set_option maxRecDepth 100000 in
theorem ym_X10_start : am_y yX10_start cX10_start 5 (some .int) 3 := ⟨am_mem 1066 (by decide +kernel) (by decide +kernel), am_mem 55 (by decide +kernel) (by decide +kernel), by decide +kernel, by decide +kernel, by decide +kernel, by decide +kernel⟩
set_option maxRecDepth 100000 in
theorem ym_X10_isLoose : am_y yX10_isLoose cX10_isLoose 2 (some .boolean) 1 := ⟨am_mem 1130 (by decide +kernel) (by decide +kernel), am_mem 55 (by decide +kernel) (by decide +kernel), by decide +kernel, by decide +kernel, by decide +kernel, by decide +kernel⟩
set_option maxRecDepth 100000 in
theorem ym_X10_waiting : am_y yX10_waiting cX10_waiting 4 (some .int) 1 := ⟨am_mem 1126 (by decide +kernel) (by decide +kernel), am_mem 55 (by decide +kernel) (by decide +kernel), by decide +kernel, by decide +kernel, by decide +kernel, by decide +kernel⟩
set_option maxRecDepth 100000 in
theorem im_X10_waiting : Cond.instanceMethod yX10_waiting ∈ am_T := am_mem 1125 (by decide +kernel) (by decide +kernel)
set_option maxRecDepth 100000 in
theorem se_X10_waiting : Cond.selects yX10_waiting.cls yX10_waiting yX10_waiting ∈ am_T := am_mem 38 (by decide +kernel) (by decide +kernel)
set_option maxRecDepth 100000 in
theorem fl_X10_159 : am_fld RX10 9 159 35 := ⟨TX10, 57, rfl, am_hin10, by decide, rfl, am_mem 852 (by decide +kernel) (by decide +kernel)⟩
set_option maxRecDepth 100000 in
theorem im_X10_isLoose : Cond.instanceMethod yX10_isLoose ∈ am_T := am_mem 1129 (by decide +kernel) (by decide +kernel)
set_option maxRecDepth 100000 in
theorem se_X10_isLoose : Cond.selects yX10_isLoose.cls yX10_isLoose yX10_isLoose ∈ am_T := am_mem 39 (by decide +kernel) (by decide +kernel)
set_option maxRecDepth 100000 in
theorem ym_X10_count : am_y yX10_count cX10_count 4 (some .int) 1 := ⟨am_mem 1122 (by decide +kernel) (by decide +kernel), am_mem 55 (by decide +kernel) (by decide +kernel), by decide +kernel, by decide +kernel, by decide +kernel, by decide +kernel⟩
set_option maxRecDepth 100000 in
theorem im_X10_count : Cond.instanceMethod yX10_count ∈ am_T := am_mem 1120 (by decide +kernel) (by decide +kernel)
set_option maxRecDepth 100000 in
theorem se_X10_count : Cond.selects yX10_count.cls yX10_count yX10_count ∈ am_T := am_mem 1121 (by decide +kernel) (by decide +kernel)
set_option maxRecDepth 100000 in
theorem ym_X10_later : am_y yX10_later cX10_later 6 (some .int) 4 := ⟨am_mem 1118 (by decide +kernel) (by decide +kernel), am_mem 55 (by decide +kernel) (by decide +kernel), by decide +kernel, by decide +kernel, by decide +kernel, by decide +kernel⟩
set_option maxRecDepth 100000 in
theorem fl_X10_104 : am_fld RX10 9 104 33 := ⟨TX10, 57, rfl, am_hin10, by decide, rfl, am_mem 850 (by decide +kernel) (by decide +kernel)⟩
set_option maxRecDepth 100000 in
theorem sk_106 : am_sk[106]? = some (.inr (0, 5)) := rfl
set_option maxRecDepth 100000 in
theorem fl_X10_107 : am_fld RX10 9 107 34 := ⟨TX10, 57, rfl, am_hin10, by decide, rfl, am_mem 851 (by decide +kernel) (by decide +kernel)⟩
set_option maxRecDepth 100000 in
theorem sk_107 : am_sk[107]? = some (.inr (0, 5)) := rfl
set_option maxRecDepth 100000 in
theorem ym_X10_item : am_y yX10_item cX10_item 3 (some .int) 2 := ⟨am_mem 1134 (by decide +kernel) (by decide +kernel), am_mem 55 (by decide +kernel) (by decide +kernel), by decide +kernel, by decide +kernel, by decide +kernel, by decide +kernel⟩
set_option maxRecDepth 100000 in
theorem fl_X10_92 : am_fld RX10 9 92 29 := ⟨TX10, 57, rfl, am_hin10, by decide, rfl, am_mem 846 (by decide +kernel) (by decide +kernel)⟩
set_option maxRecDepth 100000 in
theorem sk_102 : am_sk[102]? = some (.inr (0, 100)) := rfl
set_option maxRecDepth 100000 in
theorem fl_X10_95 : am_fld RX10 9 95 30 := ⟨TX10, 57, rfl, am_hin10, by decide, rfl, am_mem 847 (by decide +kernel) (by decide +kernel)⟩
set_option maxRecDepth 100000 in
theorem sk_103 : am_sk[103]? = some (.inr (0, 100)) := rfl
set_option maxRecDepth 100000 in
theorem fl_X10_98 : am_fld RX10 9 98 31 := ⟨TX10, 57, rfl, am_hin10, by decide, rfl, am_mem 848 (by decide +kernel) (by decide +kernel)⟩
set_option maxRecDepth 100000 in
theorem sk_104 : am_sk[104]? = some (.inr (0, 100)) := rfl
set_option maxRecDepth 100000 in
theorem fl_X10_101 : am_fld RX10 9 101 32 := ⟨TX10, 57, rfl, am_hin10, by decide, rfl, am_mem 849 (by decide +kernel) (by decide +kernel)⟩
set_option maxRecDepth 100000 in
theorem sk_105 : am_sk[105]? = some (.inr (0, 100)) := rfl
set_option maxRecDepth 100000 in
theorem ym_X10_group : am_y yX10_group cX10_group 6 (some .int) 1 := ⟨am_mem 1138 (by decide +kernel) (by decide +kernel), am_mem 55 (by decide +kernel) (by decide +kernel), by decide +kernel, by decide +kernel, by decide +kernel, by decide +kernel⟩
set_option maxRecDepth 100000 in
theorem ym_X10_placed : am_y yX10_placed cX10_placed 8 none 5 := ⟨am_mem 1158 (by decide +kernel) (by decide +kernel), am_mem 55 (by decide +kernel) (by decide +kernel), by decide +kernel, by decide +kernel, by decide +kernel, by decide +kernel⟩
set_option maxRecDepth 100000 in
theorem ym_X10_adopt : am_y yX10_adopt cX10_adopt 5 none 3 := ⟨am_mem 1154 (by decide +kernel) (by decide +kernel), am_mem 55 (by decide +kernel) (by decide +kernel), by decide +kernel, by decide +kernel, by decide +kernel, by decide +kernel⟩
set_option maxRecDepth 100000 in
theorem ym_X10_done : am_y yX10_done cX10_done 4 none 3 := ⟨am_mem 1162 (by decide +kernel) (by decide +kernel), am_mem 55 (by decide +kernel) (by decide +kernel), by decide +kernel, by decide +kernel, by decide +kernel, by decide +kernel⟩
set_option maxRecDepth 100000 in
theorem im_X10_placed : Cond.instanceMethod yX10_placed ∈ am_T := am_mem 1157 (by decide +kernel) (by decide +kernel)
set_option maxRecDepth 100000 in
theorem se_X10_placed : Cond.selects yX10_placed.cls yX10_placed yX10_placed ∈ am_T := am_mem 43 (by decide +kernel) (by decide +kernel)
set_option maxRecDepth 100000 in
theorem im_X10_adopt : Cond.instanceMethod yX10_adopt ∈ am_T := am_mem 1153 (by decide +kernel) (by decide +kernel)
set_option maxRecDepth 100000 in
theorem se_X10_adopt : Cond.selects yX10_adopt.cls yX10_adopt yX10_adopt ∈ am_T := am_mem 42 (by decide +kernel) (by decide +kernel)
set_option maxRecDepth 100000 in
theorem im_X10_done : Cond.instanceMethod yX10_done ∈ am_T := am_mem 1161 (by decide +kernel) (by decide +kernel)
set_option maxRecDepth 100000 in
theorem se_X10_done : Cond.selects yX10_done.cls yX10_done yX10_done ∈ am_T := am_mem 44 (by decide +kernel) (by decide +kernel)
set_option maxRecDepth 100000 in
theorem fl_X10_234 : am_fld RX10 9 234 56 := ⟨TX10, 57, rfl, am_hin10, by decide, rfl, am_mem 873 (by decide +kernel) (by decide +kernel)⟩
set_option maxRecDepth 100000 in
theorem fl_X10_238 : am_fld RX10 9 238 54 := ⟨TX10, 57, rfl, am_hin10, by decide, rfl, am_mem 871 (by decide +kernel) (by decide +kernel)⟩
set_option maxRecDepth 100000 in
theorem fl_X10_241 : am_fld RX10 9 241 55 := ⟨TX10, 57, rfl, am_hin10, by decide, rfl, am_mem 872 (by decide +kernel) (by decide +kernel)⟩
set_option maxRecDepth 100000 in
theorem ym_X10_job : am_y yX10_job cX10_job 10 none 1 := ⟨am_mem 1150 (by decide +kernel) (by decide +kernel), am_mem 55 (by decide +kernel) (by decide +kernel), by decide +kernel, by decide +kernel, by decide +kernel, by decide +kernel⟩
set_option maxRecDepth 100000 in
theorem im_X10_job : Cond.instanceMethod yX10_job ∈ am_T := am_mem 1149 (by decide +kernel) (by decide +kernel)
set_option maxRecDepth 100000 in
theorem se_X10_job : Cond.selects yX10_job.cls yX10_job yX10_job ∈ am_T := am_mem 41 (by decide +kernel) (by decide +kernel)
set_option maxRecDepth 100000 in
theorem ym_X10_turn : am_y yX10_turn cX10_turn 4 (some .boolean) 0 := ⟨am_mem 1146 (by decide +kernel) (by decide +kernel), am_mem 55 (by decide +kernel) (by decide +kernel), by decide +kernel, by decide +kernel, by decide +kernel, by decide +kernel⟩
set_option maxRecDepth 100000 in
theorem im_X10_turn : Cond.instanceMethod yX10_turn ∈ am_T := am_mem 1145 (by decide +kernel) (by decide +kernel)
set_option maxRecDepth 100000 in
theorem se_X10_turn : Cond.selects yX10_turn.cls yX10_turn yX10_turn ∈ am_T := am_mem 40 (by decide +kernel) (by decide +kernel)
set_option maxRecDepth 100000 in
theorem ym_X10_run : am_y yX10_run cX10_run 4 (some .int) 1 := ⟨am_mem 1142 (by decide +kernel) (by decide +kernel), am_mem 55 (by decide +kernel) (by decide +kernel), by decide +kernel, by decide +kernel, by decide +kernel, by decide +kernel⟩
set_option maxRecDepth 100000 in
theorem im_X10_clear : Cond.instanceMethod yX10_clear ∈ am_T := am_mem 815 (by decide +kernel) (by decide +kernel)
set_option maxRecDepth 100000 in
theorem se_X10_clear : Cond.selects yX10_clear.cls yX10_clear yX10_clear ∈ am_T := am_mem 15 (by decide +kernel) (by decide +kernel)
set_option maxRecDepth 100000 in
theorem ym_X10_forget : am_y yX10_forget cX10_forget 2 (some .int) 0 := ⟨am_mem 1166 (by decide +kernel) (by decide +kernel), am_mem 55 (by decide +kernel) (by decide +kernel), by decide +kernel, by decide +kernel, by decide +kernel, by decide +kernel⟩
set_option maxRecDepth 100000 in
theorem ym_X10_state : am_y yX10_state cX10_state 3 (some .int) 2 := ⟨am_mem 1170 (by decide +kernel) (by decide +kernel), am_mem 55 (by decide +kernel) (by decide +kernel), by decide +kernel, by decide +kernel, by decide +kernel, by decide +kernel⟩
set_option maxRecDepth 100000 in
theorem co_X10_299 : Cond.constantLong RX10 299 (Int64.ofInt 1099511627776) ∈ am_T := am_mem 1175 (by decide +kernel) (by decide +kernel)
set_option maxRecDepth 100000 in
theorem ym_X10_noted : am_y yX10_noted cX10_noted 4 (some .long) 2 := ⟨am_mem 1174 (by decide +kernel) (by decide +kernel), am_mem 55 (by decide +kernel) (by decide +kernel), by decide +kernel, by decide +kernel, by decide +kernel, by decide +kernel⟩
end
